/-- what the tables say of our classes -/
def CL (ci : Nat) (C : String) (T : u_T) (N : Nat) (ty : Nat → FieldType) : Prop := vwCl[ci]? = some (C, T, N) ∧ (∀ w ∈ u_ws C T N, w ∈ GW) ∧ (∀ k, k < N → parseFieldDescriptor (T k).2.2.1 = some (ty k)) ∧ (∀ a, a < N → ∀ b, b < N → a ≠ b → (T a).2.1 ≠ (T b).2.1)
/-- entry i of the pool of own is the field kx of kind ci -/
def FL (own : String) (i ci kx : Nat) (fin : Bool) (ft : FieldType) : Prop := ∃ (C : String) (T : u_T) (N : Nat) (ty : Nat → FieldType), CL ci C T N ty ∧ kx < N ∧ Cond.fieldLink own i (T kx).1 (T kx).2.1 (T kx).2.2.1 ∈ GW ∧ (T kx).2.2.2 = fin ∧ ty kx = ft ∧ (fin = true → (T kx).1 = own)
/-- the same, by a nest mate -/
def FN (own : String) (i ci kx : Nat) : Prop := ∃ (C : String) (T : u_T) (N : Nat) (ty : Nat → FieldType) (host : String), CL ci C T N ty ∧ kx < N ∧ ∀ s : State, Nx s → va_Nw (.fieldLinkNest own i (T kx).1 (T kx).2.1 (T kx).2.2.1 host) s
/-- a field that is read alone -/
def FR (own : String) (i ci kx : Nat) : Prop := ∃ (C : String) (T : u_T) (N : Nat) (ty : Nat → FieldType), CL ci C T N ty ∧ kx < N ∧ Cond.fieldLink own i (T kx).1 (T kx).2.1 (T kx).2.2.1 ∈ GW
/-- what the tables say of a method of ours: its code, it stands ready, how many arguments -/
def MK (Y : MI) (n : Nat) : Prop := Cond.code Y.1 Y.2.1 Y.2.2.1 Y.2.2.2.1 ∈ GW ∧ Cond.initialized Y.1.cls ∈ GW ∧ Y.1.cls ≠ "java/lang/invoke/MethodHandle" ∧ Y.1.cls ≠ "java/lang/invoke/VarHandle" ∧ (parseMethodDescriptor Y.1.desc).map (fun d => d.parameters.length) = some n
def MV (Y : MI) (n : Nat) : Prop := MK Y n ∧ Cond.instanceMethod Y.1 ∈ GW ∧ Cond.selects Y.1.cls Y.1 Y.1 ∈ GW
def MS (Y : MI) (n : Nat) : Prop := MK Y n ∧ Cond.static Y.1 ∈ GW
def MC (Y : MI) (n : Nat) : Prop := MK Y n ∧ Y.1.name = "<init>" ∧ Cond.instanceMethod Y.1 ∈ GW
/-- words of Math and of System.arraycopy -/
def MW (own : String) (i : Nat) (y : MethodName) (cc : ByteArray) (nL : Nat) : Prop := Cond.methodLink own i y ∈ GW ∧ Cond.static y ∈ GW ∧ Cond.initialized "java/lang/Math" ∈ GW ∧ Cond.code y cc nL (some .int) ∈ GW
def AW (own : String) (i : Nat) : Prop := Cond.methodLink own i arraycopyName ∈ GW ∧ Cond.native arraycopyName ∈ GW ∧ Cond.static arraycopyName ∈ GW ∧ Cond.initialized "java/lang/System" ∈ GW
/-- a new object, a new array of ints, bytes, booleans, longs -/
def NL (own : String) (i ci N : Nat) (fs : List Value) : Prop := ∃ (C : String) (T : u_T) (ty : Nat → FieldType), CL ci C T N ty ∧ Cond.classLink own i C ∈ GW ∧ Cond.instantiable C N ∈ GW ∧ Cond.initialized C ∈ GW ∧ ∀ j, j < N → defaultValue (ty j) = vp_V fs j
