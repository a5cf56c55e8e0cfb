/-- what a method's walk may take as given -/
def Cx (G : GP) (Y : MI) (p : Program) (R : Room) (s : State) (m : MethodId) (args : Array Value) (meth : Method) (c : Code) : Prop :=
  p.tables.exec = Jvm.exec ∧ c.code = Y.2.1 ∧ c.maxLocals = Y.2.2.1 ∧ s.vm.findClass Y.1.cls = some m.cls ∧ (∀ w ∈ GW, w.before args s = true) ∧ Kx G s ∧ Y.2.2.2.2.1 ≤ R.frames ∧ Y.2.2.2.2.2 ≤ R.locals ∧ meth.name = Y.1.name ∧ meth.locks = false ∧ meth.sig.returnType = Y.2.2.2.1 ∧ gB G ≤ s.heap.size ∧ (Y.1.name = "law" → Xx G s)
/-- the instruction that gives an answer back -/
def retI (Y : MI) (pc : Nat) : Option Value → Prop
  | none => Dc Y pc .return_ 1 ∧ Y.2.2.2.1 = none
  | some (.int x) => Dc Y pc .ireturn 1 ∧ ∃ ty, Y.2.2.2.1 = some ty ∧ narrow ty (.int x) = .int x
  | some (.long _) => Dc Y pc .lreturn 1 ∧ Y.2.2.2.1 = some .long
  | _ => False
/-- where a method of the class throws -/
def thP (y : MethodName) : Option Nat := if y.cls = "OpenCross" then (if y.name = "curve" then some 16 else if y.name = "crossed" then some 10 else if y.name = "notice" then some 15 else if y.name = "past" then some 28 else none) else none
/-- the method's end leads to Z -/
def Rt (G : GP) (Y : MI) (Q : Option Value → Wd → Prop) (p : Program) (e : Env) (R : Room) (s : State) (m : MethodId) (args : Array Value) (below : List Frame) (meth : Method) (c : Code) (Z : State → Prop) : Prop :=
  (∀ (v : Option Value) (M : Wd) (pc : Nat) (arr : Array Slot) (H : Heap) (locs : List Loc) (cells slots : Nat), Q v M → Pic G M H → va_S (gA G) s.heap H locs → cells ≤ R.cells → slots ≤ R.slots → retI Y pc v → W p G.1 e R s m args below meth c H locs cells slots Z (F0 m pc arr v.toList)) ∧
  ∀ (M : Wd) (pc : Nat) (arr : Array Slot) (H : Heap) (locs : List Loc) (cells slots : Nat), Q none M → Pic G M H → va_S (gA G) s.heap H locs → cells + 1 ≤ R.cells → slots + 6 ≤ R.slots → arr.size = Y.2.2.1 → thP Y.1 = some pc → W p G.1 e R s m args below meth c H locs cells slots Z (F0 m pc arr [])
/-- from here the method comes to its end, with an answer and a world of which Q holds; kr cells of nr slots may still be made -/
def Ev (G : GP) (Y : MI) (pc : Nat) (ls : List (Option Value)) (st : List Value) (M : Wd) (kr nr : Nat) (Q : Option Value → Wd → Prop) : Prop :=
  ∀ (p : Program) (e : Env) (R : Room) (s : State) (m : MethodId) (args : Array Value) (below : List Frame) (meth : Method) (c : Code) (Z : State → Prop), Cx G Y p R s m args meth c → Rt G Y Q p e R s m args below meth c Z →
    ∀ (arr : Array Slot) (H : Heap) (locs : List Loc) (cells slots : Nat), lh arr Y.2.2.1 ls → Pic G M H → va_S (gA G) s.heap H locs → cells + kr ≤ R.cells → slots + nr ≤ R.slots → W p G.1 e R s m args below meth c H locs cells slots Z (F0 m pc arr st)
/-- a method's contract -/
def Ct (G : GP) (Y : MI) (As : List Value) (M : Wd) (mc ms : Nat) (Q : Option Value → Wd → Prop) : Prop :=
  Met G.1 Y.1 (.code Y.1 Y.2.1 Y.2.2.1 Y.2.2.2.1 :: GW) { frames := Y.2.2.2.2.1, cells := mc, slots := ms, locals := Y.2.2.2.2.2 } (va_Pc As (fun U => Pic G M U.heap ∧ Kx G U)) (fun _ st oc t => (∃ (v : Option Value) (M' : Wd), oc = .returned v ∧ Q v M' ∧ Pic G M' t.heap ∧ Kx G t) ∧ va_F (gA G) st t) mc ms (gA G)
theorem enl_entry (As : List Value) {n : Nat} (h : (lg_sl As).length ≤ n) (hn : (enl As).length ≤ n) : lh ((lg_sl As ++ List.replicate (n - (lg_sl As).length) Slot.unset).toArray) n (enl As ++ List.replicate (n - (enl As).length) none) := by
  have h1 := lv_entry As h
  refine ⟨h1.1, h1.2.1, fun i v hi => ?_⟩
  by_cases hl : i < (enl As).length
  · rw [List.getElem?_append_left hl] at hi
    have := enl_args As 0 i v hi
    rw [Nat.zero_add] at this
    exact h1.2.2 _ this
  · rw [List.getElem?_append_right (by omega)] at hi
    rw [List.getElem?_replicate] at hi
    split at hi <;> simp at hi
theorem Ct.of {G : GP} {Y : MI} {As : List Value} {M : Wd} {mc ms : Nat} {Q : Option Value → Wd → Prop} {ls : List (Option Value)} (hy : plainName Y.1.cls = true) (hlw : Y.1.name ≠ "law" ∧ thP Y.1 = none) (hn : Nat.ble (lg_sl As).length Y.2.2.1 = true) (hn2 : Nat.ble (enl As).length Y.2.2.1 = true) (hls : enl As ++ List.replicate (Y.2.2.1 - (enl As).length) none = ls) (h : Ev G Y 0 ls [] M mc ms Q) : Ct G Y As M mc ms Q := by
  refine Met.ofW (cc := Y.2.1) (maxL := Y.2.2.1) (ret := Y.2.2.2.1) hy rfl ?_
  intro p e s m args below meth c s₁ B hml hv
  obtain ⟨rfl, hP, hK⟩ := hv
  have hts := atoms_spec (ws := .code Y.1 Y.2.1 Y.2.2.1 Y.2.2.2.1 :: GW) B.pre
  have hown : s.vm.findClass Y.1.cls = some m.cls := findClass_of_methodNamed B.named
  have hin : meth.name = Y.1.name := (name_of_methodNamed B.named B.method).1
  have hlocks := B.notSynchronized
  have hx := B.exec
  have hb := B.bytes
  have hr := B.returns
  rw [lg_entry_eq]
  subst hls
  refine h p e _ s m As.toArray below meth c _ ⟨hx, hb, hml, hown, fun w hw => hts w (List.mem_cons_of_mem _ hw), hK, Nat.le_refl _, Nat.le_refl _, hin, hlocks, hr, hP.2.2, fun q => absurd q hlw.1⟩ ?_ _ s.heap [] 0 0 (enl_entry As (Nat.le_of_ble_eq_true hn) (Nat.le_of_ble_eq_true hn2)) hP va_S.rf (Nat.le_of_eq (Nat.zero_add _)) (Nat.le_of_eq (Nat.zero_add _))
  refine ⟨fun v M' pc arr H locs cells slots hQ hP' hS hc hs hi => ?_, fun M' pc arr H locs cells slots _ _ _ _ _ _ ht => absurd (hlw.2.symm.trans ht) (by simp)⟩
  refine W.widen (k := mc) (n := ms) hc hs ?_
  match v, hi with
  | none, hi => exact W.vret hx hb (hr.trans hi.2) (fun t ht hW => ⟨⟨_, M', rfl, hQ, by rw [ht]; exact hP', hK.go hW ht hS⟩, hS.F ht⟩) hS.2.2 hi.1
  | some (.int x), hi =>
    obtain ⟨h1, ty, h2, h3⟩ := hi
    exact W.zret hx hb (hr.trans h2) h3 (fun t ht hW => ⟨⟨_, M', rfl, hQ, by rw [ht]; exact hP', hK.go hW ht hS⟩, hS.F ht⟩) hS.2.2 h1
  | some (.long x), hi => exact W.lret hx hb (hr.trans hi.2) (fun t ht hW => ⟨⟨_, M', rfl, hQ, by rw [ht]; exact hP', hK.go hW ht hS⟩, hS.F ht⟩) hS.2.2 hi.1
section ER
variable {G : GP} {Y : MI} {pc : Nat} {ls : List (Option Value)} {st : List Value} {M : Wd} {kr nr : Nat} {Q : Option Value → Wd → Prop}
theorem Ev.iret {x : Int32} {ty : FieldType} (hd : Dc Y pc .ireturn 1) (hr : Y.2.2.2.1 = some ty) (hn : narrow ty (.int x) = .int x) (hQ : Q (some (.int x)) M) : Ev G Y pc ls [.int x] M kr nr Q := by
  intro p e R s m args below meth c Z C hR arr H locs cells slots hl hP hS h1 h2
  exact hR.1 (some (.int x)) M pc arr H locs cells slots hQ hP hS (by omega) (by omega) ⟨hd, ty, hr, hn⟩
theorem Ev.lret {x : Int64} (hd : Dc Y pc .lreturn 1) (hr : Y.2.2.2.1 = some .long) (hQ : Q (some (.long x)) M) : Ev G Y pc ls [.long x] M kr nr Q := by
  intro p e R s m args below meth c Z C hR arr H locs cells slots hl hP hS h1 h2
  exact hR.1 (some (.long x)) M pc arr H locs cells slots hQ hP hS (by omega) (by omega) ⟨hd, hr⟩
theorem Ev.vret (hd : Dc Y pc .return_ 1) (hr : Y.2.2.2.1 = none) (hQ : Q none M) : Ev G Y pc ls [] M kr nr Q := by
  intro p e R s m args below meth c Z C hR arr H locs cells slots hl hP hS h1 h2
  exact hR.1 none M pc arr H locs cells slots hQ hP hS (by omega) (by omega) ⟨hd, hr⟩
theorem Ev.iadd {x : Int32} {y : Int32} (hd : Dc Y pc .iadd 1) (k : Ev G Y (pc + 1) ls (.int (x + y) :: st) M kr nr Q) : Ev G Y pc ls (.int y :: .int x :: st) M kr nr Q := by
  intro p e R s m args below meth c Z C hR arr H locs cells slots hl hP hS h1 h2
  exact lv_iadd C.1 C.2.1 hd (k p e R s m args below meth c Z C hR arr H locs cells slots hl hP hS h1 h2)
theorem Ev.isub {x : Int32} {y : Int32} (hd : Dc Y pc .isub 1) (k : Ev G Y (pc + 1) ls (.int (x - y) :: st) M kr nr Q) : Ev G Y pc ls (.int y :: .int x :: st) M kr nr Q := by
  intro p e R s m args below meth c Z C hR arr H locs cells slots hl hP hS h1 h2
  exact lv_isub C.1 C.2.1 hd (k p e R s m args below meth c Z C hR arr H locs cells slots hl hP hS h1 h2)
theorem Ev.imul {x : Int32} {y : Int32} (hd : Dc Y pc .imul 1) (k : Ev G Y (pc + 1) ls (.int (x * y) :: st) M kr nr Q) : Ev G Y pc ls (.int y :: .int x :: st) M kr nr Q := by
  intro p e R s m args below meth c Z C hR arr H locs cells slots hl hP hS h1 h2
  exact lv_imul C.1 C.2.1 hd (k p e R s m args below meth c Z C hR arr H locs cells slots hl hP hS h1 h2)
theorem Ev.iand {x : Int32} {y : Int32} (hd : Dc Y pc .iand 1) (k : Ev G Y (pc + 1) ls (.int (x &&& y) :: st) M kr nr Q) : Ev G Y pc ls (.int y :: .int x :: st) M kr nr Q := by
  intro p e R s m args below meth c Z C hR arr H locs cells slots hl hP hS h1 h2
  exact lv_iand C.1 C.2.1 hd (k p e R s m args below meth c Z C hR arr H locs cells slots hl hP hS h1 h2)
theorem Ev.ior {x : Int32} {y : Int32} (hd : Dc Y pc .ior 1) (k : Ev G Y (pc + 1) ls (.int (x ||| y) :: st) M kr nr Q) : Ev G Y pc ls (.int y :: .int x :: st) M kr nr Q := by
  intro p e R s m args below meth c Z C hR arr H locs cells slots hl hP hS h1 h2
  exact lv_ior C.1 C.2.1 hd (k p e R s m args below meth c Z C hR arr H locs cells slots hl hP hS h1 h2)
theorem Ev.ishl {x : Int32} {y : Int32} (hd : Dc Y pc .ishl 1) (k : Ev G Y (pc + 1) ls (.int (x <<< (y &&& 31)) :: st) M kr nr Q) : Ev G Y pc ls (.int y :: .int x :: st) M kr nr Q := by
  intro p e R s m args below meth c Z C hR arr H locs cells slots hl hP hS h1 h2
  exact lv_ishl C.1 C.2.1 hd (k p e R s m args below meth c Z C hR arr H locs cells slots hl hP hS h1 h2)
theorem Ev.ishr {x : Int32} {y : Int32} (hd : Dc Y pc .ishr 1) (k : Ev G Y (pc + 1) ls (.int (x >>> (y &&& 31)) :: st) M kr nr Q) : Ev G Y pc ls (.int y :: .int x :: st) M kr nr Q := by
  intro p e R s m args below meth c Z C hR arr H locs cells slots hl hP hS h1 h2
  exact lv_ishr C.1 C.2.1 hd (k p e R s m args below meth c Z C hR arr H locs cells slots hl hP hS h1 h2)
theorem Ev.iushr {x : Int32} {y : Int32} (hd : Dc Y pc .iushr 1) (k : Ev G Y (pc + 1) ls (.int ((x.toUInt32 >>> (y.toUInt32 &&& Int32.toUInt32 31)).toInt32) :: st) M kr nr Q) : Ev G Y pc ls (.int y :: .int x :: st) M kr nr Q := by
  intro p e R s m args below meth c Z C hR arr H locs cells slots hl hP hS h1 h2
  exact lv_iushr C.1 C.2.1 hd rfl (k p e R s m args below meth c Z C hR arr H locs cells slots hl hP hS h1 h2)
theorem Ev.ladd {x : Int64} {y : Int64} (hd : Dc Y pc .ladd 1) (k : Ev G Y (pc + 1) ls (.long (x + y) :: st) M kr nr Q) : Ev G Y pc ls (.long y :: .long x :: st) M kr nr Q := by
  intro p e R s m args below meth c Z C hR arr H locs cells slots hl hP hS h1 h2
  exact lv_ladd C.1 C.2.1 hd (k p e R s m args below meth c Z C hR arr H locs cells slots hl hP hS h1 h2)
theorem Ev.lsub {x : Int64} {y : Int64} (hd : Dc Y pc .lsub 1) (k : Ev G Y (pc + 1) ls (.long (x - y) :: st) M kr nr Q) : Ev G Y pc ls (.long y :: .long x :: st) M kr nr Q := by
  intro p e R s m args below meth c Z C hR arr H locs cells slots hl hP hS h1 h2
  exact lv_lsub C.1 C.2.1 hd (k p e R s m args below meth c Z C hR arr H locs cells slots hl hP hS h1 h2)
theorem Ev.lmul {x : Int64} {y : Int64} (hd : Dc Y pc .lmul 1) (k : Ev G Y (pc + 1) ls (.long (x * y) :: st) M kr nr Q) : Ev G Y pc ls (.long y :: .long x :: st) M kr nr Q := by
  intro p e R s m args below meth c Z C hR arr H locs cells slots hl hP hS h1 h2
  exact lv_lmul C.1 C.2.1 hd (k p e R s m args below meth c Z C hR arr H locs cells slots hl hP hS h1 h2)
theorem Ev.lor {x : Int64} {y : Int64} (hd : Dc Y pc .lor 1) (k : Ev G Y (pc + 1) ls (.long (x ||| y) :: st) M kr nr Q) : Ev G Y pc ls (.long y :: .long x :: st) M kr nr Q := by
  intro p e R s m args below meth c Z C hR arr H locs cells slots hl hP hS h1 h2
  exact lv_lor C.1 C.2.1 hd (k p e R s m args below meth c Z C hR arr H locs cells slots hl hP hS h1 h2)
theorem Ev.lshl {x : Int64} {y : Int32} (hd : Dc Y pc .lshl 1) (k : Ev G Y (pc + 1) ls (.long (x <<< (y.toInt64 &&& 63)) :: st) M kr nr Q) : Ev G Y pc ls (.int y :: .long x :: st) M kr nr Q := by
  intro p e R s m args below meth c Z C hR arr H locs cells slots hl hP hS h1 h2
  exact lv_lshl C.1 C.2.1 hd rfl (k p e R s m args below meth c Z C hR arr H locs cells slots hl hP hS h1 h2)
theorem Ev.ineg {x : Int32} (hd : Dc Y pc .ineg 1) (k : Ev G Y (pc + 1) ls (.int (-x) :: st) M kr nr Q) : Ev G Y pc ls (.int x :: st) M kr nr Q := by
  intro p e R s m args below meth c Z C hR arr H locs cells slots hl hP hS h1 h2
  exact lv_ineg C.1 C.2.1 hd (k p e R s m args below meth c Z C hR arr H locs cells slots hl hP hS h1 h2)
theorem Ev.i2l {x : Int32} (hd : Dc Y pc .i2l 1) (k : Ev G Y (pc + 1) ls (.long x.toInt64 :: st) M kr nr Q) : Ev G Y pc ls (.int x :: st) M kr nr Q := by
  intro p e R s m args below meth c Z C hR arr H locs cells slots hl hP hS h1 h2
  exact lv_i2l C.1 C.2.1 hd rfl (k p e R s m args below meth c Z C hR arr H locs cells slots hl hP hS h1 h2)
theorem Ev.i2b {x : Int32} (hd : Dc Y pc .i2b 1) (k : Ev G Y (pc + 1) ls (.int x.toInt8.toInt32 :: st) M kr nr Q) : Ev G Y pc ls (.int x :: st) M kr nr Q := by
  intro p e R s m args below meth c Z C hR arr H locs cells slots hl hP hS h1 h2
  exact lv_i2b C.1 C.2.1 hd rfl (k p e R s m args below meth c Z C hR arr H locs cells slots hl hP hS h1 h2)
theorem Ev.lcmp {x y : Int64} (hd : Dc Y pc .lcmp 1) (k : Ev G Y (pc + 1) ls (.int (lg_cmp x y) :: st) M kr nr Q) : Ev G Y pc ls (.long y :: .long x :: st) M kr nr Q := by
  intro p e R s m args below meth c Z C hR arr H locs cells slots hl hP hS h1 h2
  exact W.lcmp C.1 C.2.1 hd (k p e R s m args below meth c Z C hR arr H locs cells slots hl hP hS h1 h2)
theorem Ev.dup {v : Value} (hd : Dc Y pc .dup 1) (hv : v.category = 1) (k : Ev G Y (pc + 1) ls (v :: v :: st) M kr nr Q) : Ev G Y pc ls (v :: st) M kr nr Q := by
  intro p e R s m args below meth c Z C hR arr H locs cells slots hl hP hS h1 h2
  exact lv_dup C.1 C.2.1 hd hv (k p e R s m args below meth c Z C hR arr H locs cells slots hl hP hS h1 h2)
theorem Ev.pop {v : Value} (hd : Dc Y pc .pop 1) (hv : v.category = 1) (k : Ev G Y (pc + 1) ls (st) M kr nr Q) : Ev G Y pc ls (v :: st) M kr nr Q := by
  intro p e R s m args below meth c Z C hR arr H locs cells slots hl hP hS h1 h2
  exact lv_pop C.1 C.2.1 hd hv (k p e R s m args below meth c Z C hR arr H locs cells slots hl hP hS h1 h2)
theorem Ev.dup2 {v w : Value} (hd : Dc Y pc .dup2 1) (hv : v.category = 1) (hw : w.category = 1) (k : Ev G Y (pc + 1) ls (v :: w :: v :: w :: st) M kr nr Q) : Ev G Y pc ls (v :: w :: st) M kr nr Q := by
  intro p e R s m args below meth c Z C hR arr H locs cells slots hl hP hS h1 h2
  exact lv_dup2_11 C.1 C.2.1 hd hv hw (k p e R s m args below meth c Z C hR arr H locs cells slots hl hP hS h1 h2)
theorem Ev.iconst {n : Int} {v : Int32} (hd : Dc Y pc (.iconst n) 1) (hv : Int32.ofInt n = v) (k : Ev G Y (pc + 1) ls (.int v :: st) M kr nr Q) : Ev G Y pc ls (st) M kr nr Q := by
  intro p e R s m args below meth c Z C hR arr H locs cells slots hl hP hS h1 h2
  exact lv_iconst C.1 C.2.1 hd hv (k p e R s m args below meth c Z C hR arr H locs cells slots hl hP hS h1 h2)
theorem Ev.bipush {n : Int} {v : Int32} (hd : Dc Y pc (.bipush n) 2) (hv : (Int8.ofInt n).toInt32 = v) (k : Ev G Y (pc + 2) ls (.int v :: st) M kr nr Q) : Ev G Y pc ls (st) M kr nr Q := by
  intro p e R s m args below meth c Z C hR arr H locs cells slots hl hP hS h1 h2
  exact lv_bipush C.1 C.2.1 hd hv (k p e R s m args below meth c Z C hR arr H locs cells slots hl hP hS h1 h2)
theorem Ev.sipush {n : Int} {v : Int32} (hd : Dc Y pc (.sipush n) 3) (hv : (Int16.ofInt n).toInt32 = v) (k : Ev G Y (pc + 3) ls (.int v :: st) M kr nr Q) : Ev G Y pc ls (st) M kr nr Q := by
  intro p e R s m args below meth c Z C hR arr H locs cells slots hl hP hS h1 h2
  exact lv_sipush C.1 C.2.1 hd hv (k p e R s m args below meth c Z C hR arr H locs cells slots hl hP hS h1 h2)
theorem Ev.lconst {n : Fin 2} {v : Int64} (hd : Dc Y pc (.lconst n) 1) (hv : Int64.ofNat (n : Nat) = v) (k : Ev G Y (pc + 1) ls (.long v :: st) M kr nr Q) : Ev G Y pc ls (st) M kr nr Q := by
  intro p e R s m args below meth c Z C hR arr H locs cells slots hl hP hS h1 h2
  exact lv_lconst C.1 C.2.1 hd hv (k p e R s m args below meth c Z C hR arr H locs cells slots hl hP hS h1 h2)
theorem Ev.ldc {i : Nat} {v : Int32} (hd : Dc Y pc (.ldc i) 2) (hw : Cond.constant Y.1.cls i v ∈ GW) (k : Ev G Y (pc + 2) ls (.int v :: st) M kr nr Q) : Ev G Y pc ls (st) M kr nr Q := by
  intro p e R s m args below meth c Z C hR arr H locs cells slots hl hP hS h1 h2
  exact lv_ldc C.1 C.2.1 C.2.2.2.1 (C.2.2.2.2.1 _ hw) hd (k p e R s m args below meth c Z C hR arr H locs cells slots hl hP hS h1 h2)
theorem Ev.ldcw {i : Nat} {v : Int32} (hd : Dc Y pc (.ldc_w i) 3) (hw : Cond.constant Y.1.cls i v ∈ GW) (k : Ev G Y (pc + 3) ls (.int v :: st) M kr nr Q) : Ev G Y pc ls (st) M kr nr Q := by
  intro p e R s m args below meth c Z C hR arr H locs cells slots hl hP hS h1 h2
  exact lv_ldcw C.1 C.2.1 C.2.2.2.1 (C.2.2.2.2.1 _ hw) hd (k p e R s m args below meth c Z C hR arr H locs cells slots hl hP hS h1 h2)
theorem Ev.ldc2 {i : Nat} {v : Int64} (hd : Dc Y pc (.ldc2_w i) 3) (hw : Cond.constantLong Y.1.cls i v ∈ GW) (k : Ev G Y (pc + 3) ls (.long v :: st) M kr nr Q) : Ev G Y pc ls (st) M kr nr Q := by
  intro p e R s m args below meth c Z C hR arr H locs cells slots hl hP hS h1 h2
  exact lv_ldc2 C.1 C.2.1 C.2.2.2.1 (C.2.2.2.2.1 _ hw) hd (k p e R s m args below meth c Z C hR arr H locs cells slots hl hP hS h1 h2)
theorem Ev.goto {off : Int} {tgt : Nat} (hd : Dc Y pc (.goto off) 3) (ht : (pc : Int) + off = (tgt : Int)) (k : Ev G Y tgt ls (st) M kr nr Q) : Ev G Y pc ls (st) M kr nr Q := by
  intro p e R s m args below meth c Z C hR arr H locs cells slots hl hP hS h1 h2
  exact lv_goto C.1 C.2.1 hd ht (k p e R s m args below meth c Z C hR arr H locs cells slots hl hP hS h1 h2)
theorem Ev.if_eq {x : Int32} {off : Int} {tgt : Nat} (hd : Dc Y pc (.ifCond .eq off) 3) (ht : (pc : Int) + off = (tgt : Int)) (kt : x = 0 → Ev G Y tgt ls st M kr nr Q) (kf : ¬ (x = 0) → Ev G Y (pc + 3) ls st M kr nr Q) : Ev G Y pc ls (.int x :: st) M kr nr Q := by
  intro p e R s m args below meth c Z C hR arr H locs cells slots hl hP hS h1 h2
  exact lv_if_eq C.1 C.2.1 hd ht (fun q => kt q p e R s m args below meth c Z C hR arr H locs cells slots hl hP hS h1 h2) (fun q => kf q p e R s m args below meth c Z C hR arr H locs cells slots hl hP hS h1 h2)
theorem Ev.icmp_eq {x y : Int32} {off : Int} {tgt : Nat} (hd : Dc Y pc (.if_icmp .eq off) 3) (ht : (pc : Int) + off = (tgt : Int)) (kt : x = y → Ev G Y tgt ls st M kr nr Q) (kf : ¬ (x = y) → Ev G Y (pc + 3) ls st M kr nr Q) : Ev G Y pc ls (.int y :: .int x :: st) M kr nr Q := by
  intro p e R s m args below meth c Z C hR arr H locs cells slots hl hP hS h1 h2
  exact lv_icmp_eq C.1 C.2.1 hd ht (fun q => kt q p e R s m args below meth c Z C hR arr H locs cells slots hl hP hS h1 h2) (fun q => kf q p e R s m args below meth c Z C hR arr H locs cells slots hl hP hS h1 h2)
theorem Ev.if_ne {x : Int32} {off : Int} {tgt : Nat} (hd : Dc Y pc (.ifCond .ne off) 3) (ht : (pc : Int) + off = (tgt : Int)) (kt : x ≠ 0 → Ev G Y tgt ls st M kr nr Q) (kf : x = 0 → Ev G Y (pc + 3) ls st M kr nr Q) : Ev G Y pc ls (.int x :: st) M kr nr Q := by
  intro p e R s m args below meth c Z C hR arr H locs cells slots hl hP hS h1 h2
  exact lv_if_ne C.1 C.2.1 hd ht (fun q => kt q p e R s m args below meth c Z C hR arr H locs cells slots hl hP hS h1 h2) (fun q => kf q p e R s m args below meth c Z C hR arr H locs cells slots hl hP hS h1 h2)
theorem Ev.icmp_ne {x y : Int32} {off : Int} {tgt : Nat} (hd : Dc Y pc (.if_icmp .ne off) 3) (ht : (pc : Int) + off = (tgt : Int)) (kt : x ≠ y → Ev G Y tgt ls st M kr nr Q) (kf : x = y → Ev G Y (pc + 3) ls st M kr nr Q) : Ev G Y pc ls (.int y :: .int x :: st) M kr nr Q := by
  intro p e R s m args below meth c Z C hR arr H locs cells slots hl hP hS h1 h2
  exact lv_icmp_ne C.1 C.2.1 hd ht (fun q => kt q p e R s m args below meth c Z C hR arr H locs cells slots hl hP hS h1 h2) (fun q => kf q p e R s m args below meth c Z C hR arr H locs cells slots hl hP hS h1 h2)
theorem Ev.if_lt {x : Int32} {off : Int} {tgt : Nat} (hd : Dc Y pc (.ifCond .lt off) 3) (ht : (pc : Int) + off = (tgt : Int)) (kt : x < 0 → Ev G Y tgt ls st M kr nr Q) (kf : ¬ (x < 0) → Ev G Y (pc + 3) ls st M kr nr Q) : Ev G Y pc ls (.int x :: st) M kr nr Q := by
  intro p e R s m args below meth c Z C hR arr H locs cells slots hl hP hS h1 h2
  exact lv_if_lt C.1 C.2.1 hd ht (fun q => kt q p e R s m args below meth c Z C hR arr H locs cells slots hl hP hS h1 h2) (fun q => kf q p e R s m args below meth c Z C hR arr H locs cells slots hl hP hS h1 h2)
theorem Ev.icmp_lt {x y : Int32} {off : Int} {tgt : Nat} (hd : Dc Y pc (.if_icmp .lt off) 3) (ht : (pc : Int) + off = (tgt : Int)) (kt : x < y → Ev G Y tgt ls st M kr nr Q) (kf : ¬ (x < y) → Ev G Y (pc + 3) ls st M kr nr Q) : Ev G Y pc ls (.int y :: .int x :: st) M kr nr Q := by
  intro p e R s m args below meth c Z C hR arr H locs cells slots hl hP hS h1 h2
  exact lv_icmp_lt C.1 C.2.1 hd ht (fun q => kt q p e R s m args below meth c Z C hR arr H locs cells slots hl hP hS h1 h2) (fun q => kf q p e R s m args below meth c Z C hR arr H locs cells slots hl hP hS h1 h2)
theorem Ev.if_ge {x : Int32} {off : Int} {tgt : Nat} (hd : Dc Y pc (.ifCond .ge off) 3) (ht : (pc : Int) + off = (tgt : Int)) (kt : 0 ≤ x → Ev G Y tgt ls st M kr nr Q) (kf : ¬ (0 ≤ x) → Ev G Y (pc + 3) ls st M kr nr Q) : Ev G Y pc ls (.int x :: st) M kr nr Q := by
  intro p e R s m args below meth c Z C hR arr H locs cells slots hl hP hS h1 h2
  exact lv_if_ge C.1 C.2.1 hd ht (fun q => kt q p e R s m args below meth c Z C hR arr H locs cells slots hl hP hS h1 h2) (fun q => kf q p e R s m args below meth c Z C hR arr H locs cells slots hl hP hS h1 h2)
theorem Ev.icmp_ge {x y : Int32} {off : Int} {tgt : Nat} (hd : Dc Y pc (.if_icmp .ge off) 3) (ht : (pc : Int) + off = (tgt : Int)) (kt : y ≤ x → Ev G Y tgt ls st M kr nr Q) (kf : ¬ (y ≤ x) → Ev G Y (pc + 3) ls st M kr nr Q) : Ev G Y pc ls (.int y :: .int x :: st) M kr nr Q := by
  intro p e R s m args below meth c Z C hR arr H locs cells slots hl hP hS h1 h2
  exact lv_icmp_ge C.1 C.2.1 hd ht (fun q => kt q p e R s m args below meth c Z C hR arr H locs cells slots hl hP hS h1 h2) (fun q => kf q p e R s m args below meth c Z C hR arr H locs cells slots hl hP hS h1 h2)
theorem Ev.if_gt {x : Int32} {off : Int} {tgt : Nat} (hd : Dc Y pc (.ifCond .gt off) 3) (ht : (pc : Int) + off = (tgt : Int)) (kt : 0 < x → Ev G Y tgt ls st M kr nr Q) (kf : ¬ (0 < x) → Ev G Y (pc + 3) ls st M kr nr Q) : Ev G Y pc ls (.int x :: st) M kr nr Q := by
  intro p e R s m args below meth c Z C hR arr H locs cells slots hl hP hS h1 h2
  exact lv_if_gt C.1 C.2.1 hd ht (fun q => kt q p e R s m args below meth c Z C hR arr H locs cells slots hl hP hS h1 h2) (fun q => kf q p e R s m args below meth c Z C hR arr H locs cells slots hl hP hS h1 h2)
theorem Ev.icmp_gt {x y : Int32} {off : Int} {tgt : Nat} (hd : Dc Y pc (.if_icmp .gt off) 3) (ht : (pc : Int) + off = (tgt : Int)) (kt : y < x → Ev G Y tgt ls st M kr nr Q) (kf : ¬ (y < x) → Ev G Y (pc + 3) ls st M kr nr Q) : Ev G Y pc ls (.int y :: .int x :: st) M kr nr Q := by
  intro p e R s m args below meth c Z C hR arr H locs cells slots hl hP hS h1 h2
  exact lv_icmp_gt C.1 C.2.1 hd ht (fun q => kt q p e R s m args below meth c Z C hR arr H locs cells slots hl hP hS h1 h2) (fun q => kf q p e R s m args below meth c Z C hR arr H locs cells slots hl hP hS h1 h2)
theorem Ev.if_le {x : Int32} {off : Int} {tgt : Nat} (hd : Dc Y pc (.ifCond .le off) 3) (ht : (pc : Int) + off = (tgt : Int)) (kt : x ≤ 0 → Ev G Y tgt ls st M kr nr Q) (kf : ¬ (x ≤ 0) → Ev G Y (pc + 3) ls st M kr nr Q) : Ev G Y pc ls (.int x :: st) M kr nr Q := by
  intro p e R s m args below meth c Z C hR arr H locs cells slots hl hP hS h1 h2
  exact lv_if_le C.1 C.2.1 hd ht (fun q => kt q p e R s m args below meth c Z C hR arr H locs cells slots hl hP hS h1 h2) (fun q => kf q p e R s m args below meth c Z C hR arr H locs cells slots hl hP hS h1 h2)
theorem Ev.icmp_le {x y : Int32} {off : Int} {tgt : Nat} (hd : Dc Y pc (.if_icmp .le off) 3) (ht : (pc : Int) + off = (tgt : Int)) (kt : x ≤ y → Ev G Y tgt ls st M kr nr Q) (kf : ¬ (x ≤ y) → Ev G Y (pc + 3) ls st M kr nr Q) : Ev G Y pc ls (.int y :: .int x :: st) M kr nr Q := by
  intro p e R s m args below meth c Z C hR arr H locs cells slots hl hP hS h1 h2
  exact lv_icmp_le C.1 C.2.1 hd ht (fun q => kt q p e R s m args below meth c Z C hR arr H locs cells slots hl hP hS h1 h2) (fun q => kf q p e R s m args below meth c Z C hR arr H locs cells slots hl hP hS h1 h2)
theorem Ev.ild0 {t : List (Option Value)} {x : Int32} (hd : Dc Y pc (.iload_n 0) 1) (k : Ev G Y (pc + 1) (some (.int x) :: t) (.int x :: st) M kr nr Q) : Ev G Y pc (some (.int x) :: t) st M kr nr Q := by
  intro p e R s m args below meth c Z C hR arr H locs cells slots hl hP hS h1 h2
  exact lv_iload_n C.1 C.2.1 hd rfl (hl.2.2 0 _ rfl) (k p e R s m args below meth c Z C hR arr H locs cells slots hl hP hS h1 h2)
theorem Ev.ist0 {b : Option Value} {t : List (Option Value)} {x : Int32} (hd : Dc Y pc (.istore_n 0) 1) (hw : Nat.ble 1 Y.2.2.1 = true) (k : Ev G Y (pc + 1) (some (.int x) :: t) st M kr nr Q) : Ev G Y pc (b :: t) (.int x :: st) M kr nr Q := by
  have e9 : pu (b :: t) 0 (.int x) = some (.int x) :: t := by simp [pu, pu2]
  intro p e R s m args below meth c Z C hR arr H locs cells slots hl hP hS h1 h2
  refine lv_istore_n C.1 C.2.1 hd rfl hl.has (Nat.le_of_ble_eq_true hw) rfl (fun ls2 hl2 => ?_)
  exact k p e R s m args below meth c Z C hR ls2 H locs cells slots (e9 ▸ lh.put hl2) hP hS h1 h2
theorem Ev.iinc0 {t : List (Option Value)} {x v : Int32} {n : Int} (hd : Dc Y pc (.iinc 0 n) 3) (hw : Nat.ble 1 Y.2.2.1 = true) (hv : x + Int32.ofInt n = v) (k : Ev G Y (pc + 3) (some (.int v) :: t) st M kr nr Q) : Ev G Y pc (some (.int x) :: t) st M kr nr Q := by
  have e9 : pu (some (.int x) :: t) 0 (.int v) = some (.int v) :: t := by simp [pu]
  intro p e R s m args below meth c Z C hR arr H locs cells slots hl hP hS h1 h2
  obtain ⟨kk, hk⟩ : ∃ kk : Nat, (prs 0 (some (.int x) :: t))[kk]? = some (0, .int x) := List.getElem?_of_mem ((mem_prs _ 0 _).mpr ⟨0, by simp, rfl⟩)
  refine lv_iinc C.1 C.2.1 hd hl.has hk hv (Nat.le_of_ble_eq_true hw) rfl (fun ls2 hl2 => ?_)
  exact k p e R s m args below meth c Z C hR ls2 H locs cells slots (e9 ▸ lh.put hl2) hP hS h1 h2
theorem Ev.lld0 {t : List (Option Value)} {x : Int64} (hd : Dc Y pc (.lload_n 0) 1) (k : Ev G Y (pc + 1) (some (.long x) :: t) (.long x :: st) M kr nr Q) : Ev G Y pc (some (.long x) :: t) st M kr nr Q := by
  intro p e R s m args below meth c Z C hR arr H locs cells slots hl hP hS h1 h2
  exact lv_lload_n C.1 C.2.1 hd rfl (hl.2.2 0 _ rfl) (k p e R s m args below meth c Z C hR arr H locs cells slots hl hP hS h1 h2)
theorem Ev.lst0 {b b1 : Option Value} {t : List (Option Value)} {x : Int64} (hd : Dc Y pc (.lstore_n 0) 1) (hw : Nat.ble 2 Y.2.2.1 = true) (k : Ev G Y (pc + 1) (some (.long x) :: none :: t) st M kr nr Q) : Ev G Y pc (b :: b1 :: t) (.long x :: st) M kr nr Q := by
  have e9 : pu2 (b :: b1 :: t) 0 (.long x) = some (.long x) :: none :: t := by simp [pu, pu2]
  intro p e R s m args below meth c Z C hR arr H locs cells slots hl hP hS h1 h2
  refine lv_lstore_n C.1 C.2.1 hd rfl hl.has (Nat.le_of_ble_eq_true hw) rfl (fun ls2 hl2 => ?_)
  exact k p e R s m args below meth c Z C hR ls2 H locs cells slots (e9 ▸ lh.put2 hl2) hP hS h1 h2
theorem Ev.ald0 {t : List (Option Value)} {x : Nat} (hd : Dc Y pc (.aload_n 0) 1) (k : Ev G Y (pc + 1) (some (.ref x) :: t) (.ref x :: st) M kr nr Q) : Ev G Y pc (some (.ref x) :: t) st M kr nr Q := by
  intro p e R s m args below meth c Z C hR arr H locs cells slots hl hP hS h1 h2
  exact lv_aload_n C.1 C.2.1 hd rfl (hl.2.2 0 _ rfl) (k p e R s m args below meth c Z C hR arr H locs cells slots hl hP hS h1 h2)
theorem Ev.ast0 {b : Option Value} {t : List (Option Value)} {x : Nat} (hd : Dc Y pc (.astore_n 0) 1) (hw : Nat.ble 1 Y.2.2.1 = true) (k : Ev G Y (pc + 1) (some (.ref x) :: t) st M kr nr Q) : Ev G Y pc (b :: t) (.ref x :: st) M kr nr Q := by
  have e9 : pu (b :: t) 0 (.ref x) = some (.ref x) :: t := by simp [pu, pu2]
  intro p e R s m args below meth c Z C hR arr H locs cells slots hl hP hS h1 h2
  refine lv_astore_n C.1 C.2.1 hd rfl hl.has (Nat.le_of_ble_eq_true hw) rfl (fun ls2 hl2 => ?_)
  exact k p e R s m args below meth c Z C hR ls2 H locs cells slots (e9 ▸ lh.put hl2) hP hS h1 h2
theorem Ev.ild1 {a0 : Option Value} {t : List (Option Value)} {x : Int32} (hd : Dc Y pc (.iload_n 1) 1) (k : Ev G Y (pc + 1) (a0 :: some (.int x) :: t) (.int x :: st) M kr nr Q) : Ev G Y pc (a0 :: some (.int x) :: t) st M kr nr Q := by
  intro p e R s m args below meth c Z C hR arr H locs cells slots hl hP hS h1 h2
  exact lv_iload_n C.1 C.2.1 hd rfl (hl.2.2 1 _ rfl) (k p e R s m args below meth c Z C hR arr H locs cells slots hl hP hS h1 h2)
theorem Ev.ist1 {a0 b : Option Value} {t : List (Option Value)} {x : Int32} (hd : Dc Y pc (.istore_n 1) 1) (hw : Nat.ble 2 Y.2.2.1 = true) (hn : nl a0 = true) (k : Ev G Y (pc + 1) (a0 :: some (.int x) :: t) st M kr nr Q) : Ev G Y pc (a0 :: b :: t) (.int x :: st) M kr nr Q := by
  have e9 : pu (a0 :: b :: t) 1 (.int x) = a0 :: some (.int x) :: t := by simp [pu, pu2, hn]
  intro p e R s m args below meth c Z C hR arr H locs cells slots hl hP hS h1 h2
  refine lv_istore_n C.1 C.2.1 hd rfl hl.has (Nat.le_of_ble_eq_true hw) rfl (fun ls2 hl2 => ?_)
  exact k p e R s m args below meth c Z C hR ls2 H locs cells slots (e9 ▸ lh.put hl2) hP hS h1 h2
theorem Ev.iinc1 {a0 : Option Value} {t : List (Option Value)} {x v : Int32} {n : Int} (hd : Dc Y pc (.iinc 1 n) 3) (hw : Nat.ble 2 Y.2.2.1 = true) (hn : nl a0 = true) (hv : x + Int32.ofInt n = v) (k : Ev G Y (pc + 3) (a0 :: some (.int v) :: t) st M kr nr Q) : Ev G Y pc (a0 :: some (.int x) :: t) st M kr nr Q := by
  have e9 : pu (a0 :: some (.int x) :: t) 1 (.int v) = a0 :: some (.int v) :: t := by simp [pu, hn]
  intro p e R s m args below meth c Z C hR arr H locs cells slots hl hP hS h1 h2
  obtain ⟨kk, hk⟩ : ∃ kk : Nat, (prs 0 (a0 :: some (.int x) :: t))[kk]? = some (1, .int x) := List.getElem?_of_mem ((mem_prs _ 0 _).mpr ⟨1, by simp, rfl⟩)
  refine lv_iinc C.1 C.2.1 hd hl.has hk hv (Nat.le_of_ble_eq_true hw) rfl (fun ls2 hl2 => ?_)
  exact k p e R s m args below meth c Z C hR ls2 H locs cells slots (e9 ▸ lh.put hl2) hP hS h1 h2
theorem Ev.lld1 {a0 : Option Value} {t : List (Option Value)} {x : Int64} (hd : Dc Y pc (.lload_n 1) 1) (k : Ev G Y (pc + 1) (a0 :: some (.long x) :: t) (.long x :: st) M kr nr Q) : Ev G Y pc (a0 :: some (.long x) :: t) st M kr nr Q := by
  intro p e R s m args below meth c Z C hR arr H locs cells slots hl hP hS h1 h2
  exact lv_lload_n C.1 C.2.1 hd rfl (hl.2.2 1 _ rfl) (k p e R s m args below meth c Z C hR arr H locs cells slots hl hP hS h1 h2)
theorem Ev.lst1 {a0 b b1 : Option Value} {t : List (Option Value)} {x : Int64} (hd : Dc Y pc (.lstore_n 1) 1) (hw : Nat.ble 3 Y.2.2.1 = true) (hn : nl a0 = true) (k : Ev G Y (pc + 1) (a0 :: some (.long x) :: none :: t) st M kr nr Q) : Ev G Y pc (a0 :: b :: b1 :: t) (.long x :: st) M kr nr Q := by
  have e9 : pu2 (a0 :: b :: b1 :: t) 1 (.long x) = a0 :: some (.long x) :: none :: t := by simp [pu, pu2, hn]
  intro p e R s m args below meth c Z C hR arr H locs cells slots hl hP hS h1 h2
  refine lv_lstore_n C.1 C.2.1 hd rfl hl.has (Nat.le_of_ble_eq_true hw) rfl (fun ls2 hl2 => ?_)
  exact k p e R s m args below meth c Z C hR ls2 H locs cells slots (e9 ▸ lh.put2 hl2) hP hS h1 h2
theorem Ev.ald1 {a0 : Option Value} {t : List (Option Value)} {x : Nat} (hd : Dc Y pc (.aload_n 1) 1) (k : Ev G Y (pc + 1) (a0 :: some (.ref x) :: t) (.ref x :: st) M kr nr Q) : Ev G Y pc (a0 :: some (.ref x) :: t) st M kr nr Q := by
  intro p e R s m args below meth c Z C hR arr H locs cells slots hl hP hS h1 h2
  exact lv_aload_n C.1 C.2.1 hd rfl (hl.2.2 1 _ rfl) (k p e R s m args below meth c Z C hR arr H locs cells slots hl hP hS h1 h2)
theorem Ev.ast1 {a0 b : Option Value} {t : List (Option Value)} {x : Nat} (hd : Dc Y pc (.astore_n 1) 1) (hw : Nat.ble 2 Y.2.2.1 = true) (hn : nl a0 = true) (k : Ev G Y (pc + 1) (a0 :: some (.ref x) :: t) st M kr nr Q) : Ev G Y pc (a0 :: b :: t) (.ref x :: st) M kr nr Q := by
  have e9 : pu (a0 :: b :: t) 1 (.ref x) = a0 :: some (.ref x) :: t := by simp [pu, pu2, hn]
  intro p e R s m args below meth c Z C hR arr H locs cells slots hl hP hS h1 h2
  refine lv_astore_n C.1 C.2.1 hd rfl hl.has (Nat.le_of_ble_eq_true hw) rfl (fun ls2 hl2 => ?_)
  exact k p e R s m args below meth c Z C hR ls2 H locs cells slots (e9 ▸ lh.put hl2) hP hS h1 h2
theorem Ev.ild2 {a0 a1 : Option Value} {t : List (Option Value)} {x : Int32} (hd : Dc Y pc (.iload_n 2) 1) (k : Ev G Y (pc + 1) (a0 :: a1 :: some (.int x) :: t) (.int x :: st) M kr nr Q) : Ev G Y pc (a0 :: a1 :: some (.int x) :: t) st M kr nr Q := by
  intro p e R s m args below meth c Z C hR arr H locs cells slots hl hP hS h1 h2
  exact lv_iload_n C.1 C.2.1 hd rfl (hl.2.2 2 _ rfl) (k p e R s m args below meth c Z C hR arr H locs cells slots hl hP hS h1 h2)
theorem Ev.ist2 {a0 a1 b : Option Value} {t : List (Option Value)} {x : Int32} (hd : Dc Y pc (.istore_n 2) 1) (hw : Nat.ble 3 Y.2.2.1 = true) (hn : nl a1 = true) (k : Ev G Y (pc + 1) (a0 :: a1 :: some (.int x) :: t) st M kr nr Q) : Ev G Y pc (a0 :: a1 :: b :: t) (.int x :: st) M kr nr Q := by
  have e9 : pu (a0 :: a1 :: b :: t) 2 (.int x) = a0 :: a1 :: some (.int x) :: t := by simp [pu, pu2, hn]
  intro p e R s m args below meth c Z C hR arr H locs cells slots hl hP hS h1 h2
  refine lv_istore_n C.1 C.2.1 hd rfl hl.has (Nat.le_of_ble_eq_true hw) rfl (fun ls2 hl2 => ?_)
  exact k p e R s m args below meth c Z C hR ls2 H locs cells slots (e9 ▸ lh.put hl2) hP hS h1 h2
theorem Ev.iinc2 {a0 a1 : Option Value} {t : List (Option Value)} {x v : Int32} {n : Int} (hd : Dc Y pc (.iinc 2 n) 3) (hw : Nat.ble 3 Y.2.2.1 = true) (hn : nl a1 = true) (hv : x + Int32.ofInt n = v) (k : Ev G Y (pc + 3) (a0 :: a1 :: some (.int v) :: t) st M kr nr Q) : Ev G Y pc (a0 :: a1 :: some (.int x) :: t) st M kr nr Q := by
  have e9 : pu (a0 :: a1 :: some (.int x) :: t) 2 (.int v) = a0 :: a1 :: some (.int v) :: t := by simp [pu, hn]
  intro p e R s m args below meth c Z C hR arr H locs cells slots hl hP hS h1 h2
  obtain ⟨kk, hk⟩ : ∃ kk : Nat, (prs 0 (a0 :: a1 :: some (.int x) :: t))[kk]? = some (2, .int x) := List.getElem?_of_mem ((mem_prs _ 0 _).mpr ⟨2, by simp, rfl⟩)
  refine lv_iinc C.1 C.2.1 hd hl.has hk hv (Nat.le_of_ble_eq_true hw) rfl (fun ls2 hl2 => ?_)
  exact k p e R s m args below meth c Z C hR ls2 H locs cells slots (e9 ▸ lh.put hl2) hP hS h1 h2
theorem Ev.lld2 {a0 a1 : Option Value} {t : List (Option Value)} {x : Int64} (hd : Dc Y pc (.lload_n 2) 1) (k : Ev G Y (pc + 1) (a0 :: a1 :: some (.long x) :: t) (.long x :: st) M kr nr Q) : Ev G Y pc (a0 :: a1 :: some (.long x) :: t) st M kr nr Q := by
  intro p e R s m args below meth c Z C hR arr H locs cells slots hl hP hS h1 h2
  exact lv_lload_n C.1 C.2.1 hd rfl (hl.2.2 2 _ rfl) (k p e R s m args below meth c Z C hR arr H locs cells slots hl hP hS h1 h2)
theorem Ev.lst2 {a0 a1 b b1 : Option Value} {t : List (Option Value)} {x : Int64} (hd : Dc Y pc (.lstore_n 2) 1) (hw : Nat.ble 4 Y.2.2.1 = true) (hn : nl a1 = true) (k : Ev G Y (pc + 1) (a0 :: a1 :: some (.long x) :: none :: t) st M kr nr Q) : Ev G Y pc (a0 :: a1 :: b :: b1 :: t) (.long x :: st) M kr nr Q := by
  have e9 : pu2 (a0 :: a1 :: b :: b1 :: t) 2 (.long x) = a0 :: a1 :: some (.long x) :: none :: t := by simp [pu, pu2, hn]
  intro p e R s m args below meth c Z C hR arr H locs cells slots hl hP hS h1 h2
  refine lv_lstore_n C.1 C.2.1 hd rfl hl.has (Nat.le_of_ble_eq_true hw) rfl (fun ls2 hl2 => ?_)
  exact k p e R s m args below meth c Z C hR ls2 H locs cells slots (e9 ▸ lh.put2 hl2) hP hS h1 h2
theorem Ev.ald2 {a0 a1 : Option Value} {t : List (Option Value)} {x : Nat} (hd : Dc Y pc (.aload_n 2) 1) (k : Ev G Y (pc + 1) (a0 :: a1 :: some (.ref x) :: t) (.ref x :: st) M kr nr Q) : Ev G Y pc (a0 :: a1 :: some (.ref x) :: t) st M kr nr Q := by
  intro p e R s m args below meth c Z C hR arr H locs cells slots hl hP hS h1 h2
  exact lv_aload_n C.1 C.2.1 hd rfl (hl.2.2 2 _ rfl) (k p e R s m args below meth c Z C hR arr H locs cells slots hl hP hS h1 h2)
theorem Ev.ast2 {a0 a1 b : Option Value} {t : List (Option Value)} {x : Nat} (hd : Dc Y pc (.astore_n 2) 1) (hw : Nat.ble 3 Y.2.2.1 = true) (hn : nl a1 = true) (k : Ev G Y (pc + 1) (a0 :: a1 :: some (.ref x) :: t) st M kr nr Q) : Ev G Y pc (a0 :: a1 :: b :: t) (.ref x :: st) M kr nr Q := by
  have e9 : pu (a0 :: a1 :: b :: t) 2 (.ref x) = a0 :: a1 :: some (.ref x) :: t := by simp [pu, pu2, hn]
  intro p e R s m args below meth c Z C hR arr H locs cells slots hl hP hS h1 h2
  refine lv_astore_n C.1 C.2.1 hd rfl hl.has (Nat.le_of_ble_eq_true hw) rfl (fun ls2 hl2 => ?_)
  exact k p e R s m args below meth c Z C hR ls2 H locs cells slots (e9 ▸ lh.put hl2) hP hS h1 h2
theorem Ev.ild3 {a0 a1 a2 : Option Value} {t : List (Option Value)} {x : Int32} (hd : Dc Y pc (.iload_n 3) 1) (k : Ev G Y (pc + 1) (a0 :: a1 :: a2 :: some (.int x) :: t) (.int x :: st) M kr nr Q) : Ev G Y pc (a0 :: a1 :: a2 :: some (.int x) :: t) st M kr nr Q := by
  intro p e R s m args below meth c Z C hR arr H locs cells slots hl hP hS h1 h2
  exact lv_iload_n C.1 C.2.1 hd rfl (hl.2.2 3 _ rfl) (k p e R s m args below meth c Z C hR arr H locs cells slots hl hP hS h1 h2)
theorem Ev.ist3 {a0 a1 a2 b : Option Value} {t : List (Option Value)} {x : Int32} (hd : Dc Y pc (.istore_n 3) 1) (hw : Nat.ble 4 Y.2.2.1 = true) (hn : nl a2 = true) (k : Ev G Y (pc + 1) (a0 :: a1 :: a2 :: some (.int x) :: t) st M kr nr Q) : Ev G Y pc (a0 :: a1 :: a2 :: b :: t) (.int x :: st) M kr nr Q := by
  have e9 : pu (a0 :: a1 :: a2 :: b :: t) 3 (.int x) = a0 :: a1 :: a2 :: some (.int x) :: t := by simp [pu, pu2, hn]
  intro p e R s m args below meth c Z C hR arr H locs cells slots hl hP hS h1 h2
  refine lv_istore_n C.1 C.2.1 hd rfl hl.has (Nat.le_of_ble_eq_true hw) rfl (fun ls2 hl2 => ?_)
  exact k p e R s m args below meth c Z C hR ls2 H locs cells slots (e9 ▸ lh.put hl2) hP hS h1 h2
theorem Ev.iinc3 {a0 a1 a2 : Option Value} {t : List (Option Value)} {x v : Int32} {n : Int} (hd : Dc Y pc (.iinc 3 n) 3) (hw : Nat.ble 4 Y.2.2.1 = true) (hn : nl a2 = true) (hv : x + Int32.ofInt n = v) (k : Ev G Y (pc + 3) (a0 :: a1 :: a2 :: some (.int v) :: t) st M kr nr Q) : Ev G Y pc (a0 :: a1 :: a2 :: some (.int x) :: t) st M kr nr Q := by
  have e9 : pu (a0 :: a1 :: a2 :: some (.int x) :: t) 3 (.int v) = a0 :: a1 :: a2 :: some (.int v) :: t := by simp [pu, hn]
  intro p e R s m args below meth c Z C hR arr H locs cells slots hl hP hS h1 h2
  obtain ⟨kk, hk⟩ : ∃ kk : Nat, (prs 0 (a0 :: a1 :: a2 :: some (.int x) :: t))[kk]? = some (3, .int x) := List.getElem?_of_mem ((mem_prs _ 0 _).mpr ⟨3, by simp, rfl⟩)
  refine lv_iinc C.1 C.2.1 hd hl.has hk hv (Nat.le_of_ble_eq_true hw) rfl (fun ls2 hl2 => ?_)
  exact k p e R s m args below meth c Z C hR ls2 H locs cells slots (e9 ▸ lh.put hl2) hP hS h1 h2
theorem Ev.lld3 {a0 a1 a2 : Option Value} {t : List (Option Value)} {x : Int64} (hd : Dc Y pc (.lload_n 3) 1) (k : Ev G Y (pc + 1) (a0 :: a1 :: a2 :: some (.long x) :: t) (.long x :: st) M kr nr Q) : Ev G Y pc (a0 :: a1 :: a2 :: some (.long x) :: t) st M kr nr Q := by
  intro p e R s m args below meth c Z C hR arr H locs cells slots hl hP hS h1 h2
  exact lv_lload_n C.1 C.2.1 hd rfl (hl.2.2 3 _ rfl) (k p e R s m args below meth c Z C hR arr H locs cells slots hl hP hS h1 h2)
theorem Ev.lst3 {a0 a1 a2 b b1 : Option Value} {t : List (Option Value)} {x : Int64} (hd : Dc Y pc (.lstore_n 3) 1) (hw : Nat.ble 5 Y.2.2.1 = true) (hn : nl a2 = true) (k : Ev G Y (pc + 1) (a0 :: a1 :: a2 :: some (.long x) :: none :: t) st M kr nr Q) : Ev G Y pc (a0 :: a1 :: a2 :: b :: b1 :: t) (.long x :: st) M kr nr Q := by
  have e9 : pu2 (a0 :: a1 :: a2 :: b :: b1 :: t) 3 (.long x) = a0 :: a1 :: a2 :: some (.long x) :: none :: t := by simp [pu, pu2, hn]
  intro p e R s m args below meth c Z C hR arr H locs cells slots hl hP hS h1 h2
  refine lv_lstore_n C.1 C.2.1 hd rfl hl.has (Nat.le_of_ble_eq_true hw) rfl (fun ls2 hl2 => ?_)
  exact k p e R s m args below meth c Z C hR ls2 H locs cells slots (e9 ▸ lh.put2 hl2) hP hS h1 h2
theorem Ev.ald3 {a0 a1 a2 : Option Value} {t : List (Option Value)} {x : Nat} (hd : Dc Y pc (.aload_n 3) 1) (k : Ev G Y (pc + 1) (a0 :: a1 :: a2 :: some (.ref x) :: t) (.ref x :: st) M kr nr Q) : Ev G Y pc (a0 :: a1 :: a2 :: some (.ref x) :: t) st M kr nr Q := by
  intro p e R s m args below meth c Z C hR arr H locs cells slots hl hP hS h1 h2
  exact lv_aload_n C.1 C.2.1 hd rfl (hl.2.2 3 _ rfl) (k p e R s m args below meth c Z C hR arr H locs cells slots hl hP hS h1 h2)
theorem Ev.ast3 {a0 a1 a2 b : Option Value} {t : List (Option Value)} {x : Nat} (hd : Dc Y pc (.astore_n 3) 1) (hw : Nat.ble 4 Y.2.2.1 = true) (hn : nl a2 = true) (k : Ev G Y (pc + 1) (a0 :: a1 :: a2 :: some (.ref x) :: t) st M kr nr Q) : Ev G Y pc (a0 :: a1 :: a2 :: b :: t) (.ref x :: st) M kr nr Q := by
  have e9 : pu (a0 :: a1 :: a2 :: b :: t) 3 (.ref x) = a0 :: a1 :: a2 :: some (.ref x) :: t := by simp [pu, pu2, hn]
  intro p e R s m args below meth c Z C hR arr H locs cells slots hl hP hS h1 h2
  refine lv_astore_n C.1 C.2.1 hd rfl hl.has (Nat.le_of_ble_eq_true hw) rfl (fun ls2 hl2 => ?_)
  exact k p e R s m args below meth c Z C hR ls2 H locs cells slots (e9 ▸ lh.put hl2) hP hS h1 h2
theorem Ev.ild4 {a0 a1 a2 a3 : Option Value} {t : List (Option Value)} {x : Int32} (hd : Dc Y pc (.iload 4) 2) (k : Ev G Y (pc + 2) (a0 :: a1 :: a2 :: a3 :: some (.int x) :: t) (.int x :: st) M kr nr Q) : Ev G Y pc (a0 :: a1 :: a2 :: a3 :: some (.int x) :: t) st M kr nr Q := by
  intro p e R s m args below meth c Z C hR arr H locs cells slots hl hP hS h1 h2
  exact lv_iload C.1 C.2.1 hd (hl.2.2 4 _ rfl) (k p e R s m args below meth c Z C hR arr H locs cells slots hl hP hS h1 h2)
theorem Ev.ist4 {a0 a1 a2 a3 b : Option Value} {t : List (Option Value)} {x : Int32} (hd : Dc Y pc (.istore 4) 2) (hw : Nat.ble 5 Y.2.2.1 = true) (hn : nl a3 = true) (k : Ev G Y (pc + 2) (a0 :: a1 :: a2 :: a3 :: some (.int x) :: t) st M kr nr Q) : Ev G Y pc (a0 :: a1 :: a2 :: a3 :: b :: t) (.int x :: st) M kr nr Q := by
  have e9 : pu (a0 :: a1 :: a2 :: a3 :: b :: t) 4 (.int x) = a0 :: a1 :: a2 :: a3 :: some (.int x) :: t := by simp [pu, pu2, hn]
  intro p e R s m args below meth c Z C hR arr H locs cells slots hl hP hS h1 h2
  refine lv_istore C.1 C.2.1 hd hl.has (Nat.le_of_ble_eq_true hw) rfl (fun ls2 hl2 => ?_)
  exact k p e R s m args below meth c Z C hR ls2 H locs cells slots (e9 ▸ lh.put hl2) hP hS h1 h2
theorem Ev.iinc4 {a0 a1 a2 a3 : Option Value} {t : List (Option Value)} {x v : Int32} {n : Int} (hd : Dc Y pc (.iinc 4 n) 3) (hw : Nat.ble 5 Y.2.2.1 = true) (hn : nl a3 = true) (hv : x + Int32.ofInt n = v) (k : Ev G Y (pc + 3) (a0 :: a1 :: a2 :: a3 :: some (.int v) :: t) st M kr nr Q) : Ev G Y pc (a0 :: a1 :: a2 :: a3 :: some (.int x) :: t) st M kr nr Q := by
  have e9 : pu (a0 :: a1 :: a2 :: a3 :: some (.int x) :: t) 4 (.int v) = a0 :: a1 :: a2 :: a3 :: some (.int v) :: t := by simp [pu, hn]
  intro p e R s m args below meth c Z C hR arr H locs cells slots hl hP hS h1 h2
  obtain ⟨kk, hk⟩ : ∃ kk : Nat, (prs 0 (a0 :: a1 :: a2 :: a3 :: some (.int x) :: t))[kk]? = some (4, .int x) := List.getElem?_of_mem ((mem_prs _ 0 _).mpr ⟨4, by simp, rfl⟩)
  refine lv_iinc C.1 C.2.1 hd hl.has hk hv (Nat.le_of_ble_eq_true hw) rfl (fun ls2 hl2 => ?_)
  exact k p e R s m args below meth c Z C hR ls2 H locs cells slots (e9 ▸ lh.put hl2) hP hS h1 h2
theorem Ev.lld4 {a0 a1 a2 a3 : Option Value} {t : List (Option Value)} {x : Int64} (hd : Dc Y pc (.lload 4) 2) (k : Ev G Y (pc + 2) (a0 :: a1 :: a2 :: a3 :: some (.long x) :: t) (.long x :: st) M kr nr Q) : Ev G Y pc (a0 :: a1 :: a2 :: a3 :: some (.long x) :: t) st M kr nr Q := by
  intro p e R s m args below meth c Z C hR arr H locs cells slots hl hP hS h1 h2
  exact lv_lload C.1 C.2.1 hd (hl.2.2 4 _ rfl) (k p e R s m args below meth c Z C hR arr H locs cells slots hl hP hS h1 h2)
theorem Ev.lst4 {a0 a1 a2 a3 b b1 : Option Value} {t : List (Option Value)} {x : Int64} (hd : Dc Y pc (.lstore 4) 2) (hw : Nat.ble 6 Y.2.2.1 = true) (hn : nl a3 = true) (k : Ev G Y (pc + 2) (a0 :: a1 :: a2 :: a3 :: some (.long x) :: none :: t) st M kr nr Q) : Ev G Y pc (a0 :: a1 :: a2 :: a3 :: b :: b1 :: t) (.long x :: st) M kr nr Q := by
  have e9 : pu2 (a0 :: a1 :: a2 :: a3 :: b :: b1 :: t) 4 (.long x) = a0 :: a1 :: a2 :: a3 :: some (.long x) :: none :: t := by simp [pu, pu2, hn]
  intro p e R s m args below meth c Z C hR arr H locs cells slots hl hP hS h1 h2
  refine lv_lstore C.1 C.2.1 hd hl.has (Nat.le_of_ble_eq_true hw) rfl (fun ls2 hl2 => ?_)
  exact k p e R s m args below meth c Z C hR ls2 H locs cells slots (e9 ▸ lh.put2 hl2) hP hS h1 h2
theorem Ev.ald4 {a0 a1 a2 a3 : Option Value} {t : List (Option Value)} {x : Nat} (hd : Dc Y pc (.aload 4) 2) (k : Ev G Y (pc + 2) (a0 :: a1 :: a2 :: a3 :: some (.ref x) :: t) (.ref x :: st) M kr nr Q) : Ev G Y pc (a0 :: a1 :: a2 :: a3 :: some (.ref x) :: t) st M kr nr Q := by
  intro p e R s m args below meth c Z C hR arr H locs cells slots hl hP hS h1 h2
  exact lv_aload C.1 C.2.1 hd (hl.2.2 4 _ rfl) (k p e R s m args below meth c Z C hR arr H locs cells slots hl hP hS h1 h2)
theorem Ev.ast4 {a0 a1 a2 a3 b : Option Value} {t : List (Option Value)} {x : Nat} (hd : Dc Y pc (.astore 4) 2) (hw : Nat.ble 5 Y.2.2.1 = true) (hn : nl a3 = true) (k : Ev G Y (pc + 2) (a0 :: a1 :: a2 :: a3 :: some (.ref x) :: t) st M kr nr Q) : Ev G Y pc (a0 :: a1 :: a2 :: a3 :: b :: t) (.ref x :: st) M kr nr Q := by
  have e9 : pu (a0 :: a1 :: a2 :: a3 :: b :: t) 4 (.ref x) = a0 :: a1 :: a2 :: a3 :: some (.ref x) :: t := by simp [pu, pu2, hn]
  intro p e R s m args below meth c Z C hR arr H locs cells slots hl hP hS h1 h2
  refine lv_astore C.1 C.2.1 hd hl.has (Nat.le_of_ble_eq_true hw) rfl (fun ls2 hl2 => ?_)
  exact k p e R s m args below meth c Z C hR ls2 H locs cells slots (e9 ▸ lh.put hl2) hP hS h1 h2
theorem Ev.ild5 {a0 a1 a2 a3 a4 : Option Value} {t : List (Option Value)} {x : Int32} (hd : Dc Y pc (.iload 5) 2) (k : Ev G Y (pc + 2) (a0 :: a1 :: a2 :: a3 :: a4 :: some (.int x) :: t) (.int x :: st) M kr nr Q) : Ev G Y pc (a0 :: a1 :: a2 :: a3 :: a4 :: some (.int x) :: t) st M kr nr Q := by
  intro p e R s m args below meth c Z C hR arr H locs cells slots hl hP hS h1 h2
  exact lv_iload C.1 C.2.1 hd (hl.2.2 5 _ rfl) (k p e R s m args below meth c Z C hR arr H locs cells slots hl hP hS h1 h2)
theorem Ev.ist5 {a0 a1 a2 a3 a4 b : Option Value} {t : List (Option Value)} {x : Int32} (hd : Dc Y pc (.istore 5) 2) (hw : Nat.ble 6 Y.2.2.1 = true) (hn : nl a4 = true) (k : Ev G Y (pc + 2) (a0 :: a1 :: a2 :: a3 :: a4 :: some (.int x) :: t) st M kr nr Q) : Ev G Y pc (a0 :: a1 :: a2 :: a3 :: a4 :: b :: t) (.int x :: st) M kr nr Q := by
  have e9 : pu (a0 :: a1 :: a2 :: a3 :: a4 :: b :: t) 5 (.int x) = a0 :: a1 :: a2 :: a3 :: a4 :: some (.int x) :: t := by simp [pu, pu2, hn]
  intro p e R s m args below meth c Z C hR arr H locs cells slots hl hP hS h1 h2
  refine lv_istore C.1 C.2.1 hd hl.has (Nat.le_of_ble_eq_true hw) rfl (fun ls2 hl2 => ?_)
  exact k p e R s m args below meth c Z C hR ls2 H locs cells slots (e9 ▸ lh.put hl2) hP hS h1 h2
theorem Ev.iinc5 {a0 a1 a2 a3 a4 : Option Value} {t : List (Option Value)} {x v : Int32} {n : Int} (hd : Dc Y pc (.iinc 5 n) 3) (hw : Nat.ble 6 Y.2.2.1 = true) (hn : nl a4 = true) (hv : x + Int32.ofInt n = v) (k : Ev G Y (pc + 3) (a0 :: a1 :: a2 :: a3 :: a4 :: some (.int v) :: t) st M kr nr Q) : Ev G Y pc (a0 :: a1 :: a2 :: a3 :: a4 :: some (.int x) :: t) st M kr nr Q := by
  have e9 : pu (a0 :: a1 :: a2 :: a3 :: a4 :: some (.int x) :: t) 5 (.int v) = a0 :: a1 :: a2 :: a3 :: a4 :: some (.int v) :: t := by simp [pu, hn]
  intro p e R s m args below meth c Z C hR arr H locs cells slots hl hP hS h1 h2
  obtain ⟨kk, hk⟩ : ∃ kk : Nat, (prs 0 (a0 :: a1 :: a2 :: a3 :: a4 :: some (.int x) :: t))[kk]? = some (5, .int x) := List.getElem?_of_mem ((mem_prs _ 0 _).mpr ⟨5, by simp, rfl⟩)
  refine lv_iinc C.1 C.2.1 hd hl.has hk hv (Nat.le_of_ble_eq_true hw) rfl (fun ls2 hl2 => ?_)
  exact k p e R s m args below meth c Z C hR ls2 H locs cells slots (e9 ▸ lh.put hl2) hP hS h1 h2
theorem Ev.lld5 {a0 a1 a2 a3 a4 : Option Value} {t : List (Option Value)} {x : Int64} (hd : Dc Y pc (.lload 5) 2) (k : Ev G Y (pc + 2) (a0 :: a1 :: a2 :: a3 :: a4 :: some (.long x) :: t) (.long x :: st) M kr nr Q) : Ev G Y pc (a0 :: a1 :: a2 :: a3 :: a4 :: some (.long x) :: t) st M kr nr Q := by
  intro p e R s m args below meth c Z C hR arr H locs cells slots hl hP hS h1 h2
  exact lv_lload C.1 C.2.1 hd (hl.2.2 5 _ rfl) (k p e R s m args below meth c Z C hR arr H locs cells slots hl hP hS h1 h2)
theorem Ev.lst5 {a0 a1 a2 a3 a4 b b1 : Option Value} {t : List (Option Value)} {x : Int64} (hd : Dc Y pc (.lstore 5) 2) (hw : Nat.ble 7 Y.2.2.1 = true) (hn : nl a4 = true) (k : Ev G Y (pc + 2) (a0 :: a1 :: a2 :: a3 :: a4 :: some (.long x) :: none :: t) st M kr nr Q) : Ev G Y pc (a0 :: a1 :: a2 :: a3 :: a4 :: b :: b1 :: t) (.long x :: st) M kr nr Q := by
  have e9 : pu2 (a0 :: a1 :: a2 :: a3 :: a4 :: b :: b1 :: t) 5 (.long x) = a0 :: a1 :: a2 :: a3 :: a4 :: some (.long x) :: none :: t := by simp [pu, pu2, hn]
  intro p e R s m args below meth c Z C hR arr H locs cells slots hl hP hS h1 h2
  refine lv_lstore C.1 C.2.1 hd hl.has (Nat.le_of_ble_eq_true hw) rfl (fun ls2 hl2 => ?_)
  exact k p e R s m args below meth c Z C hR ls2 H locs cells slots (e9 ▸ lh.put2 hl2) hP hS h1 h2
theorem Ev.ald5 {a0 a1 a2 a3 a4 : Option Value} {t : List (Option Value)} {x : Nat} (hd : Dc Y pc (.aload 5) 2) (k : Ev G Y (pc + 2) (a0 :: a1 :: a2 :: a3 :: a4 :: some (.ref x) :: t) (.ref x :: st) M kr nr Q) : Ev G Y pc (a0 :: a1 :: a2 :: a3 :: a4 :: some (.ref x) :: t) st M kr nr Q := by
  intro p e R s m args below meth c Z C hR arr H locs cells slots hl hP hS h1 h2
  exact lv_aload C.1 C.2.1 hd (hl.2.2 5 _ rfl) (k p e R s m args below meth c Z C hR arr H locs cells slots hl hP hS h1 h2)
theorem Ev.ast5 {a0 a1 a2 a3 a4 b : Option Value} {t : List (Option Value)} {x : Nat} (hd : Dc Y pc (.astore 5) 2) (hw : Nat.ble 6 Y.2.2.1 = true) (hn : nl a4 = true) (k : Ev G Y (pc + 2) (a0 :: a1 :: a2 :: a3 :: a4 :: some (.ref x) :: t) st M kr nr Q) : Ev G Y pc (a0 :: a1 :: a2 :: a3 :: a4 :: b :: t) (.ref x :: st) M kr nr Q := by
  have e9 : pu (a0 :: a1 :: a2 :: a3 :: a4 :: b :: t) 5 (.ref x) = a0 :: a1 :: a2 :: a3 :: a4 :: some (.ref x) :: t := by simp [pu, pu2, hn]
  intro p e R s m args below meth c Z C hR arr H locs cells slots hl hP hS h1 h2
  refine lv_astore C.1 C.2.1 hd hl.has (Nat.le_of_ble_eq_true hw) rfl (fun ls2 hl2 => ?_)
  exact k p e R s m args below meth c Z C hR ls2 H locs cells slots (e9 ▸ lh.put hl2) hP hS h1 h2
theorem Ev.ild6 {a0 a1 a2 a3 a4 a5 : Option Value} {t : List (Option Value)} {x : Int32} (hd : Dc Y pc (.iload 6) 2) (k : Ev G Y (pc + 2) (a0 :: a1 :: a2 :: a3 :: a4 :: a5 :: some (.int x) :: t) (.int x :: st) M kr nr Q) : Ev G Y pc (a0 :: a1 :: a2 :: a3 :: a4 :: a5 :: some (.int x) :: t) st M kr nr Q := by
  intro p e R s m args below meth c Z C hR arr H locs cells slots hl hP hS h1 h2
  exact lv_iload C.1 C.2.1 hd (hl.2.2 6 _ rfl) (k p e R s m args below meth c Z C hR arr H locs cells slots hl hP hS h1 h2)
theorem Ev.ist6 {a0 a1 a2 a3 a4 a5 b : Option Value} {t : List (Option Value)} {x : Int32} (hd : Dc Y pc (.istore 6) 2) (hw : Nat.ble 7 Y.2.2.1 = true) (hn : nl a5 = true) (k : Ev G Y (pc + 2) (a0 :: a1 :: a2 :: a3 :: a4 :: a5 :: some (.int x) :: t) st M kr nr Q) : Ev G Y pc (a0 :: a1 :: a2 :: a3 :: a4 :: a5 :: b :: t) (.int x :: st) M kr nr Q := by
  have e9 : pu (a0 :: a1 :: a2 :: a3 :: a4 :: a5 :: b :: t) 6 (.int x) = a0 :: a1 :: a2 :: a3 :: a4 :: a5 :: some (.int x) :: t := by simp [pu, pu2, hn]
  intro p e R s m args below meth c Z C hR arr H locs cells slots hl hP hS h1 h2
  refine lv_istore C.1 C.2.1 hd hl.has (Nat.le_of_ble_eq_true hw) rfl (fun ls2 hl2 => ?_)
  exact k p e R s m args below meth c Z C hR ls2 H locs cells slots (e9 ▸ lh.put hl2) hP hS h1 h2
theorem Ev.iinc6 {a0 a1 a2 a3 a4 a5 : Option Value} {t : List (Option Value)} {x v : Int32} {n : Int} (hd : Dc Y pc (.iinc 6 n) 3) (hw : Nat.ble 7 Y.2.2.1 = true) (hn : nl a5 = true) (hv : x + Int32.ofInt n = v) (k : Ev G Y (pc + 3) (a0 :: a1 :: a2 :: a3 :: a4 :: a5 :: some (.int v) :: t) st M kr nr Q) : Ev G Y pc (a0 :: a1 :: a2 :: a3 :: a4 :: a5 :: some (.int x) :: t) st M kr nr Q := by
  have e9 : pu (a0 :: a1 :: a2 :: a3 :: a4 :: a5 :: some (.int x) :: t) 6 (.int v) = a0 :: a1 :: a2 :: a3 :: a4 :: a5 :: some (.int v) :: t := by simp [pu, hn]
  intro p e R s m args below meth c Z C hR arr H locs cells slots hl hP hS h1 h2
  obtain ⟨kk, hk⟩ : ∃ kk : Nat, (prs 0 (a0 :: a1 :: a2 :: a3 :: a4 :: a5 :: some (.int x) :: t))[kk]? = some (6, .int x) := List.getElem?_of_mem ((mem_prs _ 0 _).mpr ⟨6, by simp, rfl⟩)
  refine lv_iinc C.1 C.2.1 hd hl.has hk hv (Nat.le_of_ble_eq_true hw) rfl (fun ls2 hl2 => ?_)
  exact k p e R s m args below meth c Z C hR ls2 H locs cells slots (e9 ▸ lh.put hl2) hP hS h1 h2
theorem Ev.lld6 {a0 a1 a2 a3 a4 a5 : Option Value} {t : List (Option Value)} {x : Int64} (hd : Dc Y pc (.lload 6) 2) (k : Ev G Y (pc + 2) (a0 :: a1 :: a2 :: a3 :: a4 :: a5 :: some (.long x) :: t) (.long x :: st) M kr nr Q) : Ev G Y pc (a0 :: a1 :: a2 :: a3 :: a4 :: a5 :: some (.long x) :: t) st M kr nr Q := by
  intro p e R s m args below meth c Z C hR arr H locs cells slots hl hP hS h1 h2
  exact lv_lload C.1 C.2.1 hd (hl.2.2 6 _ rfl) (k p e R s m args below meth c Z C hR arr H locs cells slots hl hP hS h1 h2)
theorem Ev.lst6 {a0 a1 a2 a3 a4 a5 b b1 : Option Value} {t : List (Option Value)} {x : Int64} (hd : Dc Y pc (.lstore 6) 2) (hw : Nat.ble 8 Y.2.2.1 = true) (hn : nl a5 = true) (k : Ev G Y (pc + 2) (a0 :: a1 :: a2 :: a3 :: a4 :: a5 :: some (.long x) :: none :: t) st M kr nr Q) : Ev G Y pc (a0 :: a1 :: a2 :: a3 :: a4 :: a5 :: b :: b1 :: t) (.long x :: st) M kr nr Q := by
  have e9 : pu2 (a0 :: a1 :: a2 :: a3 :: a4 :: a5 :: b :: b1 :: t) 6 (.long x) = a0 :: a1 :: a2 :: a3 :: a4 :: a5 :: some (.long x) :: none :: t := by simp [pu, pu2, hn]
  intro p e R s m args below meth c Z C hR arr H locs cells slots hl hP hS h1 h2
  refine lv_lstore C.1 C.2.1 hd hl.has (Nat.le_of_ble_eq_true hw) rfl (fun ls2 hl2 => ?_)
  exact k p e R s m args below meth c Z C hR ls2 H locs cells slots (e9 ▸ lh.put2 hl2) hP hS h1 h2
theorem Ev.ald6 {a0 a1 a2 a3 a4 a5 : Option Value} {t : List (Option Value)} {x : Nat} (hd : Dc Y pc (.aload 6) 2) (k : Ev G Y (pc + 2) (a0 :: a1 :: a2 :: a3 :: a4 :: a5 :: some (.ref x) :: t) (.ref x :: st) M kr nr Q) : Ev G Y pc (a0 :: a1 :: a2 :: a3 :: a4 :: a5 :: some (.ref x) :: t) st M kr nr Q := by
  intro p e R s m args below meth c Z C hR arr H locs cells slots hl hP hS h1 h2
  exact lv_aload C.1 C.2.1 hd (hl.2.2 6 _ rfl) (k p e R s m args below meth c Z C hR arr H locs cells slots hl hP hS h1 h2)
theorem Ev.ast6 {a0 a1 a2 a3 a4 a5 b : Option Value} {t : List (Option Value)} {x : Nat} (hd : Dc Y pc (.astore 6) 2) (hw : Nat.ble 7 Y.2.2.1 = true) (hn : nl a5 = true) (k : Ev G Y (pc + 2) (a0 :: a1 :: a2 :: a3 :: a4 :: a5 :: some (.ref x) :: t) st M kr nr Q) : Ev G Y pc (a0 :: a1 :: a2 :: a3 :: a4 :: a5 :: b :: t) (.ref x :: st) M kr nr Q := by
  have e9 : pu (a0 :: a1 :: a2 :: a3 :: a4 :: a5 :: b :: t) 6 (.ref x) = a0 :: a1 :: a2 :: a3 :: a4 :: a5 :: some (.ref x) :: t := by simp [pu, pu2, hn]
  intro p e R s m args below meth c Z C hR arr H locs cells slots hl hP hS h1 h2
  refine lv_astore C.1 C.2.1 hd hl.has (Nat.le_of_ble_eq_true hw) rfl (fun ls2 hl2 => ?_)
  exact k p e R s m args below meth c Z C hR ls2 H locs cells slots (e9 ▸ lh.put hl2) hP hS h1 h2
theorem Ev.ild7 {a0 a1 a2 a3 a4 a5 a6 : Option Value} {t : List (Option Value)} {x : Int32} (hd : Dc Y pc (.iload 7) 2) (k : Ev G Y (pc + 2) (a0 :: a1 :: a2 :: a3 :: a4 :: a5 :: a6 :: some (.int x) :: t) (.int x :: st) M kr nr Q) : Ev G Y pc (a0 :: a1 :: a2 :: a3 :: a4 :: a5 :: a6 :: some (.int x) :: t) st M kr nr Q := by
  intro p e R s m args below meth c Z C hR arr H locs cells slots hl hP hS h1 h2
  exact lv_iload C.1 C.2.1 hd (hl.2.2 7 _ rfl) (k p e R s m args below meth c Z C hR arr H locs cells slots hl hP hS h1 h2)
theorem Ev.ist7 {a0 a1 a2 a3 a4 a5 a6 b : Option Value} {t : List (Option Value)} {x : Int32} (hd : Dc Y pc (.istore 7) 2) (hw : Nat.ble 8 Y.2.2.1 = true) (hn : nl a6 = true) (k : Ev G Y (pc + 2) (a0 :: a1 :: a2 :: a3 :: a4 :: a5 :: a6 :: some (.int x) :: t) st M kr nr Q) : Ev G Y pc (a0 :: a1 :: a2 :: a3 :: a4 :: a5 :: a6 :: b :: t) (.int x :: st) M kr nr Q := by
  have e9 : pu (a0 :: a1 :: a2 :: a3 :: a4 :: a5 :: a6 :: b :: t) 7 (.int x) = a0 :: a1 :: a2 :: a3 :: a4 :: a5 :: a6 :: some (.int x) :: t := by simp [pu, pu2, hn]
  intro p e R s m args below meth c Z C hR arr H locs cells slots hl hP hS h1 h2
  refine lv_istore C.1 C.2.1 hd hl.has (Nat.le_of_ble_eq_true hw) rfl (fun ls2 hl2 => ?_)
  exact k p e R s m args below meth c Z C hR ls2 H locs cells slots (e9 ▸ lh.put hl2) hP hS h1 h2
theorem Ev.iinc7 {a0 a1 a2 a3 a4 a5 a6 : Option Value} {t : List (Option Value)} {x v : Int32} {n : Int} (hd : Dc Y pc (.iinc 7 n) 3) (hw : Nat.ble 8 Y.2.2.1 = true) (hn : nl a6 = true) (hv : x + Int32.ofInt n = v) (k : Ev G Y (pc + 3) (a0 :: a1 :: a2 :: a3 :: a4 :: a5 :: a6 :: some (.int v) :: t) st M kr nr Q) : Ev G Y pc (a0 :: a1 :: a2 :: a3 :: a4 :: a5 :: a6 :: some (.int x) :: t) st M kr nr Q := by
  have e9 : pu (a0 :: a1 :: a2 :: a3 :: a4 :: a5 :: a6 :: some (.int x) :: t) 7 (.int v) = a0 :: a1 :: a2 :: a3 :: a4 :: a5 :: a6 :: some (.int v) :: t := by simp [pu, hn]
  intro p e R s m args below meth c Z C hR arr H locs cells slots hl hP hS h1 h2
  obtain ⟨kk, hk⟩ : ∃ kk : Nat, (prs 0 (a0 :: a1 :: a2 :: a3 :: a4 :: a5 :: a6 :: some (.int x) :: t))[kk]? = some (7, .int x) := List.getElem?_of_mem ((mem_prs _ 0 _).mpr ⟨7, by simp, rfl⟩)
  refine lv_iinc C.1 C.2.1 hd hl.has hk hv (Nat.le_of_ble_eq_true hw) rfl (fun ls2 hl2 => ?_)
  exact k p e R s m args below meth c Z C hR ls2 H locs cells slots (e9 ▸ lh.put hl2) hP hS h1 h2
theorem Ev.lld7 {a0 a1 a2 a3 a4 a5 a6 : Option Value} {t : List (Option Value)} {x : Int64} (hd : Dc Y pc (.lload 7) 2) (k : Ev G Y (pc + 2) (a0 :: a1 :: a2 :: a3 :: a4 :: a5 :: a6 :: some (.long x) :: t) (.long x :: st) M kr nr Q) : Ev G Y pc (a0 :: a1 :: a2 :: a3 :: a4 :: a5 :: a6 :: some (.long x) :: t) st M kr nr Q := by
  intro p e R s m args below meth c Z C hR arr H locs cells slots hl hP hS h1 h2
  exact lv_lload C.1 C.2.1 hd (hl.2.2 7 _ rfl) (k p e R s m args below meth c Z C hR arr H locs cells slots hl hP hS h1 h2)
theorem Ev.lst7 {a0 a1 a2 a3 a4 a5 a6 b b1 : Option Value} {t : List (Option Value)} {x : Int64} (hd : Dc Y pc (.lstore 7) 2) (hw : Nat.ble 9 Y.2.2.1 = true) (hn : nl a6 = true) (k : Ev G Y (pc + 2) (a0 :: a1 :: a2 :: a3 :: a4 :: a5 :: a6 :: some (.long x) :: none :: t) st M kr nr Q) : Ev G Y pc (a0 :: a1 :: a2 :: a3 :: a4 :: a5 :: a6 :: b :: b1 :: t) (.long x :: st) M kr nr Q := by
  have e9 : pu2 (a0 :: a1 :: a2 :: a3 :: a4 :: a5 :: a6 :: b :: b1 :: t) 7 (.long x) = a0 :: a1 :: a2 :: a3 :: a4 :: a5 :: a6 :: some (.long x) :: none :: t := by simp [pu, pu2, hn]
  intro p e R s m args below meth c Z C hR arr H locs cells slots hl hP hS h1 h2
  refine lv_lstore C.1 C.2.1 hd hl.has (Nat.le_of_ble_eq_true hw) rfl (fun ls2 hl2 => ?_)
  exact k p e R s m args below meth c Z C hR ls2 H locs cells slots (e9 ▸ lh.put2 hl2) hP hS h1 h2
theorem Ev.ald7 {a0 a1 a2 a3 a4 a5 a6 : Option Value} {t : List (Option Value)} {x : Nat} (hd : Dc Y pc (.aload 7) 2) (k : Ev G Y (pc + 2) (a0 :: a1 :: a2 :: a3 :: a4 :: a5 :: a6 :: some (.ref x) :: t) (.ref x :: st) M kr nr Q) : Ev G Y pc (a0 :: a1 :: a2 :: a3 :: a4 :: a5 :: a6 :: some (.ref x) :: t) st M kr nr Q := by
  intro p e R s m args below meth c Z C hR arr H locs cells slots hl hP hS h1 h2
  exact lv_aload C.1 C.2.1 hd (hl.2.2 7 _ rfl) (k p e R s m args below meth c Z C hR arr H locs cells slots hl hP hS h1 h2)
theorem Ev.ast7 {a0 a1 a2 a3 a4 a5 a6 b : Option Value} {t : List (Option Value)} {x : Nat} (hd : Dc Y pc (.astore 7) 2) (hw : Nat.ble 8 Y.2.2.1 = true) (hn : nl a6 = true) (k : Ev G Y (pc + 2) (a0 :: a1 :: a2 :: a3 :: a4 :: a5 :: a6 :: some (.ref x) :: t) st M kr nr Q) : Ev G Y pc (a0 :: a1 :: a2 :: a3 :: a4 :: a5 :: a6 :: b :: t) (.ref x :: st) M kr nr Q := by
  have e9 : pu (a0 :: a1 :: a2 :: a3 :: a4 :: a5 :: a6 :: b :: t) 7 (.ref x) = a0 :: a1 :: a2 :: a3 :: a4 :: a5 :: a6 :: some (.ref x) :: t := by simp [pu, pu2, hn]
  intro p e R s m args below meth c Z C hR arr H locs cells slots hl hP hS h1 h2
  refine lv_astore C.1 C.2.1 hd hl.has (Nat.le_of_ble_eq_true hw) rfl (fun ls2 hl2 => ?_)
  exact k p e R s m args below meth c Z C hR ls2 H locs cells slots (e9 ▸ lh.put hl2) hP hS h1 h2
theorem Ev.ild8 {a0 a1 a2 a3 a4 a5 a6 a7 : Option Value} {t : List (Option Value)} {x : Int32} (hd : Dc Y pc (.iload 8) 2) (k : Ev G Y (pc + 2) (a0 :: a1 :: a2 :: a3 :: a4 :: a5 :: a6 :: a7 :: some (.int x) :: t) (.int x :: st) M kr nr Q) : Ev G Y pc (a0 :: a1 :: a2 :: a3 :: a4 :: a5 :: a6 :: a7 :: some (.int x) :: t) st M kr nr Q := by
  intro p e R s m args below meth c Z C hR arr H locs cells slots hl hP hS h1 h2
  exact lv_iload C.1 C.2.1 hd (hl.2.2 8 _ rfl) (k p e R s m args below meth c Z C hR arr H locs cells slots hl hP hS h1 h2)
theorem Ev.ist8 {a0 a1 a2 a3 a4 a5 a6 a7 b : Option Value} {t : List (Option Value)} {x : Int32} (hd : Dc Y pc (.istore 8) 2) (hw : Nat.ble 9 Y.2.2.1 = true) (hn : nl a7 = true) (k : Ev G Y (pc + 2) (a0 :: a1 :: a2 :: a3 :: a4 :: a5 :: a6 :: a7 :: some (.int x) :: t) st M kr nr Q) : Ev G Y pc (a0 :: a1 :: a2 :: a3 :: a4 :: a5 :: a6 :: a7 :: b :: t) (.int x :: st) M kr nr Q := by
  have e9 : pu (a0 :: a1 :: a2 :: a3 :: a4 :: a5 :: a6 :: a7 :: b :: t) 8 (.int x) = a0 :: a1 :: a2 :: a3 :: a4 :: a5 :: a6 :: a7 :: some (.int x) :: t := by simp [pu, pu2, hn]
  intro p e R s m args below meth c Z C hR arr H locs cells slots hl hP hS h1 h2
  refine lv_istore C.1 C.2.1 hd hl.has (Nat.le_of_ble_eq_true hw) rfl (fun ls2 hl2 => ?_)
  exact k p e R s m args below meth c Z C hR ls2 H locs cells slots (e9 ▸ lh.put hl2) hP hS h1 h2
theorem Ev.iinc8 {a0 a1 a2 a3 a4 a5 a6 a7 : Option Value} {t : List (Option Value)} {x v : Int32} {n : Int} (hd : Dc Y pc (.iinc 8 n) 3) (hw : Nat.ble 9 Y.2.2.1 = true) (hn : nl a7 = true) (hv : x + Int32.ofInt n = v) (k : Ev G Y (pc + 3) (a0 :: a1 :: a2 :: a3 :: a4 :: a5 :: a6 :: a7 :: some (.int v) :: t) st M kr nr Q) : Ev G Y pc (a0 :: a1 :: a2 :: a3 :: a4 :: a5 :: a6 :: a7 :: some (.int x) :: t) st M kr nr Q := by
  have e9 : pu (a0 :: a1 :: a2 :: a3 :: a4 :: a5 :: a6 :: a7 :: some (.int x) :: t) 8 (.int v) = a0 :: a1 :: a2 :: a3 :: a4 :: a5 :: a6 :: a7 :: some (.int v) :: t := by simp [pu, hn]
  intro p e R s m args below meth c Z C hR arr H locs cells slots hl hP hS h1 h2
  obtain ⟨kk, hk⟩ : ∃ kk : Nat, (prs 0 (a0 :: a1 :: a2 :: a3 :: a4 :: a5 :: a6 :: a7 :: some (.int x) :: t))[kk]? = some (8, .int x) := List.getElem?_of_mem ((mem_prs _ 0 _).mpr ⟨8, by simp, rfl⟩)
  refine lv_iinc C.1 C.2.1 hd hl.has hk hv (Nat.le_of_ble_eq_true hw) rfl (fun ls2 hl2 => ?_)
  exact k p e R s m args below meth c Z C hR ls2 H locs cells slots (e9 ▸ lh.put hl2) hP hS h1 h2
theorem Ev.lld8 {a0 a1 a2 a3 a4 a5 a6 a7 : Option Value} {t : List (Option Value)} {x : Int64} (hd : Dc Y pc (.lload 8) 2) (k : Ev G Y (pc + 2) (a0 :: a1 :: a2 :: a3 :: a4 :: a5 :: a6 :: a7 :: some (.long x) :: t) (.long x :: st) M kr nr Q) : Ev G Y pc (a0 :: a1 :: a2 :: a3 :: a4 :: a5 :: a6 :: a7 :: some (.long x) :: t) st M kr nr Q := by
  intro p e R s m args below meth c Z C hR arr H locs cells slots hl hP hS h1 h2
  exact lv_lload C.1 C.2.1 hd (hl.2.2 8 _ rfl) (k p e R s m args below meth c Z C hR arr H locs cells slots hl hP hS h1 h2)
theorem Ev.lst8 {a0 a1 a2 a3 a4 a5 a6 a7 b b1 : Option Value} {t : List (Option Value)} {x : Int64} (hd : Dc Y pc (.lstore 8) 2) (hw : Nat.ble 10 Y.2.2.1 = true) (hn : nl a7 = true) (k : Ev G Y (pc + 2) (a0 :: a1 :: a2 :: a3 :: a4 :: a5 :: a6 :: a7 :: some (.long x) :: none :: t) st M kr nr Q) : Ev G Y pc (a0 :: a1 :: a2 :: a3 :: a4 :: a5 :: a6 :: a7 :: b :: b1 :: t) (.long x :: st) M kr nr Q := by
  have e9 : pu2 (a0 :: a1 :: a2 :: a3 :: a4 :: a5 :: a6 :: a7 :: b :: b1 :: t) 8 (.long x) = a0 :: a1 :: a2 :: a3 :: a4 :: a5 :: a6 :: a7 :: some (.long x) :: none :: t := by simp [pu, pu2, hn]
  intro p e R s m args below meth c Z C hR arr H locs cells slots hl hP hS h1 h2
  refine lv_lstore C.1 C.2.1 hd hl.has (Nat.le_of_ble_eq_true hw) rfl (fun ls2 hl2 => ?_)
  exact k p e R s m args below meth c Z C hR ls2 H locs cells slots (e9 ▸ lh.put2 hl2) hP hS h1 h2
theorem Ev.ald8 {a0 a1 a2 a3 a4 a5 a6 a7 : Option Value} {t : List (Option Value)} {x : Nat} (hd : Dc Y pc (.aload 8) 2) (k : Ev G Y (pc + 2) (a0 :: a1 :: a2 :: a3 :: a4 :: a5 :: a6 :: a7 :: some (.ref x) :: t) (.ref x :: st) M kr nr Q) : Ev G Y pc (a0 :: a1 :: a2 :: a3 :: a4 :: a5 :: a6 :: a7 :: some (.ref x) :: t) st M kr nr Q := by
  intro p e R s m args below meth c Z C hR arr H locs cells slots hl hP hS h1 h2
  exact lv_aload C.1 C.2.1 hd (hl.2.2 8 _ rfl) (k p e R s m args below meth c Z C hR arr H locs cells slots hl hP hS h1 h2)
theorem Ev.ast8 {a0 a1 a2 a3 a4 a5 a6 a7 b : Option Value} {t : List (Option Value)} {x : Nat} (hd : Dc Y pc (.astore 8) 2) (hw : Nat.ble 9 Y.2.2.1 = true) (hn : nl a7 = true) (k : Ev G Y (pc + 2) (a0 :: a1 :: a2 :: a3 :: a4 :: a5 :: a6 :: a7 :: some (.ref x) :: t) st M kr nr Q) : Ev G Y pc (a0 :: a1 :: a2 :: a3 :: a4 :: a5 :: a6 :: a7 :: b :: t) (.ref x :: st) M kr nr Q := by
  have e9 : pu (a0 :: a1 :: a2 :: a3 :: a4 :: a5 :: a6 :: a7 :: b :: t) 8 (.ref x) = a0 :: a1 :: a2 :: a3 :: a4 :: a5 :: a6 :: a7 :: some (.ref x) :: t := by simp [pu, pu2, hn]
  intro p e R s m args below meth c Z C hR arr H locs cells slots hl hP hS h1 h2
  refine lv_astore C.1 C.2.1 hd hl.has (Nat.le_of_ble_eq_true hw) rfl (fun ls2 hl2 => ?_)
  exact k p e R s m args below meth c Z C hR ls2 H locs cells slots (e9 ▸ lh.put hl2) hP hS h1 h2
theorem Ev.ild9 {a0 a1 a2 a3 a4 a5 a6 a7 a8 : Option Value} {t : List (Option Value)} {x : Int32} (hd : Dc Y pc (.iload 9) 2) (k : Ev G Y (pc + 2) (a0 :: a1 :: a2 :: a3 :: a4 :: a5 :: a6 :: a7 :: a8 :: some (.int x) :: t) (.int x :: st) M kr nr Q) : Ev G Y pc (a0 :: a1 :: a2 :: a3 :: a4 :: a5 :: a6 :: a7 :: a8 :: some (.int x) :: t) st M kr nr Q := by
  intro p e R s m args below meth c Z C hR arr H locs cells slots hl hP hS h1 h2
  exact lv_iload C.1 C.2.1 hd (hl.2.2 9 _ rfl) (k p e R s m args below meth c Z C hR arr H locs cells slots hl hP hS h1 h2)
theorem Ev.ist9 {a0 a1 a2 a3 a4 a5 a6 a7 a8 b : Option Value} {t : List (Option Value)} {x : Int32} (hd : Dc Y pc (.istore 9) 2) (hw : Nat.ble 10 Y.2.2.1 = true) (hn : nl a8 = true) (k : Ev G Y (pc + 2) (a0 :: a1 :: a2 :: a3 :: a4 :: a5 :: a6 :: a7 :: a8 :: some (.int x) :: t) st M kr nr Q) : Ev G Y pc (a0 :: a1 :: a2 :: a3 :: a4 :: a5 :: a6 :: a7 :: a8 :: b :: t) (.int x :: st) M kr nr Q := by
  have e9 : pu (a0 :: a1 :: a2 :: a3 :: a4 :: a5 :: a6 :: a7 :: a8 :: b :: t) 9 (.int x) = a0 :: a1 :: a2 :: a3 :: a4 :: a5 :: a6 :: a7 :: a8 :: some (.int x) :: t := by simp [pu, pu2, hn]
  intro p e R s m args below meth c Z C hR arr H locs cells slots hl hP hS h1 h2
  refine lv_istore C.1 C.2.1 hd hl.has (Nat.le_of_ble_eq_true hw) rfl (fun ls2 hl2 => ?_)
  exact k p e R s m args below meth c Z C hR ls2 H locs cells slots (e9 ▸ lh.put hl2) hP hS h1 h2
theorem Ev.iinc9 {a0 a1 a2 a3 a4 a5 a6 a7 a8 : Option Value} {t : List (Option Value)} {x v : Int32} {n : Int} (hd : Dc Y pc (.iinc 9 n) 3) (hw : Nat.ble 10 Y.2.2.1 = true) (hn : nl a8 = true) (hv : x + Int32.ofInt n = v) (k : Ev G Y (pc + 3) (a0 :: a1 :: a2 :: a3 :: a4 :: a5 :: a6 :: a7 :: a8 :: some (.int v) :: t) st M kr nr Q) : Ev G Y pc (a0 :: a1 :: a2 :: a3 :: a4 :: a5 :: a6 :: a7 :: a8 :: some (.int x) :: t) st M kr nr Q := by
  have e9 : pu (a0 :: a1 :: a2 :: a3 :: a4 :: a5 :: a6 :: a7 :: a8 :: some (.int x) :: t) 9 (.int v) = a0 :: a1 :: a2 :: a3 :: a4 :: a5 :: a6 :: a7 :: a8 :: some (.int v) :: t := by simp [pu, hn]
  intro p e R s m args below meth c Z C hR arr H locs cells slots hl hP hS h1 h2
  obtain ⟨kk, hk⟩ : ∃ kk : Nat, (prs 0 (a0 :: a1 :: a2 :: a3 :: a4 :: a5 :: a6 :: a7 :: a8 :: some (.int x) :: t))[kk]? = some (9, .int x) := List.getElem?_of_mem ((mem_prs _ 0 _).mpr ⟨9, by simp, rfl⟩)
  refine lv_iinc C.1 C.2.1 hd hl.has hk hv (Nat.le_of_ble_eq_true hw) rfl (fun ls2 hl2 => ?_)
  exact k p e R s m args below meth c Z C hR ls2 H locs cells slots (e9 ▸ lh.put hl2) hP hS h1 h2
theorem Ev.lld9 {a0 a1 a2 a3 a4 a5 a6 a7 a8 : Option Value} {t : List (Option Value)} {x : Int64} (hd : Dc Y pc (.lload 9) 2) (k : Ev G Y (pc + 2) (a0 :: a1 :: a2 :: a3 :: a4 :: a5 :: a6 :: a7 :: a8 :: some (.long x) :: t) (.long x :: st) M kr nr Q) : Ev G Y pc (a0 :: a1 :: a2 :: a3 :: a4 :: a5 :: a6 :: a7 :: a8 :: some (.long x) :: t) st M kr nr Q := by
  intro p e R s m args below meth c Z C hR arr H locs cells slots hl hP hS h1 h2
  exact lv_lload C.1 C.2.1 hd (hl.2.2 9 _ rfl) (k p e R s m args below meth c Z C hR arr H locs cells slots hl hP hS h1 h2)
theorem Ev.lst9 {a0 a1 a2 a3 a4 a5 a6 a7 a8 b b1 : Option Value} {t : List (Option Value)} {x : Int64} (hd : Dc Y pc (.lstore 9) 2) (hw : Nat.ble 11 Y.2.2.1 = true) (hn : nl a8 = true) (k : Ev G Y (pc + 2) (a0 :: a1 :: a2 :: a3 :: a4 :: a5 :: a6 :: a7 :: a8 :: some (.long x) :: none :: t) st M kr nr Q) : Ev G Y pc (a0 :: a1 :: a2 :: a3 :: a4 :: a5 :: a6 :: a7 :: a8 :: b :: b1 :: t) (.long x :: st) M kr nr Q := by
  have e9 : pu2 (a0 :: a1 :: a2 :: a3 :: a4 :: a5 :: a6 :: a7 :: a8 :: b :: b1 :: t) 9 (.long x) = a0 :: a1 :: a2 :: a3 :: a4 :: a5 :: a6 :: a7 :: a8 :: some (.long x) :: none :: t := by simp [pu, pu2, hn]
  intro p e R s m args below meth c Z C hR arr H locs cells slots hl hP hS h1 h2
  refine lv_lstore C.1 C.2.1 hd hl.has (Nat.le_of_ble_eq_true hw) rfl (fun ls2 hl2 => ?_)
  exact k p e R s m args below meth c Z C hR ls2 H locs cells slots (e9 ▸ lh.put2 hl2) hP hS h1 h2
theorem Ev.ald9 {a0 a1 a2 a3 a4 a5 a6 a7 a8 : Option Value} {t : List (Option Value)} {x : Nat} (hd : Dc Y pc (.aload 9) 2) (k : Ev G Y (pc + 2) (a0 :: a1 :: a2 :: a3 :: a4 :: a5 :: a6 :: a7 :: a8 :: some (.ref x) :: t) (.ref x :: st) M kr nr Q) : Ev G Y pc (a0 :: a1 :: a2 :: a3 :: a4 :: a5 :: a6 :: a7 :: a8 :: some (.ref x) :: t) st M kr nr Q := by
  intro p e R s m args below meth c Z C hR arr H locs cells slots hl hP hS h1 h2
  exact lv_aload C.1 C.2.1 hd (hl.2.2 9 _ rfl) (k p e R s m args below meth c Z C hR arr H locs cells slots hl hP hS h1 h2)
theorem Ev.ast9 {a0 a1 a2 a3 a4 a5 a6 a7 a8 b : Option Value} {t : List (Option Value)} {x : Nat} (hd : Dc Y pc (.astore 9) 2) (hw : Nat.ble 10 Y.2.2.1 = true) (hn : nl a8 = true) (k : Ev G Y (pc + 2) (a0 :: a1 :: a2 :: a3 :: a4 :: a5 :: a6 :: a7 :: a8 :: some (.ref x) :: t) st M kr nr Q) : Ev G Y pc (a0 :: a1 :: a2 :: a3 :: a4 :: a5 :: a6 :: a7 :: a8 :: b :: t) (.ref x :: st) M kr nr Q := by
  have e9 : pu (a0 :: a1 :: a2 :: a3 :: a4 :: a5 :: a6 :: a7 :: a8 :: b :: t) 9 (.ref x) = a0 :: a1 :: a2 :: a3 :: a4 :: a5 :: a6 :: a7 :: a8 :: some (.ref x) :: t := by simp [pu, pu2, hn]
  intro p e R s m args below meth c Z C hR arr H locs cells slots hl hP hS h1 h2
  refine lv_astore C.1 C.2.1 hd hl.has (Nat.le_of_ble_eq_true hw) rfl (fun ls2 hl2 => ?_)
  exact k p e R s m args below meth c Z C hR ls2 H locs cells slots (e9 ▸ lh.put hl2) hP hS h1 h2
theorem Ev.ild10 {a0 a1 a2 a3 a4 a5 a6 a7 a8 a9 : Option Value} {t : List (Option Value)} {x : Int32} (hd : Dc Y pc (.iload 10) 2) (k : Ev G Y (pc + 2) (a0 :: a1 :: a2 :: a3 :: a4 :: a5 :: a6 :: a7 :: a8 :: a9 :: some (.int x) :: t) (.int x :: st) M kr nr Q) : Ev G Y pc (a0 :: a1 :: a2 :: a3 :: a4 :: a5 :: a6 :: a7 :: a8 :: a9 :: some (.int x) :: t) st M kr nr Q := by
  intro p e R s m args below meth c Z C hR arr H locs cells slots hl hP hS h1 h2
  exact lv_iload C.1 C.2.1 hd (hl.2.2 10 _ rfl) (k p e R s m args below meth c Z C hR arr H locs cells slots hl hP hS h1 h2)
theorem Ev.ist10 {a0 a1 a2 a3 a4 a5 a6 a7 a8 a9 b : Option Value} {t : List (Option Value)} {x : Int32} (hd : Dc Y pc (.istore 10) 2) (hw : Nat.ble 11 Y.2.2.1 = true) (hn : nl a9 = true) (k : Ev G Y (pc + 2) (a0 :: a1 :: a2 :: a3 :: a4 :: a5 :: a6 :: a7 :: a8 :: a9 :: some (.int x) :: t) st M kr nr Q) : Ev G Y pc (a0 :: a1 :: a2 :: a3 :: a4 :: a5 :: a6 :: a7 :: a8 :: a9 :: b :: t) (.int x :: st) M kr nr Q := by
  have e9 : pu (a0 :: a1 :: a2 :: a3 :: a4 :: a5 :: a6 :: a7 :: a8 :: a9 :: b :: t) 10 (.int x) = a0 :: a1 :: a2 :: a3 :: a4 :: a5 :: a6 :: a7 :: a8 :: a9 :: some (.int x) :: t := by simp [pu, pu2, hn]
  intro p e R s m args below meth c Z C hR arr H locs cells slots hl hP hS h1 h2
  refine lv_istore C.1 C.2.1 hd hl.has (Nat.le_of_ble_eq_true hw) rfl (fun ls2 hl2 => ?_)
  exact k p e R s m args below meth c Z C hR ls2 H locs cells slots (e9 ▸ lh.put hl2) hP hS h1 h2
theorem Ev.iinc10 {a0 a1 a2 a3 a4 a5 a6 a7 a8 a9 : Option Value} {t : List (Option Value)} {x v : Int32} {n : Int} (hd : Dc Y pc (.iinc 10 n) 3) (hw : Nat.ble 11 Y.2.2.1 = true) (hn : nl a9 = true) (hv : x + Int32.ofInt n = v) (k : Ev G Y (pc + 3) (a0 :: a1 :: a2 :: a3 :: a4 :: a5 :: a6 :: a7 :: a8 :: a9 :: some (.int v) :: t) st M kr nr Q) : Ev G Y pc (a0 :: a1 :: a2 :: a3 :: a4 :: a5 :: a6 :: a7 :: a8 :: a9 :: some (.int x) :: t) st M kr nr Q := by
  have e9 : pu (a0 :: a1 :: a2 :: a3 :: a4 :: a5 :: a6 :: a7 :: a8 :: a9 :: some (.int x) :: t) 10 (.int v) = a0 :: a1 :: a2 :: a3 :: a4 :: a5 :: a6 :: a7 :: a8 :: a9 :: some (.int v) :: t := by simp [pu, hn]
  intro p e R s m args below meth c Z C hR arr H locs cells slots hl hP hS h1 h2
  obtain ⟨kk, hk⟩ : ∃ kk : Nat, (prs 0 (a0 :: a1 :: a2 :: a3 :: a4 :: a5 :: a6 :: a7 :: a8 :: a9 :: some (.int x) :: t))[kk]? = some (10, .int x) := List.getElem?_of_mem ((mem_prs _ 0 _).mpr ⟨10, by simp, rfl⟩)
  refine lv_iinc C.1 C.2.1 hd hl.has hk hv (Nat.le_of_ble_eq_true hw) rfl (fun ls2 hl2 => ?_)
  exact k p e R s m args below meth c Z C hR ls2 H locs cells slots (e9 ▸ lh.put hl2) hP hS h1 h2
theorem Ev.lld10 {a0 a1 a2 a3 a4 a5 a6 a7 a8 a9 : Option Value} {t : List (Option Value)} {x : Int64} (hd : Dc Y pc (.lload 10) 2) (k : Ev G Y (pc + 2) (a0 :: a1 :: a2 :: a3 :: a4 :: a5 :: a6 :: a7 :: a8 :: a9 :: some (.long x) :: t) (.long x :: st) M kr nr Q) : Ev G Y pc (a0 :: a1 :: a2 :: a3 :: a4 :: a5 :: a6 :: a7 :: a8 :: a9 :: some (.long x) :: t) st M kr nr Q := by
  intro p e R s m args below meth c Z C hR arr H locs cells slots hl hP hS h1 h2
  exact lv_lload C.1 C.2.1 hd (hl.2.2 10 _ rfl) (k p e R s m args below meth c Z C hR arr H locs cells slots hl hP hS h1 h2)
theorem Ev.lst10 {a0 a1 a2 a3 a4 a5 a6 a7 a8 a9 b b1 : Option Value} {t : List (Option Value)} {x : Int64} (hd : Dc Y pc (.lstore 10) 2) (hw : Nat.ble 12 Y.2.2.1 = true) (hn : nl a9 = true) (k : Ev G Y (pc + 2) (a0 :: a1 :: a2 :: a3 :: a4 :: a5 :: a6 :: a7 :: a8 :: a9 :: some (.long x) :: none :: t) st M kr nr Q) : Ev G Y pc (a0 :: a1 :: a2 :: a3 :: a4 :: a5 :: a6 :: a7 :: a8 :: a9 :: b :: b1 :: t) (.long x :: st) M kr nr Q := by
  have e9 : pu2 (a0 :: a1 :: a2 :: a3 :: a4 :: a5 :: a6 :: a7 :: a8 :: a9 :: b :: b1 :: t) 10 (.long x) = a0 :: a1 :: a2 :: a3 :: a4 :: a5 :: a6 :: a7 :: a8 :: a9 :: some (.long x) :: none :: t := by simp [pu, pu2, hn]
  intro p e R s m args below meth c Z C hR arr H locs cells slots hl hP hS h1 h2
  refine lv_lstore C.1 C.2.1 hd hl.has (Nat.le_of_ble_eq_true hw) rfl (fun ls2 hl2 => ?_)
  exact k p e R s m args below meth c Z C hR ls2 H locs cells slots (e9 ▸ lh.put2 hl2) hP hS h1 h2
theorem Ev.ald10 {a0 a1 a2 a3 a4 a5 a6 a7 a8 a9 : Option Value} {t : List (Option Value)} {x : Nat} (hd : Dc Y pc (.aload 10) 2) (k : Ev G Y (pc + 2) (a0 :: a1 :: a2 :: a3 :: a4 :: a5 :: a6 :: a7 :: a8 :: a9 :: some (.ref x) :: t) (.ref x :: st) M kr nr Q) : Ev G Y pc (a0 :: a1 :: a2 :: a3 :: a4 :: a5 :: a6 :: a7 :: a8 :: a9 :: some (.ref x) :: t) st M kr nr Q := by
  intro p e R s m args below meth c Z C hR arr H locs cells slots hl hP hS h1 h2
  exact lv_aload C.1 C.2.1 hd (hl.2.2 10 _ rfl) (k p e R s m args below meth c Z C hR arr H locs cells slots hl hP hS h1 h2)
theorem Ev.ast10 {a0 a1 a2 a3 a4 a5 a6 a7 a8 a9 b : Option Value} {t : List (Option Value)} {x : Nat} (hd : Dc Y pc (.astore 10) 2) (hw : Nat.ble 11 Y.2.2.1 = true) (hn : nl a9 = true) (k : Ev G Y (pc + 2) (a0 :: a1 :: a2 :: a3 :: a4 :: a5 :: a6 :: a7 :: a8 :: a9 :: some (.ref x) :: t) st M kr nr Q) : Ev G Y pc (a0 :: a1 :: a2 :: a3 :: a4 :: a5 :: a6 :: a7 :: a8 :: a9 :: b :: t) (.ref x :: st) M kr nr Q := by
  have e9 : pu (a0 :: a1 :: a2 :: a3 :: a4 :: a5 :: a6 :: a7 :: a8 :: a9 :: b :: t) 10 (.ref x) = a0 :: a1 :: a2 :: a3 :: a4 :: a5 :: a6 :: a7 :: a8 :: a9 :: some (.ref x) :: t := by simp [pu, pu2, hn]
  intro p e R s m args below meth c Z C hR arr H locs cells slots hl hP hS h1 h2
  refine lv_astore C.1 C.2.1 hd hl.has (Nat.le_of_ble_eq_true hw) rfl (fun ls2 hl2 => ?_)
  exact k p e R s m args below meth c Z C hR ls2 H locs cells slots (e9 ▸ lh.put hl2) hP hS h1 h2
theorem Ev.ild11 {a0 a1 a2 a3 a4 a5 a6 a7 a8 a9 a10 : Option Value} {t : List (Option Value)} {x : Int32} (hd : Dc Y pc (.iload 11) 2) (k : Ev G Y (pc + 2) (a0 :: a1 :: a2 :: a3 :: a4 :: a5 :: a6 :: a7 :: a8 :: a9 :: a10 :: some (.int x) :: t) (.int x :: st) M kr nr Q) : Ev G Y pc (a0 :: a1 :: a2 :: a3 :: a4 :: a5 :: a6 :: a7 :: a8 :: a9 :: a10 :: some (.int x) :: t) st M kr nr Q := by
  intro p e R s m args below meth c Z C hR arr H locs cells slots hl hP hS h1 h2
  exact lv_iload C.1 C.2.1 hd (hl.2.2 11 _ rfl) (k p e R s m args below meth c Z C hR arr H locs cells slots hl hP hS h1 h2)
theorem Ev.ist11 {a0 a1 a2 a3 a4 a5 a6 a7 a8 a9 a10 b : Option Value} {t : List (Option Value)} {x : Int32} (hd : Dc Y pc (.istore 11) 2) (hw : Nat.ble 12 Y.2.2.1 = true) (hn : nl a10 = true) (k : Ev G Y (pc + 2) (a0 :: a1 :: a2 :: a3 :: a4 :: a5 :: a6 :: a7 :: a8 :: a9 :: a10 :: some (.int x) :: t) st M kr nr Q) : Ev G Y pc (a0 :: a1 :: a2 :: a3 :: a4 :: a5 :: a6 :: a7 :: a8 :: a9 :: a10 :: b :: t) (.int x :: st) M kr nr Q := by
  have e9 : pu (a0 :: a1 :: a2 :: a3 :: a4 :: a5 :: a6 :: a7 :: a8 :: a9 :: a10 :: b :: t) 11 (.int x) = a0 :: a1 :: a2 :: a3 :: a4 :: a5 :: a6 :: a7 :: a8 :: a9 :: a10 :: some (.int x) :: t := by simp [pu, pu2, hn]
  intro p e R s m args below meth c Z C hR arr H locs cells slots hl hP hS h1 h2
  refine lv_istore C.1 C.2.1 hd hl.has (Nat.le_of_ble_eq_true hw) rfl (fun ls2 hl2 => ?_)
  exact k p e R s m args below meth c Z C hR ls2 H locs cells slots (e9 ▸ lh.put hl2) hP hS h1 h2
theorem Ev.iinc11 {a0 a1 a2 a3 a4 a5 a6 a7 a8 a9 a10 : Option Value} {t : List (Option Value)} {x v : Int32} {n : Int} (hd : Dc Y pc (.iinc 11 n) 3) (hw : Nat.ble 12 Y.2.2.1 = true) (hn : nl a10 = true) (hv : x + Int32.ofInt n = v) (k : Ev G Y (pc + 3) (a0 :: a1 :: a2 :: a3 :: a4 :: a5 :: a6 :: a7 :: a8 :: a9 :: a10 :: some (.int v) :: t) st M kr nr Q) : Ev G Y pc (a0 :: a1 :: a2 :: a3 :: a4 :: a5 :: a6 :: a7 :: a8 :: a9 :: a10 :: some (.int x) :: t) st M kr nr Q := by
  have e9 : pu (a0 :: a1 :: a2 :: a3 :: a4 :: a5 :: a6 :: a7 :: a8 :: a9 :: a10 :: some (.int x) :: t) 11 (.int v) = a0 :: a1 :: a2 :: a3 :: a4 :: a5 :: a6 :: a7 :: a8 :: a9 :: a10 :: some (.int v) :: t := by simp [pu, hn]
  intro p e R s m args below meth c Z C hR arr H locs cells slots hl hP hS h1 h2
  obtain ⟨kk, hk⟩ : ∃ kk : Nat, (prs 0 (a0 :: a1 :: a2 :: a3 :: a4 :: a5 :: a6 :: a7 :: a8 :: a9 :: a10 :: some (.int x) :: t))[kk]? = some (11, .int x) := List.getElem?_of_mem ((mem_prs _ 0 _).mpr ⟨11, by simp, rfl⟩)
  refine lv_iinc C.1 C.2.1 hd hl.has hk hv (Nat.le_of_ble_eq_true hw) rfl (fun ls2 hl2 => ?_)
  exact k p e R s m args below meth c Z C hR ls2 H locs cells slots (e9 ▸ lh.put hl2) hP hS h1 h2
theorem Ev.lld11 {a0 a1 a2 a3 a4 a5 a6 a7 a8 a9 a10 : Option Value} {t : List (Option Value)} {x : Int64} (hd : Dc Y pc (.lload 11) 2) (k : Ev G Y (pc + 2) (a0 :: a1 :: a2 :: a3 :: a4 :: a5 :: a6 :: a7 :: a8 :: a9 :: a10 :: some (.long x) :: t) (.long x :: st) M kr nr Q) : Ev G Y pc (a0 :: a1 :: a2 :: a3 :: a4 :: a5 :: a6 :: a7 :: a8 :: a9 :: a10 :: some (.long x) :: t) st M kr nr Q := by
  intro p e R s m args below meth c Z C hR arr H locs cells slots hl hP hS h1 h2
  exact lv_lload C.1 C.2.1 hd (hl.2.2 11 _ rfl) (k p e R s m args below meth c Z C hR arr H locs cells slots hl hP hS h1 h2)
theorem Ev.lst11 {a0 a1 a2 a3 a4 a5 a6 a7 a8 a9 a10 b b1 : Option Value} {t : List (Option Value)} {x : Int64} (hd : Dc Y pc (.lstore 11) 2) (hw : Nat.ble 13 Y.2.2.1 = true) (hn : nl a10 = true) (k : Ev G Y (pc + 2) (a0 :: a1 :: a2 :: a3 :: a4 :: a5 :: a6 :: a7 :: a8 :: a9 :: a10 :: some (.long x) :: none :: t) st M kr nr Q) : Ev G Y pc (a0 :: a1 :: a2 :: a3 :: a4 :: a5 :: a6 :: a7 :: a8 :: a9 :: a10 :: b :: b1 :: t) (.long x :: st) M kr nr Q := by
  have e9 : pu2 (a0 :: a1 :: a2 :: a3 :: a4 :: a5 :: a6 :: a7 :: a8 :: a9 :: a10 :: b :: b1 :: t) 11 (.long x) = a0 :: a1 :: a2 :: a3 :: a4 :: a5 :: a6 :: a7 :: a8 :: a9 :: a10 :: some (.long x) :: none :: t := by simp [pu, pu2, hn]
  intro p e R s m args below meth c Z C hR arr H locs cells slots hl hP hS h1 h2
  refine lv_lstore C.1 C.2.1 hd hl.has (Nat.le_of_ble_eq_true hw) rfl (fun ls2 hl2 => ?_)
  exact k p e R s m args below meth c Z C hR ls2 H locs cells slots (e9 ▸ lh.put2 hl2) hP hS h1 h2
theorem Ev.ald11 {a0 a1 a2 a3 a4 a5 a6 a7 a8 a9 a10 : Option Value} {t : List (Option Value)} {x : Nat} (hd : Dc Y pc (.aload 11) 2) (k : Ev G Y (pc + 2) (a0 :: a1 :: a2 :: a3 :: a4 :: a5 :: a6 :: a7 :: a8 :: a9 :: a10 :: some (.ref x) :: t) (.ref x :: st) M kr nr Q) : Ev G Y pc (a0 :: a1 :: a2 :: a3 :: a4 :: a5 :: a6 :: a7 :: a8 :: a9 :: a10 :: some (.ref x) :: t) st M kr nr Q := by
  intro p e R s m args below meth c Z C hR arr H locs cells slots hl hP hS h1 h2
  exact lv_aload C.1 C.2.1 hd (hl.2.2 11 _ rfl) (k p e R s m args below meth c Z C hR arr H locs cells slots hl hP hS h1 h2)
theorem Ev.ast11 {a0 a1 a2 a3 a4 a5 a6 a7 a8 a9 a10 b : Option Value} {t : List (Option Value)} {x : Nat} (hd : Dc Y pc (.astore 11) 2) (hw : Nat.ble 12 Y.2.2.1 = true) (hn : nl a10 = true) (k : Ev G Y (pc + 2) (a0 :: a1 :: a2 :: a3 :: a4 :: a5 :: a6 :: a7 :: a8 :: a9 :: a10 :: some (.ref x) :: t) st M kr nr Q) : Ev G Y pc (a0 :: a1 :: a2 :: a3 :: a4 :: a5 :: a6 :: a7 :: a8 :: a9 :: a10 :: b :: t) (.ref x :: st) M kr nr Q := by
  have e9 : pu (a0 :: a1 :: a2 :: a3 :: a4 :: a5 :: a6 :: a7 :: a8 :: a9 :: a10 :: b :: t) 11 (.ref x) = a0 :: a1 :: a2 :: a3 :: a4 :: a5 :: a6 :: a7 :: a8 :: a9 :: a10 :: some (.ref x) :: t := by simp [pu, pu2, hn]
  intro p e R s m args below meth c Z C hR arr H locs cells slots hl hP hS h1 h2
  refine lv_astore C.1 C.2.1 hd hl.has (Nat.le_of_ble_eq_true hw) rfl (fun ls2 hl2 => ?_)
  exact k p e R s m args below meth c Z C hR ls2 H locs cells slots (e9 ▸ lh.put hl2) hP hS h1 h2
theorem Ev.ild12 {a0 a1 a2 a3 a4 a5 a6 a7 a8 a9 a10 a11 : Option Value} {t : List (Option Value)} {x : Int32} (hd : Dc Y pc (.iload 12) 2) (k : Ev G Y (pc + 2) (a0 :: a1 :: a2 :: a3 :: a4 :: a5 :: a6 :: a7 :: a8 :: a9 :: a10 :: a11 :: some (.int x) :: t) (.int x :: st) M kr nr Q) : Ev G Y pc (a0 :: a1 :: a2 :: a3 :: a4 :: a5 :: a6 :: a7 :: a8 :: a9 :: a10 :: a11 :: some (.int x) :: t) st M kr nr Q := by
  intro p e R s m args below meth c Z C hR arr H locs cells slots hl hP hS h1 h2
  exact lv_iload C.1 C.2.1 hd (hl.2.2 12 _ rfl) (k p e R s m args below meth c Z C hR arr H locs cells slots hl hP hS h1 h2)
theorem Ev.ist12 {a0 a1 a2 a3 a4 a5 a6 a7 a8 a9 a10 a11 b : Option Value} {t : List (Option Value)} {x : Int32} (hd : Dc Y pc (.istore 12) 2) (hw : Nat.ble 13 Y.2.2.1 = true) (hn : nl a11 = true) (k : Ev G Y (pc + 2) (a0 :: a1 :: a2 :: a3 :: a4 :: a5 :: a6 :: a7 :: a8 :: a9 :: a10 :: a11 :: some (.int x) :: t) st M kr nr Q) : Ev G Y pc (a0 :: a1 :: a2 :: a3 :: a4 :: a5 :: a6 :: a7 :: a8 :: a9 :: a10 :: a11 :: b :: t) (.int x :: st) M kr nr Q := by
  have e9 : pu (a0 :: a1 :: a2 :: a3 :: a4 :: a5 :: a6 :: a7 :: a8 :: a9 :: a10 :: a11 :: b :: t) 12 (.int x) = a0 :: a1 :: a2 :: a3 :: a4 :: a5 :: a6 :: a7 :: a8 :: a9 :: a10 :: a11 :: some (.int x) :: t := by simp [pu, pu2, hn]
  intro p e R s m args below meth c Z C hR arr H locs cells slots hl hP hS h1 h2
  refine lv_istore C.1 C.2.1 hd hl.has (Nat.le_of_ble_eq_true hw) rfl (fun ls2 hl2 => ?_)
  exact k p e R s m args below meth c Z C hR ls2 H locs cells slots (e9 ▸ lh.put hl2) hP hS h1 h2
theorem Ev.iinc12 {a0 a1 a2 a3 a4 a5 a6 a7 a8 a9 a10 a11 : Option Value} {t : List (Option Value)} {x v : Int32} {n : Int} (hd : Dc Y pc (.iinc 12 n) 3) (hw : Nat.ble 13 Y.2.2.1 = true) (hn : nl a11 = true) (hv : x + Int32.ofInt n = v) (k : Ev G Y (pc + 3) (a0 :: a1 :: a2 :: a3 :: a4 :: a5 :: a6 :: a7 :: a8 :: a9 :: a10 :: a11 :: some (.int v) :: t) st M kr nr Q) : Ev G Y pc (a0 :: a1 :: a2 :: a3 :: a4 :: a5 :: a6 :: a7 :: a8 :: a9 :: a10 :: a11 :: some (.int x) :: t) st M kr nr Q := by
  have e9 : pu (a0 :: a1 :: a2 :: a3 :: a4 :: a5 :: a6 :: a7 :: a8 :: a9 :: a10 :: a11 :: some (.int x) :: t) 12 (.int v) = a0 :: a1 :: a2 :: a3 :: a4 :: a5 :: a6 :: a7 :: a8 :: a9 :: a10 :: a11 :: some (.int v) :: t := by simp [pu, hn]
  intro p e R s m args below meth c Z C hR arr H locs cells slots hl hP hS h1 h2
  obtain ⟨kk, hk⟩ : ∃ kk : Nat, (prs 0 (a0 :: a1 :: a2 :: a3 :: a4 :: a5 :: a6 :: a7 :: a8 :: a9 :: a10 :: a11 :: some (.int x) :: t))[kk]? = some (12, .int x) := List.getElem?_of_mem ((mem_prs _ 0 _).mpr ⟨12, by simp, rfl⟩)
  refine lv_iinc C.1 C.2.1 hd hl.has hk hv (Nat.le_of_ble_eq_true hw) rfl (fun ls2 hl2 => ?_)
  exact k p e R s m args below meth c Z C hR ls2 H locs cells slots (e9 ▸ lh.put hl2) hP hS h1 h2
theorem Ev.lld12 {a0 a1 a2 a3 a4 a5 a6 a7 a8 a9 a10 a11 : Option Value} {t : List (Option Value)} {x : Int64} (hd : Dc Y pc (.lload 12) 2) (k : Ev G Y (pc + 2) (a0 :: a1 :: a2 :: a3 :: a4 :: a5 :: a6 :: a7 :: a8 :: a9 :: a10 :: a11 :: some (.long x) :: t) (.long x :: st) M kr nr Q) : Ev G Y pc (a0 :: a1 :: a2 :: a3 :: a4 :: a5 :: a6 :: a7 :: a8 :: a9 :: a10 :: a11 :: some (.long x) :: t) st M kr nr Q := by
  intro p e R s m args below meth c Z C hR arr H locs cells slots hl hP hS h1 h2
  exact lv_lload C.1 C.2.1 hd (hl.2.2 12 _ rfl) (k p e R s m args below meth c Z C hR arr H locs cells slots hl hP hS h1 h2)
theorem Ev.lst12 {a0 a1 a2 a3 a4 a5 a6 a7 a8 a9 a10 a11 b b1 : Option Value} {t : List (Option Value)} {x : Int64} (hd : Dc Y pc (.lstore 12) 2) (hw : Nat.ble 14 Y.2.2.1 = true) (hn : nl a11 = true) (k : Ev G Y (pc + 2) (a0 :: a1 :: a2 :: a3 :: a4 :: a5 :: a6 :: a7 :: a8 :: a9 :: a10 :: a11 :: some (.long x) :: none :: t) st M kr nr Q) : Ev G Y pc (a0 :: a1 :: a2 :: a3 :: a4 :: a5 :: a6 :: a7 :: a8 :: a9 :: a10 :: a11 :: b :: b1 :: t) (.long x :: st) M kr nr Q := by
  have e9 : pu2 (a0 :: a1 :: a2 :: a3 :: a4 :: a5 :: a6 :: a7 :: a8 :: a9 :: a10 :: a11 :: b :: b1 :: t) 12 (.long x) = a0 :: a1 :: a2 :: a3 :: a4 :: a5 :: a6 :: a7 :: a8 :: a9 :: a10 :: a11 :: some (.long x) :: none :: t := by simp [pu, pu2, hn]
  intro p e R s m args below meth c Z C hR arr H locs cells slots hl hP hS h1 h2
  refine lv_lstore C.1 C.2.1 hd hl.has (Nat.le_of_ble_eq_true hw) rfl (fun ls2 hl2 => ?_)
  exact k p e R s m args below meth c Z C hR ls2 H locs cells slots (e9 ▸ lh.put2 hl2) hP hS h1 h2
theorem Ev.ald12 {a0 a1 a2 a3 a4 a5 a6 a7 a8 a9 a10 a11 : Option Value} {t : List (Option Value)} {x : Nat} (hd : Dc Y pc (.aload 12) 2) (k : Ev G Y (pc + 2) (a0 :: a1 :: a2 :: a3 :: a4 :: a5 :: a6 :: a7 :: a8 :: a9 :: a10 :: a11 :: some (.ref x) :: t) (.ref x :: st) M kr nr Q) : Ev G Y pc (a0 :: a1 :: a2 :: a3 :: a4 :: a5 :: a6 :: a7 :: a8 :: a9 :: a10 :: a11 :: some (.ref x) :: t) st M kr nr Q := by
  intro p e R s m args below meth c Z C hR arr H locs cells slots hl hP hS h1 h2
  exact lv_aload C.1 C.2.1 hd (hl.2.2 12 _ rfl) (k p e R s m args below meth c Z C hR arr H locs cells slots hl hP hS h1 h2)
theorem Ev.ast12 {a0 a1 a2 a3 a4 a5 a6 a7 a8 a9 a10 a11 b : Option Value} {t : List (Option Value)} {x : Nat} (hd : Dc Y pc (.astore 12) 2) (hw : Nat.ble 13 Y.2.2.1 = true) (hn : nl a11 = true) (k : Ev G Y (pc + 2) (a0 :: a1 :: a2 :: a3 :: a4 :: a5 :: a6 :: a7 :: a8 :: a9 :: a10 :: a11 :: some (.ref x) :: t) st M kr nr Q) : Ev G Y pc (a0 :: a1 :: a2 :: a3 :: a4 :: a5 :: a6 :: a7 :: a8 :: a9 :: a10 :: a11 :: b :: t) (.ref x :: st) M kr nr Q := by
  have e9 : pu (a0 :: a1 :: a2 :: a3 :: a4 :: a5 :: a6 :: a7 :: a8 :: a9 :: a10 :: a11 :: b :: t) 12 (.ref x) = a0 :: a1 :: a2 :: a3 :: a4 :: a5 :: a6 :: a7 :: a8 :: a9 :: a10 :: a11 :: some (.ref x) :: t := by simp [pu, pu2, hn]
  intro p e R s m args below meth c Z C hR arr H locs cells slots hl hP hS h1 h2
  refine lv_astore C.1 C.2.1 hd hl.has (Nat.le_of_ble_eq_true hw) rfl (fun ls2 hl2 => ?_)
  exact k p e R s m args below meth c Z C hR ls2 H locs cells slots (e9 ▸ lh.put hl2) hP hS h1 h2
theorem Ev.ild13 {a0 a1 a2 a3 a4 a5 a6 a7 a8 a9 a10 a11 a12 : Option Value} {t : List (Option Value)} {x : Int32} (hd : Dc Y pc (.iload 13) 2) (k : Ev G Y (pc + 2) (a0 :: a1 :: a2 :: a3 :: a4 :: a5 :: a6 :: a7 :: a8 :: a9 :: a10 :: a11 :: a12 :: some (.int x) :: t) (.int x :: st) M kr nr Q) : Ev G Y pc (a0 :: a1 :: a2 :: a3 :: a4 :: a5 :: a6 :: a7 :: a8 :: a9 :: a10 :: a11 :: a12 :: some (.int x) :: t) st M kr nr Q := by
  intro p e R s m args below meth c Z C hR arr H locs cells slots hl hP hS h1 h2
  exact lv_iload C.1 C.2.1 hd (hl.2.2 13 _ rfl) (k p e R s m args below meth c Z C hR arr H locs cells slots hl hP hS h1 h2)
theorem Ev.ist13 {a0 a1 a2 a3 a4 a5 a6 a7 a8 a9 a10 a11 a12 b : Option Value} {t : List (Option Value)} {x : Int32} (hd : Dc Y pc (.istore 13) 2) (hw : Nat.ble 14 Y.2.2.1 = true) (hn : nl a12 = true) (k : Ev G Y (pc + 2) (a0 :: a1 :: a2 :: a3 :: a4 :: a5 :: a6 :: a7 :: a8 :: a9 :: a10 :: a11 :: a12 :: some (.int x) :: t) st M kr nr Q) : Ev G Y pc (a0 :: a1 :: a2 :: a3 :: a4 :: a5 :: a6 :: a7 :: a8 :: a9 :: a10 :: a11 :: a12 :: b :: t) (.int x :: st) M kr nr Q := by
  have e9 : pu (a0 :: a1 :: a2 :: a3 :: a4 :: a5 :: a6 :: a7 :: a8 :: a9 :: a10 :: a11 :: a12 :: b :: t) 13 (.int x) = a0 :: a1 :: a2 :: a3 :: a4 :: a5 :: a6 :: a7 :: a8 :: a9 :: a10 :: a11 :: a12 :: some (.int x) :: t := by simp [pu, pu2, hn]
  intro p e R s m args below meth c Z C hR arr H locs cells slots hl hP hS h1 h2
  refine lv_istore C.1 C.2.1 hd hl.has (Nat.le_of_ble_eq_true hw) rfl (fun ls2 hl2 => ?_)
  exact k p e R s m args below meth c Z C hR ls2 H locs cells slots (e9 ▸ lh.put hl2) hP hS h1 h2
theorem Ev.iinc13 {a0 a1 a2 a3 a4 a5 a6 a7 a8 a9 a10 a11 a12 : Option Value} {t : List (Option Value)} {x v : Int32} {n : Int} (hd : Dc Y pc (.iinc 13 n) 3) (hw : Nat.ble 14 Y.2.2.1 = true) (hn : nl a12 = true) (hv : x + Int32.ofInt n = v) (k : Ev G Y (pc + 3) (a0 :: a1 :: a2 :: a3 :: a4 :: a5 :: a6 :: a7 :: a8 :: a9 :: a10 :: a11 :: a12 :: some (.int v) :: t) st M kr nr Q) : Ev G Y pc (a0 :: a1 :: a2 :: a3 :: a4 :: a5 :: a6 :: a7 :: a8 :: a9 :: a10 :: a11 :: a12 :: some (.int x) :: t) st M kr nr Q := by
  have e9 : pu (a0 :: a1 :: a2 :: a3 :: a4 :: a5 :: a6 :: a7 :: a8 :: a9 :: a10 :: a11 :: a12 :: some (.int x) :: t) 13 (.int v) = a0 :: a1 :: a2 :: a3 :: a4 :: a5 :: a6 :: a7 :: a8 :: a9 :: a10 :: a11 :: a12 :: some (.int v) :: t := by simp [pu, hn]
  intro p e R s m args below meth c Z C hR arr H locs cells slots hl hP hS h1 h2
  obtain ⟨kk, hk⟩ : ∃ kk : Nat, (prs 0 (a0 :: a1 :: a2 :: a3 :: a4 :: a5 :: a6 :: a7 :: a8 :: a9 :: a10 :: a11 :: a12 :: some (.int x) :: t))[kk]? = some (13, .int x) := List.getElem?_of_mem ((mem_prs _ 0 _).mpr ⟨13, by simp, rfl⟩)
  refine lv_iinc C.1 C.2.1 hd hl.has hk hv (Nat.le_of_ble_eq_true hw) rfl (fun ls2 hl2 => ?_)
  exact k p e R s m args below meth c Z C hR ls2 H locs cells slots (e9 ▸ lh.put hl2) hP hS h1 h2
theorem Ev.lld13 {a0 a1 a2 a3 a4 a5 a6 a7 a8 a9 a10 a11 a12 : Option Value} {t : List (Option Value)} {x : Int64} (hd : Dc Y pc (.lload 13) 2) (k : Ev G Y (pc + 2) (a0 :: a1 :: a2 :: a3 :: a4 :: a5 :: a6 :: a7 :: a8 :: a9 :: a10 :: a11 :: a12 :: some (.long x) :: t) (.long x :: st) M kr nr Q) : Ev G Y pc (a0 :: a1 :: a2 :: a3 :: a4 :: a5 :: a6 :: a7 :: a8 :: a9 :: a10 :: a11 :: a12 :: some (.long x) :: t) st M kr nr Q := by
  intro p e R s m args below meth c Z C hR arr H locs cells slots hl hP hS h1 h2
  exact lv_lload C.1 C.2.1 hd (hl.2.2 13 _ rfl) (k p e R s m args below meth c Z C hR arr H locs cells slots hl hP hS h1 h2)
theorem Ev.lst13 {a0 a1 a2 a3 a4 a5 a6 a7 a8 a9 a10 a11 a12 b b1 : Option Value} {t : List (Option Value)} {x : Int64} (hd : Dc Y pc (.lstore 13) 2) (hw : Nat.ble 15 Y.2.2.1 = true) (hn : nl a12 = true) (k : Ev G Y (pc + 2) (a0 :: a1 :: a2 :: a3 :: a4 :: a5 :: a6 :: a7 :: a8 :: a9 :: a10 :: a11 :: a12 :: some (.long x) :: none :: t) st M kr nr Q) : Ev G Y pc (a0 :: a1 :: a2 :: a3 :: a4 :: a5 :: a6 :: a7 :: a8 :: a9 :: a10 :: a11 :: a12 :: b :: b1 :: t) (.long x :: st) M kr nr Q := by
  have e9 : pu2 (a0 :: a1 :: a2 :: a3 :: a4 :: a5 :: a6 :: a7 :: a8 :: a9 :: a10 :: a11 :: a12 :: b :: b1 :: t) 13 (.long x) = a0 :: a1 :: a2 :: a3 :: a4 :: a5 :: a6 :: a7 :: a8 :: a9 :: a10 :: a11 :: a12 :: some (.long x) :: none :: t := by simp [pu, pu2, hn]
  intro p e R s m args below meth c Z C hR arr H locs cells slots hl hP hS h1 h2
  refine lv_lstore C.1 C.2.1 hd hl.has (Nat.le_of_ble_eq_true hw) rfl (fun ls2 hl2 => ?_)
  exact k p e R s m args below meth c Z C hR ls2 H locs cells slots (e9 ▸ lh.put2 hl2) hP hS h1 h2
theorem Ev.ald13 {a0 a1 a2 a3 a4 a5 a6 a7 a8 a9 a10 a11 a12 : Option Value} {t : List (Option Value)} {x : Nat} (hd : Dc Y pc (.aload 13) 2) (k : Ev G Y (pc + 2) (a0 :: a1 :: a2 :: a3 :: a4 :: a5 :: a6 :: a7 :: a8 :: a9 :: a10 :: a11 :: a12 :: some (.ref x) :: t) (.ref x :: st) M kr nr Q) : Ev G Y pc (a0 :: a1 :: a2 :: a3 :: a4 :: a5 :: a6 :: a7 :: a8 :: a9 :: a10 :: a11 :: a12 :: some (.ref x) :: t) st M kr nr Q := by
  intro p e R s m args below meth c Z C hR arr H locs cells slots hl hP hS h1 h2
  exact lv_aload C.1 C.2.1 hd (hl.2.2 13 _ rfl) (k p e R s m args below meth c Z C hR arr H locs cells slots hl hP hS h1 h2)
theorem Ev.ast13 {a0 a1 a2 a3 a4 a5 a6 a7 a8 a9 a10 a11 a12 b : Option Value} {t : List (Option Value)} {x : Nat} (hd : Dc Y pc (.astore 13) 2) (hw : Nat.ble 14 Y.2.2.1 = true) (hn : nl a12 = true) (k : Ev G Y (pc + 2) (a0 :: a1 :: a2 :: a3 :: a4 :: a5 :: a6 :: a7 :: a8 :: a9 :: a10 :: a11 :: a12 :: some (.ref x) :: t) st M kr nr Q) : Ev G Y pc (a0 :: a1 :: a2 :: a3 :: a4 :: a5 :: a6 :: a7 :: a8 :: a9 :: a10 :: a11 :: a12 :: b :: t) (.ref x :: st) M kr nr Q := by
  have e9 : pu (a0 :: a1 :: a2 :: a3 :: a4 :: a5 :: a6 :: a7 :: a8 :: a9 :: a10 :: a11 :: a12 :: b :: t) 13 (.ref x) = a0 :: a1 :: a2 :: a3 :: a4 :: a5 :: a6 :: a7 :: a8 :: a9 :: a10 :: a11 :: a12 :: some (.ref x) :: t := by simp [pu, pu2, hn]
  intro p e R s m args below meth c Z C hR arr H locs cells slots hl hP hS h1 h2
  refine lv_astore C.1 C.2.1 hd hl.has (Nat.le_of_ble_eq_true hw) rfl (fun ls2 hl2 => ?_)
  exact k p e R s m args below meth c Z C hR ls2 H locs cells slots (e9 ▸ lh.put hl2) hP hS h1 h2
theorem Ev.ild14 {a0 a1 a2 a3 a4 a5 a6 a7 a8 a9 a10 a11 a12 a13 : Option Value} {t : List (Option Value)} {x : Int32} (hd : Dc Y pc (.iload 14) 2) (k : Ev G Y (pc + 2) (a0 :: a1 :: a2 :: a3 :: a4 :: a5 :: a6 :: a7 :: a8 :: a9 :: a10 :: a11 :: a12 :: a13 :: some (.int x) :: t) (.int x :: st) M kr nr Q) : Ev G Y pc (a0 :: a1 :: a2 :: a3 :: a4 :: a5 :: a6 :: a7 :: a8 :: a9 :: a10 :: a11 :: a12 :: a13 :: some (.int x) :: t) st M kr nr Q := by
  intro p e R s m args below meth c Z C hR arr H locs cells slots hl hP hS h1 h2
  exact lv_iload C.1 C.2.1 hd (hl.2.2 14 _ rfl) (k p e R s m args below meth c Z C hR arr H locs cells slots hl hP hS h1 h2)
theorem Ev.ist14 {a0 a1 a2 a3 a4 a5 a6 a7 a8 a9 a10 a11 a12 a13 b : Option Value} {t : List (Option Value)} {x : Int32} (hd : Dc Y pc (.istore 14) 2) (hw : Nat.ble 15 Y.2.2.1 = true) (hn : nl a13 = true) (k : Ev G Y (pc + 2) (a0 :: a1 :: a2 :: a3 :: a4 :: a5 :: a6 :: a7 :: a8 :: a9 :: a10 :: a11 :: a12 :: a13 :: some (.int x) :: t) st M kr nr Q) : Ev G Y pc (a0 :: a1 :: a2 :: a3 :: a4 :: a5 :: a6 :: a7 :: a8 :: a9 :: a10 :: a11 :: a12 :: a13 :: b :: t) (.int x :: st) M kr nr Q := by
  have e9 : pu (a0 :: a1 :: a2 :: a3 :: a4 :: a5 :: a6 :: a7 :: a8 :: a9 :: a10 :: a11 :: a12 :: a13 :: b :: t) 14 (.int x) = a0 :: a1 :: a2 :: a3 :: a4 :: a5 :: a6 :: a7 :: a8 :: a9 :: a10 :: a11 :: a12 :: a13 :: some (.int x) :: t := by simp [pu, pu2, hn]
  intro p e R s m args below meth c Z C hR arr H locs cells slots hl hP hS h1 h2
  refine lv_istore C.1 C.2.1 hd hl.has (Nat.le_of_ble_eq_true hw) rfl (fun ls2 hl2 => ?_)
  exact k p e R s m args below meth c Z C hR ls2 H locs cells slots (e9 ▸ lh.put hl2) hP hS h1 h2
theorem Ev.iinc14 {a0 a1 a2 a3 a4 a5 a6 a7 a8 a9 a10 a11 a12 a13 : Option Value} {t : List (Option Value)} {x v : Int32} {n : Int} (hd : Dc Y pc (.iinc 14 n) 3) (hw : Nat.ble 15 Y.2.2.1 = true) (hn : nl a13 = true) (hv : x + Int32.ofInt n = v) (k : Ev G Y (pc + 3) (a0 :: a1 :: a2 :: a3 :: a4 :: a5 :: a6 :: a7 :: a8 :: a9 :: a10 :: a11 :: a12 :: a13 :: some (.int v) :: t) st M kr nr Q) : Ev G Y pc (a0 :: a1 :: a2 :: a3 :: a4 :: a5 :: a6 :: a7 :: a8 :: a9 :: a10 :: a11 :: a12 :: a13 :: some (.int x) :: t) st M kr nr Q := by
  have e9 : pu (a0 :: a1 :: a2 :: a3 :: a4 :: a5 :: a6 :: a7 :: a8 :: a9 :: a10 :: a11 :: a12 :: a13 :: some (.int x) :: t) 14 (.int v) = a0 :: a1 :: a2 :: a3 :: a4 :: a5 :: a6 :: a7 :: a8 :: a9 :: a10 :: a11 :: a12 :: a13 :: some (.int v) :: t := by simp [pu, hn]
  intro p e R s m args below meth c Z C hR arr H locs cells slots hl hP hS h1 h2
  obtain ⟨kk, hk⟩ : ∃ kk : Nat, (prs 0 (a0 :: a1 :: a2 :: a3 :: a4 :: a5 :: a6 :: a7 :: a8 :: a9 :: a10 :: a11 :: a12 :: a13 :: some (.int x) :: t))[kk]? = some (14, .int x) := List.getElem?_of_mem ((mem_prs _ 0 _).mpr ⟨14, by simp, rfl⟩)
  refine lv_iinc C.1 C.2.1 hd hl.has hk hv (Nat.le_of_ble_eq_true hw) rfl (fun ls2 hl2 => ?_)
  exact k p e R s m args below meth c Z C hR ls2 H locs cells slots (e9 ▸ lh.put hl2) hP hS h1 h2
theorem Ev.lld14 {a0 a1 a2 a3 a4 a5 a6 a7 a8 a9 a10 a11 a12 a13 : Option Value} {t : List (Option Value)} {x : Int64} (hd : Dc Y pc (.lload 14) 2) (k : Ev G Y (pc + 2) (a0 :: a1 :: a2 :: a3 :: a4 :: a5 :: a6 :: a7 :: a8 :: a9 :: a10 :: a11 :: a12 :: a13 :: some (.long x) :: t) (.long x :: st) M kr nr Q) : Ev G Y pc (a0 :: a1 :: a2 :: a3 :: a4 :: a5 :: a6 :: a7 :: a8 :: a9 :: a10 :: a11 :: a12 :: a13 :: some (.long x) :: t) st M kr nr Q := by
  intro p e R s m args below meth c Z C hR arr H locs cells slots hl hP hS h1 h2
  exact lv_lload C.1 C.2.1 hd (hl.2.2 14 _ rfl) (k p e R s m args below meth c Z C hR arr H locs cells slots hl hP hS h1 h2)
theorem Ev.lst14 {a0 a1 a2 a3 a4 a5 a6 a7 a8 a9 a10 a11 a12 a13 b b1 : Option Value} {t : List (Option Value)} {x : Int64} (hd : Dc Y pc (.lstore 14) 2) (hw : Nat.ble 16 Y.2.2.1 = true) (hn : nl a13 = true) (k : Ev G Y (pc + 2) (a0 :: a1 :: a2 :: a3 :: a4 :: a5 :: a6 :: a7 :: a8 :: a9 :: a10 :: a11 :: a12 :: a13 :: some (.long x) :: none :: t) st M kr nr Q) : Ev G Y pc (a0 :: a1 :: a2 :: a3 :: a4 :: a5 :: a6 :: a7 :: a8 :: a9 :: a10 :: a11 :: a12 :: a13 :: b :: b1 :: t) (.long x :: st) M kr nr Q := by
  have e9 : pu2 (a0 :: a1 :: a2 :: a3 :: a4 :: a5 :: a6 :: a7 :: a8 :: a9 :: a10 :: a11 :: a12 :: a13 :: b :: b1 :: t) 14 (.long x) = a0 :: a1 :: a2 :: a3 :: a4 :: a5 :: a6 :: a7 :: a8 :: a9 :: a10 :: a11 :: a12 :: a13 :: some (.long x) :: none :: t := by simp [pu, pu2, hn]
  intro p e R s m args below meth c Z C hR arr H locs cells slots hl hP hS h1 h2
  refine lv_lstore C.1 C.2.1 hd hl.has (Nat.le_of_ble_eq_true hw) rfl (fun ls2 hl2 => ?_)
  exact k p e R s m args below meth c Z C hR ls2 H locs cells slots (e9 ▸ lh.put2 hl2) hP hS h1 h2
theorem Ev.ald14 {a0 a1 a2 a3 a4 a5 a6 a7 a8 a9 a10 a11 a12 a13 : Option Value} {t : List (Option Value)} {x : Nat} (hd : Dc Y pc (.aload 14) 2) (k : Ev G Y (pc + 2) (a0 :: a1 :: a2 :: a3 :: a4 :: a5 :: a6 :: a7 :: a8 :: a9 :: a10 :: a11 :: a12 :: a13 :: some (.ref x) :: t) (.ref x :: st) M kr nr Q) : Ev G Y pc (a0 :: a1 :: a2 :: a3 :: a4 :: a5 :: a6 :: a7 :: a8 :: a9 :: a10 :: a11 :: a12 :: a13 :: some (.ref x) :: t) st M kr nr Q := by
  intro p e R s m args below meth c Z C hR arr H locs cells slots hl hP hS h1 h2
  exact lv_aload C.1 C.2.1 hd (hl.2.2 14 _ rfl) (k p e R s m args below meth c Z C hR arr H locs cells slots hl hP hS h1 h2)
theorem Ev.ast14 {a0 a1 a2 a3 a4 a5 a6 a7 a8 a9 a10 a11 a12 a13 b : Option Value} {t : List (Option Value)} {x : Nat} (hd : Dc Y pc (.astore 14) 2) (hw : Nat.ble 15 Y.2.2.1 = true) (hn : nl a13 = true) (k : Ev G Y (pc + 2) (a0 :: a1 :: a2 :: a3 :: a4 :: a5 :: a6 :: a7 :: a8 :: a9 :: a10 :: a11 :: a12 :: a13 :: some (.ref x) :: t) st M kr nr Q) : Ev G Y pc (a0 :: a1 :: a2 :: a3 :: a4 :: a5 :: a6 :: a7 :: a8 :: a9 :: a10 :: a11 :: a12 :: a13 :: b :: t) (.ref x :: st) M kr nr Q := by
  have e9 : pu (a0 :: a1 :: a2 :: a3 :: a4 :: a5 :: a6 :: a7 :: a8 :: a9 :: a10 :: a11 :: a12 :: a13 :: b :: t) 14 (.ref x) = a0 :: a1 :: a2 :: a3 :: a4 :: a5 :: a6 :: a7 :: a8 :: a9 :: a10 :: a11 :: a12 :: a13 :: some (.ref x) :: t := by simp [pu, pu2, hn]
  intro p e R s m args below meth c Z C hR arr H locs cells slots hl hP hS h1 h2
  refine lv_astore C.1 C.2.1 hd hl.has (Nat.le_of_ble_eq_true hw) rfl (fun ls2 hl2 => ?_)
  exact k p e R s m args below meth c Z C hR ls2 H locs cells slots (e9 ▸ lh.put hl2) hP hS h1 h2
theorem Ev.ild15 {a0 a1 a2 a3 a4 a5 a6 a7 a8 a9 a10 a11 a12 a13 a14 : Option Value} {t : List (Option Value)} {x : Int32} (hd : Dc Y pc (.iload 15) 2) (k : Ev G Y (pc + 2) (a0 :: a1 :: a2 :: a3 :: a4 :: a5 :: a6 :: a7 :: a8 :: a9 :: a10 :: a11 :: a12 :: a13 :: a14 :: some (.int x) :: t) (.int x :: st) M kr nr Q) : Ev G Y pc (a0 :: a1 :: a2 :: a3 :: a4 :: a5 :: a6 :: a7 :: a8 :: a9 :: a10 :: a11 :: a12 :: a13 :: a14 :: some (.int x) :: t) st M kr nr Q := by
  intro p e R s m args below meth c Z C hR arr H locs cells slots hl hP hS h1 h2
  exact lv_iload C.1 C.2.1 hd (hl.2.2 15 _ rfl) (k p e R s m args below meth c Z C hR arr H locs cells slots hl hP hS h1 h2)
theorem Ev.ist15 {a0 a1 a2 a3 a4 a5 a6 a7 a8 a9 a10 a11 a12 a13 a14 b : Option Value} {t : List (Option Value)} {x : Int32} (hd : Dc Y pc (.istore 15) 2) (hw : Nat.ble 16 Y.2.2.1 = true) (hn : nl a14 = true) (k : Ev G Y (pc + 2) (a0 :: a1 :: a2 :: a3 :: a4 :: a5 :: a6 :: a7 :: a8 :: a9 :: a10 :: a11 :: a12 :: a13 :: a14 :: some (.int x) :: t) st M kr nr Q) : Ev G Y pc (a0 :: a1 :: a2 :: a3 :: a4 :: a5 :: a6 :: a7 :: a8 :: a9 :: a10 :: a11 :: a12 :: a13 :: a14 :: b :: t) (.int x :: st) M kr nr Q := by
  have e9 : pu (a0 :: a1 :: a2 :: a3 :: a4 :: a5 :: a6 :: a7 :: a8 :: a9 :: a10 :: a11 :: a12 :: a13 :: a14 :: b :: t) 15 (.int x) = a0 :: a1 :: a2 :: a3 :: a4 :: a5 :: a6 :: a7 :: a8 :: a9 :: a10 :: a11 :: a12 :: a13 :: a14 :: some (.int x) :: t := by simp [pu, pu2, hn]
  intro p e R s m args below meth c Z C hR arr H locs cells slots hl hP hS h1 h2
  refine lv_istore C.1 C.2.1 hd hl.has (Nat.le_of_ble_eq_true hw) rfl (fun ls2 hl2 => ?_)
  exact k p e R s m args below meth c Z C hR ls2 H locs cells slots (e9 ▸ lh.put hl2) hP hS h1 h2
theorem Ev.iinc15 {a0 a1 a2 a3 a4 a5 a6 a7 a8 a9 a10 a11 a12 a13 a14 : Option Value} {t : List (Option Value)} {x v : Int32} {n : Int} (hd : Dc Y pc (.iinc 15 n) 3) (hw : Nat.ble 16 Y.2.2.1 = true) (hn : nl a14 = true) (hv : x + Int32.ofInt n = v) (k : Ev G Y (pc + 3) (a0 :: a1 :: a2 :: a3 :: a4 :: a5 :: a6 :: a7 :: a8 :: a9 :: a10 :: a11 :: a12 :: a13 :: a14 :: some (.int v) :: t) st M kr nr Q) : Ev G Y pc (a0 :: a1 :: a2 :: a3 :: a4 :: a5 :: a6 :: a7 :: a8 :: a9 :: a10 :: a11 :: a12 :: a13 :: a14 :: some (.int x) :: t) st M kr nr Q := by
  have e9 : pu (a0 :: a1 :: a2 :: a3 :: a4 :: a5 :: a6 :: a7 :: a8 :: a9 :: a10 :: a11 :: a12 :: a13 :: a14 :: some (.int x) :: t) 15 (.int v) = a0 :: a1 :: a2 :: a3 :: a4 :: a5 :: a6 :: a7 :: a8 :: a9 :: a10 :: a11 :: a12 :: a13 :: a14 :: some (.int v) :: t := by simp [pu, hn]
  intro p e R s m args below meth c Z C hR arr H locs cells slots hl hP hS h1 h2
  obtain ⟨kk, hk⟩ : ∃ kk : Nat, (prs 0 (a0 :: a1 :: a2 :: a3 :: a4 :: a5 :: a6 :: a7 :: a8 :: a9 :: a10 :: a11 :: a12 :: a13 :: a14 :: some (.int x) :: t))[kk]? = some (15, .int x) := List.getElem?_of_mem ((mem_prs _ 0 _).mpr ⟨15, by simp, rfl⟩)
  refine lv_iinc C.1 C.2.1 hd hl.has hk hv (Nat.le_of_ble_eq_true hw) rfl (fun ls2 hl2 => ?_)
  exact k p e R s m args below meth c Z C hR ls2 H locs cells slots (e9 ▸ lh.put hl2) hP hS h1 h2
theorem Ev.lld15 {a0 a1 a2 a3 a4 a5 a6 a7 a8 a9 a10 a11 a12 a13 a14 : Option Value} {t : List (Option Value)} {x : Int64} (hd : Dc Y pc (.lload 15) 2) (k : Ev G Y (pc + 2) (a0 :: a1 :: a2 :: a3 :: a4 :: a5 :: a6 :: a7 :: a8 :: a9 :: a10 :: a11 :: a12 :: a13 :: a14 :: some (.long x) :: t) (.long x :: st) M kr nr Q) : Ev G Y pc (a0 :: a1 :: a2 :: a3 :: a4 :: a5 :: a6 :: a7 :: a8 :: a9 :: a10 :: a11 :: a12 :: a13 :: a14 :: some (.long x) :: t) st M kr nr Q := by
  intro p e R s m args below meth c Z C hR arr H locs cells slots hl hP hS h1 h2
  exact lv_lload C.1 C.2.1 hd (hl.2.2 15 _ rfl) (k p e R s m args below meth c Z C hR arr H locs cells slots hl hP hS h1 h2)
theorem Ev.lst15 {a0 a1 a2 a3 a4 a5 a6 a7 a8 a9 a10 a11 a12 a13 a14 b b1 : Option Value} {t : List (Option Value)} {x : Int64} (hd : Dc Y pc (.lstore 15) 2) (hw : Nat.ble 17 Y.2.2.1 = true) (hn : nl a14 = true) (k : Ev G Y (pc + 2) (a0 :: a1 :: a2 :: a3 :: a4 :: a5 :: a6 :: a7 :: a8 :: a9 :: a10 :: a11 :: a12 :: a13 :: a14 :: some (.long x) :: none :: t) st M kr nr Q) : Ev G Y pc (a0 :: a1 :: a2 :: a3 :: a4 :: a5 :: a6 :: a7 :: a8 :: a9 :: a10 :: a11 :: a12 :: a13 :: a14 :: b :: b1 :: t) (.long x :: st) M kr nr Q := by
  have e9 : pu2 (a0 :: a1 :: a2 :: a3 :: a4 :: a5 :: a6 :: a7 :: a8 :: a9 :: a10 :: a11 :: a12 :: a13 :: a14 :: b :: b1 :: t) 15 (.long x) = a0 :: a1 :: a2 :: a3 :: a4 :: a5 :: a6 :: a7 :: a8 :: a9 :: a10 :: a11 :: a12 :: a13 :: a14 :: some (.long x) :: none :: t := by simp [pu, pu2, hn]
  intro p e R s m args below meth c Z C hR arr H locs cells slots hl hP hS h1 h2
  refine lv_lstore C.1 C.2.1 hd hl.has (Nat.le_of_ble_eq_true hw) rfl (fun ls2 hl2 => ?_)
  exact k p e R s m args below meth c Z C hR ls2 H locs cells slots (e9 ▸ lh.put2 hl2) hP hS h1 h2
theorem Ev.ald15 {a0 a1 a2 a3 a4 a5 a6 a7 a8 a9 a10 a11 a12 a13 a14 : Option Value} {t : List (Option Value)} {x : Nat} (hd : Dc Y pc (.aload 15) 2) (k : Ev G Y (pc + 2) (a0 :: a1 :: a2 :: a3 :: a4 :: a5 :: a6 :: a7 :: a8 :: a9 :: a10 :: a11 :: a12 :: a13 :: a14 :: some (.ref x) :: t) (.ref x :: st) M kr nr Q) : Ev G Y pc (a0 :: a1 :: a2 :: a3 :: a4 :: a5 :: a6 :: a7 :: a8 :: a9 :: a10 :: a11 :: a12 :: a13 :: a14 :: some (.ref x) :: t) st M kr nr Q := by
  intro p e R s m args below meth c Z C hR arr H locs cells slots hl hP hS h1 h2
  exact lv_aload C.1 C.2.1 hd (hl.2.2 15 _ rfl) (k p e R s m args below meth c Z C hR arr H locs cells slots hl hP hS h1 h2)
theorem Ev.ast15 {a0 a1 a2 a3 a4 a5 a6 a7 a8 a9 a10 a11 a12 a13 a14 b : Option Value} {t : List (Option Value)} {x : Nat} (hd : Dc Y pc (.astore 15) 2) (hw : Nat.ble 16 Y.2.2.1 = true) (hn : nl a14 = true) (k : Ev G Y (pc + 2) (a0 :: a1 :: a2 :: a3 :: a4 :: a5 :: a6 :: a7 :: a8 :: a9 :: a10 :: a11 :: a12 :: a13 :: a14 :: some (.ref x) :: t) st M kr nr Q) : Ev G Y pc (a0 :: a1 :: a2 :: a3 :: a4 :: a5 :: a6 :: a7 :: a8 :: a9 :: a10 :: a11 :: a12 :: a13 :: a14 :: b :: t) (.ref x :: st) M kr nr Q := by
  have e9 : pu (a0 :: a1 :: a2 :: a3 :: a4 :: a5 :: a6 :: a7 :: a8 :: a9 :: a10 :: a11 :: a12 :: a13 :: a14 :: b :: t) 15 (.ref x) = a0 :: a1 :: a2 :: a3 :: a4 :: a5 :: a6 :: a7 :: a8 :: a9 :: a10 :: a11 :: a12 :: a13 :: a14 :: some (.ref x) :: t := by simp [pu, pu2, hn]
  intro p e R s m args below meth c Z C hR arr H locs cells slots hl hP hS h1 h2
  refine lv_astore C.1 C.2.1 hd hl.has (Nat.le_of_ble_eq_true hw) rfl (fun ls2 hl2 => ?_)
  exact k p e R s m args below meth c Z C hR ls2 H locs cells slots (e9 ▸ lh.put hl2) hP hS h1 h2
end ER
