/-! the reference is made -/
def mkq (A : List Nat) (ps : List (Option Nat)) (B : Nat) : Nat → Nat := fun i => match ps.getD i none with
  | some p => A.getD p 0
  | none => B + i
theorem mkq_inj {A : List Nat} {ps : List (Option Nat)} {B n m : Nat} (hA : A.Nodup) (hB : ∀ x ∈ A, x < B) (hm : A.length = m) (h1' : ∀ i, i < n → (ps.getD i none).getD 0 < m) (h2' : ∀ i, i < n → ∀ j, j < n → ps.getD i none ≠ none → ps.getD i none = ps.getD j none → i = j) : ∀ i j : Nat, i < n → j < n → i ≠ j → mkq A ps B i ≠ mkq A ps B j := by
  intro i j hi hj hij
  have h1 : ∀ i, i < n → ∀ p, ps.getD i none = some p → p < A.length := fun i hi p hp => by
    have := h1' i hi
    rw [hp] at this
    rw [hm]
    exact this
  have h2 : ∀ i, i < n → ∀ j, j < n → ∀ p, ps.getD i none = some p → ps.getD j none = some p → i = j := fun i hi j hj p hp hq => h2' i hi j hj (by rw [hp]; exact fun z => by cases z) (hp.trans hq.symm)
  have el : ∀ p, p < A.length → A[p]? = some (A.getD p 0) := fun p hp => by rw [List.getElem?_eq_getElem hp, List.getD_eq_getElem?_getD, List.getElem?_eq_getElem hp]; rfl
  have lt : ∀ p, p < A.length → A.getD p 0 < B := fun p hp => hB _ (List.mem_of_getElem? (el p hp))
  rw [mkq, mkq]
  cases ci : ps.getD i none with
  | none =>
    cases cj : ps.getD j none with
    | none =>
      show B + i ≠ B + j
      omega
    | some p =>
      show B + i ≠ A.getD p 0
      have := lt p (h1 j hj p cj)
      omega
  | some p =>
    cases cj : ps.getD j none with
    | none =>
      show A.getD p 0 ≠ B + j
      have := lt p (h1 i hi p ci)
      omega
    | some p' =>
      show A.getD p 0 ≠ A.getD p' 0
      refine nd_ne hA (el p (h1 i hi p ci)) (el p' (h1 j hj p' cj)) (fun z => hij ?_)
      rw [← z] at cj
      exact h2 i hi j hj p ci cj
theorem sum_lt {A : List Nat} : ∀ x ∈ A, x < A.sum + 1 := by
  intro x hx
  have : x ≤ A.sum := by
    induction A with
    | nil => cases hx
    | cons a t ih =>
      rw [List.sum_cons]
      rcases List.mem_cons.mp hx with e | e
      · omega
      · have := ih e
        omega
  omega
abbrev psM : List (Option Nat) := [some 0, some 1, some 2, none, some 3, none, none, some 4, none, none, none, none, none, none, none, none, none, some 5, none, none, none, none, some 6, some 7, some 8, some 9, some 10, some 11, none, none, none, some 12, some 13, none, some 14, some 15, none, none, none, some 16, some 17]
/-- roles of the reference that are cells -/
abbrev usM : List Nat := [0, 1, 2, 4, 7, 17, 22, 23, 24, 25, 26, 27, 31, 32, 34, 35, 39, 40]
def b00 : Nat → Int32 := upd (upd (upd (fun _ => 0) 330 100) 331 1) 332 999
def S00 : Sg := ((b00, fun _ => 0), [], (fun _ => 0), 0, (fun _ => 0), 0)
section MOD
variable {G : GP} {M : Wd} {h : Nat}
set_option maxRecDepth 40000 in
theorem i_X6 (hh : gt M h = some (ob 6 [.int 0, .null, .null, .int 0, .null, .int 0, .int 0, .null, .int 0, .int 0, .int 0, .int 0, .int 0, .int 0, .long 0, .int 0, .int 0, .null, .int 0, .int 0, .int 0, .int 0, .null, .null, .null, .null, .null, .null, .int 0, .int 0, .int 0, .null, .null, .int 0, .null, .null, .int 0, .int 0, .int 0, .null, .null])) : CtV G mX6_init [.ref h] M 17 21105 (fun M' => ∃ (a : Nat → Nat) (v : Nat → Int32) (L : Int64) (X : Nat → Nat → Int32), MZ a M v L X M' ∧ MR v X S00 ∧ a 0 = h ∧ ∀ i ∈ usM, i ≠ 0 → gt M (a i) = none) := by
  have hC := Cw.in1 hh
  refine Ct.of (ls := [some (.ref h)]) (by decide) (by decide) rfl rfl rfl ?_
  refine Ev.ald0 dX6_init_0 ?_
  refine Ev.objI (hi := 0) dX6_init_1 lX6_7 oi_1 oi_2 rfl rfl ?_
  refine Ev.ald0 dX6_init_4 ?_
  refine Ev.sipush (v := 1189) dX6_init_5 (by decide) ?_
  refine Ev.knI (N := 1189) dX6_init_8 ac_int (by decide) (by decide) rfl hC (fun q8 W hq8 hC => ?_)
  replace hC : Cw _ [(h, ob 6 [.int 0, .null, .null, .int 0, .null, .int 0, .int 0, .null, .int 0, .int 0, .int 0, .int 0, .int 0, .int 0, .long 0, .int 0, .int 0, .null, .int 0, .int 0, .int 0, .int 0, .null, .null, .null, .null, .null, .null, .int 0, .int 0, .int 0, .null, .null, .int 0, .null, .null, .int 0, .int 0, .int 0, .null, .null]), (q8, ia 0 1189 (fun _ => 0))] _ := hC
  refine Ev.kpF (j := 0) dX6_init_10 rfl fX6_13 hC rfl rfl rfl rfl (fun W hC => ?_)
  replace hC : Cw _ [(h, ob 6 [.int 0, .ref q8, .null, .int 0, .null, .int 0, .int 0, .null, .int 0, .int 0, .int 0, .int 0, .int 0, .int 0, .long 0, .int 0, .int 0, .null, .int 0, .int 0, .int 0, .int 0, .null, .null, .null, .null, .null, .null, .int 0, .int 0, .int 0, .null, .null, .int 0, .null, .null, .int 0, .int 0, .int 0, .null, .null]), (q8, ia 0 1189 (fun _ => 0))] _ := hC
  refine Ev.ald0 dX6_init_13 ?_
  refine Ev.sipush (v := 14268) dX6_init_14 (by decide) ?_
  refine Ev.knI (N := 14268) dX6_init_17 ac_int (by decide) (by decide) rfl hC (fun q17 W hq17 hC => ?_)
  replace hC : Cw _ [(h, ob 6 [.int 0, .ref q8, .null, .int 0, .null, .int 0, .int 0, .null, .int 0, .int 0, .int 0, .int 0, .int 0, .int 0, .long 0, .int 0, .int 0, .null, .int 0, .int 0, .int 0, .int 0, .null, .null, .null, .null, .null, .null, .int 0, .int 0, .int 0, .null, .null, .int 0, .null, .null, .int 0, .int 0, .int 0, .null, .null]), (q8, ia 0 1189 (fun _ => 0)), (q17, ia 0 14268 (fun _ => 0))] _ := hC
  refine Ev.kpF (j := 0) dX6_init_19 rfl fX6_17 hC rfl rfl rfl rfl (fun W hC => ?_)
  replace hC : Cw _ [(h, ob 6 [.int 0, .ref q8, .ref q17, .int 0, .null, .int 0, .int 0, .null, .int 0, .int 0, .int 0, .int 0, .int 0, .int 0, .long 0, .int 0, .int 0, .null, .int 0, .int 0, .int 0, .int 0, .null, .null, .null, .null, .null, .null, .int 0, .int 0, .int 0, .null, .null, .int 0, .null, .null, .int 0, .int 0, .int 0, .null, .null]), (q8, ia 0 1189 (fun _ => 0)), (q17, ia 0 14268 (fun _ => 0))] _ := hC
  refine Ev.ald0 dX6_init_22 ?_
  refine Ev.bipush (v := 32) dX6_init_23 (by decide) ?_
  refine Ev.knI (N := 32) dX6_init_25 ac_int (by decide) (by decide) rfl hC (fun q25 W hq25 hC => ?_)
  replace hC : Cw _ [(h, ob 6 [.int 0, .ref q8, .ref q17, .int 0, .null, .int 0, .int 0, .null, .int 0, .int 0, .int 0, .int 0, .int 0, .int 0, .long 0, .int 0, .int 0, .null, .int 0, .int 0, .int 0, .int 0, .null, .null, .null, .null, .null, .null, .int 0, .int 0, .int 0, .null, .null, .int 0, .null, .null, .int 0, .int 0, .int 0, .null, .null]), (q8, ia 0 1189 (fun _ => 0)), (q17, ia 0 14268 (fun _ => 0)), (q25, ia 0 32 (fun _ => 0))] _ := hC
  refine Ev.kpF (j := 0) dX6_init_27 rfl fX6_20 hC rfl rfl rfl rfl (fun W hC => ?_)
  replace hC : Cw _ [(h, ob 6 [.int 0, .ref q8, .ref q17, .int 0, .ref q25, .int 0, .int 0, .null, .int 0, .int 0, .int 0, .int 0, .int 0, .int 0, .long 0, .int 0, .int 0, .null, .int 0, .int 0, .int 0, .int 0, .null, .null, .null, .null, .null, .null, .int 0, .int 0, .int 0, .null, .null, .int 0, .null, .null, .int 0, .int 0, .int 0, .null, .null]), (q8, ia 0 1189 (fun _ => 0)), (q17, ia 0 14268 (fun _ => 0)), (q25, ia 0 32 (fun _ => 0))] _ := hC
  refine Ev.ald0 dX6_init_30 ?_
  refine Ev.sipush (v := 800) dX6_init_31 (by decide) ?_
  refine Ev.knB (N := 800) dX6_init_34 ac_byte (by decide) (by decide) rfl hC (fun q34 W hq34 hC => ?_)
  replace hC : Cw _ [(h, ob 6 [.int 0, .ref q8, .ref q17, .int 0, .ref q25, .int 0, .int 0, .null, .int 0, .int 0, .int 0, .int 0, .int 0, .int 0, .long 0, .int 0, .int 0, .null, .int 0, .int 0, .int 0, .int 0, .null, .null, .null, .null, .null, .null, .int 0, .int 0, .int 0, .null, .null, .int 0, .null, .null, .int 0, .int 0, .int 0, .null, .null]), (q8, ia 0 1189 (fun _ => 0)), (q17, ia 0 14268 (fun _ => 0)), (q25, ia 0 32 (fun _ => 0)), (q34, ia 1 800 (fun _ => 0))] _ := hC
  refine Ev.kpF (j := 0) dX6_init_36 rfl fX6_23 hC rfl rfl rfl rfl (fun W hC => ?_)
  replace hC : Cw _ [(h, ob 6 [.int 0, .ref q8, .ref q17, .int 0, .ref q25, .int 0, .int 0, .ref q34, .int 0, .int 0, .int 0, .int 0, .int 0, .int 0, .long 0, .int 0, .int 0, .null, .int 0, .int 0, .int 0, .int 0, .null, .null, .null, .null, .null, .null, .int 0, .int 0, .int 0, .null, .null, .int 0, .null, .null, .int 0, .int 0, .int 0, .null, .null]), (q8, ia 0 1189 (fun _ => 0)), (q17, ia 0 14268 (fun _ => 0)), (q25, ia 0 32 (fun _ => 0)), (q34, ia 1 800 (fun _ => 0))] _ := hC
  refine Ev.ald0 dX6_init_39 ?_
  refine Ev.sipush (v := 320) dX6_init_40 (by decide) ?_
  refine Ev.knI (N := 320) dX6_init_43 ac_int (by decide) (by decide) rfl hC (fun q43 W hq43 hC => ?_)
  replace hC : Cw _ [(h, ob 6 [.int 0, .ref q8, .ref q17, .int 0, .ref q25, .int 0, .int 0, .ref q34, .int 0, .int 0, .int 0, .int 0, .int 0, .int 0, .long 0, .int 0, .int 0, .null, .int 0, .int 0, .int 0, .int 0, .null, .null, .null, .null, .null, .null, .int 0, .int 0, .int 0, .null, .null, .int 0, .null, .null, .int 0, .int 0, .int 0, .null, .null]), (q8, ia 0 1189 (fun _ => 0)), (q17, ia 0 14268 (fun _ => 0)), (q25, ia 0 32 (fun _ => 0)), (q34, ia 1 800 (fun _ => 0)), (q43, ia 0 320 (fun _ => 0))] _ := hC
  refine Ev.kpF (j := 0) dX6_init_45 rfl fX6_27 hC rfl rfl rfl rfl (fun W hC => ?_)
  replace hC : Cw _ [(h, ob 6 [.int 0, .ref q8, .ref q17, .int 0, .ref q25, .int 0, .int 0, .ref q34, .int 0, .int 0, .int 0, .int 0, .int 0, .int 0, .long 0, .int 0, .int 0, .ref q43, .int 0, .int 0, .int 0, .int 0, .null, .null, .null, .null, .null, .null, .int 0, .int 0, .int 0, .null, .null, .int 0, .null, .null, .int 0, .int 0, .int 0, .null, .null]), (q8, ia 0 1189 (fun _ => 0)), (q17, ia 0 14268 (fun _ => 0)), (q25, ia 0 32 (fun _ => 0)), (q34, ia 1 800 (fun _ => 0)), (q43, ia 0 320 (fun _ => 0))] _ := hC
  refine Ev.ald0 dX6_init_48 ?_
  refine Ev.bipush (v := 41) dX6_init_49 (by decide) ?_
  refine Ev.knZ (N := 41) dX6_init_51 ac_boolean (by decide) (by decide) rfl hC (fun q51 W hq51 hC => ?_)
  replace hC : Cw _ [(h, ob 6 [.int 0, .ref q8, .ref q17, .int 0, .ref q25, .int 0, .int 0, .ref q34, .int 0, .int 0, .int 0, .int 0, .int 0, .int 0, .long 0, .int 0, .int 0, .ref q43, .int 0, .int 0, .int 0, .int 0, .null, .null, .null, .null, .null, .null, .int 0, .int 0, .int 0, .null, .null, .int 0, .null, .null, .int 0, .int 0, .int 0, .null, .null]), (q8, ia 0 1189 (fun _ => 0)), (q17, ia 0 14268 (fun _ => 0)), (q25, ia 0 32 (fun _ => 0)), (q34, ia 1 800 (fun _ => 0)), (q43, ia 0 320 (fun _ => 0)), (q51, ia 2 41 (fun _ => 0))] _ := hC
  refine Ev.kpF (j := 0) dX6_init_53 rfl fX6_30 hC rfl rfl rfl rfl (fun W hC => ?_)
  replace hC : Cw _ [(h, ob 6 [.int 0, .ref q8, .ref q17, .int 0, .ref q25, .int 0, .int 0, .ref q34, .int 0, .int 0, .int 0, .int 0, .int 0, .int 0, .long 0, .int 0, .int 0, .ref q43, .int 0, .int 0, .int 0, .int 0, .ref q51, .null, .null, .null, .null, .null, .int 0, .int 0, .int 0, .null, .null, .int 0, .null, .null, .int 0, .int 0, .int 0, .null, .null]), (q8, ia 0 1189 (fun _ => 0)), (q17, ia 0 14268 (fun _ => 0)), (q25, ia 0 32 (fun _ => 0)), (q34, ia 1 800 (fun _ => 0)), (q43, ia 0 320 (fun _ => 0)), (q51, ia 2 41 (fun _ => 0))] _ := hC
  refine Ev.ald0 dX6_init_56 ?_
  refine Ev.bipush (v := 41) dX6_init_57 (by decide) ?_
  refine Ev.knI (N := 41) dX6_init_59 ac_int (by decide) (by decide) rfl hC (fun q59 W hq59 hC => ?_)
  replace hC : Cw _ [(h, ob 6 [.int 0, .ref q8, .ref q17, .int 0, .ref q25, .int 0, .int 0, .ref q34, .int 0, .int 0, .int 0, .int 0, .int 0, .int 0, .long 0, .int 0, .int 0, .ref q43, .int 0, .int 0, .int 0, .int 0, .ref q51, .null, .null, .null, .null, .null, .int 0, .int 0, .int 0, .null, .null, .int 0, .null, .null, .int 0, .int 0, .int 0, .null, .null]), (q8, ia 0 1189 (fun _ => 0)), (q17, ia 0 14268 (fun _ => 0)), (q25, ia 0 32 (fun _ => 0)), (q34, ia 1 800 (fun _ => 0)), (q43, ia 0 320 (fun _ => 0)), (q51, ia 2 41 (fun _ => 0)), (q59, ia 0 41 (fun _ => 0))] _ := hC
  refine Ev.kpF (j := 0) dX6_init_61 rfl fX6_34 hC rfl rfl rfl rfl (fun W hC => ?_)
  replace hC : Cw _ [(h, ob 6 [.int 0, .ref q8, .ref q17, .int 0, .ref q25, .int 0, .int 0, .ref q34, .int 0, .int 0, .int 0, .int 0, .int 0, .int 0, .long 0, .int 0, .int 0, .ref q43, .int 0, .int 0, .int 0, .int 0, .ref q51, .ref q59, .null, .null, .null, .null, .int 0, .int 0, .int 0, .null, .null, .int 0, .null, .null, .int 0, .int 0, .int 0, .null, .null]), (q8, ia 0 1189 (fun _ => 0)), (q17, ia 0 14268 (fun _ => 0)), (q25, ia 0 32 (fun _ => 0)), (q34, ia 1 800 (fun _ => 0)), (q43, ia 0 320 (fun _ => 0)), (q51, ia 2 41 (fun _ => 0)), (q59, ia 0 41 (fun _ => 0))] _ := hC
  refine Ev.ald0 dX6_init_64 ?_
  refine Ev.sipush (v := 1001) dX6_init_65 (by decide) ?_
  refine Ev.knI (N := 1001) dX6_init_68 ac_int (by decide) (by decide) rfl hC (fun q68 W hq68 hC => ?_)
  replace hC : Cw _ [(h, ob 6 [.int 0, .ref q8, .ref q17, .int 0, .ref q25, .int 0, .int 0, .ref q34, .int 0, .int 0, .int 0, .int 0, .int 0, .int 0, .long 0, .int 0, .int 0, .ref q43, .int 0, .int 0, .int 0, .int 0, .ref q51, .ref q59, .null, .null, .null, .null, .int 0, .int 0, .int 0, .null, .null, .int 0, .null, .null, .int 0, .int 0, .int 0, .null, .null]), (q8, ia 0 1189 (fun _ => 0)), (q17, ia 0 14268 (fun _ => 0)), (q25, ia 0 32 (fun _ => 0)), (q34, ia 1 800 (fun _ => 0)), (q43, ia 0 320 (fun _ => 0)), (q51, ia 2 41 (fun _ => 0)), (q59, ia 0 41 (fun _ => 0)), (q68, ia 0 1001 (fun _ => 0))] _ := hC
  refine Ev.kpF (j := 0) dX6_init_70 rfl fX6_37 hC rfl rfl rfl rfl (fun W hC => ?_)
  replace hC : Cw _ [(h, ob 6 [.int 0, .ref q8, .ref q17, .int 0, .ref q25, .int 0, .int 0, .ref q34, .int 0, .int 0, .int 0, .int 0, .int 0, .int 0, .long 0, .int 0, .int 0, .ref q43, .int 0, .int 0, .int 0, .int 0, .ref q51, .ref q59, .ref q68, .null, .null, .null, .int 0, .int 0, .int 0, .null, .null, .int 0, .null, .null, .int 0, .int 0, .int 0, .null, .null]), (q8, ia 0 1189 (fun _ => 0)), (q17, ia 0 14268 (fun _ => 0)), (q25, ia 0 32 (fun _ => 0)), (q34, ia 1 800 (fun _ => 0)), (q43, ia 0 320 (fun _ => 0)), (q51, ia 2 41 (fun _ => 0)), (q59, ia 0 41 (fun _ => 0)), (q68, ia 0 1001 (fun _ => 0))] _ := hC
  refine Ev.ald0 dX6_init_73 ?_
  refine Ev.sipush (v := 1001) dX6_init_74 (by decide) ?_
  refine Ev.knI (N := 1001) dX6_init_77 ac_int (by decide) (by decide) rfl hC (fun q77 W hq77 hC => ?_)
  replace hC : Cw _ [(h, ob 6 [.int 0, .ref q8, .ref q17, .int 0, .ref q25, .int 0, .int 0, .ref q34, .int 0, .int 0, .int 0, .int 0, .int 0, .int 0, .long 0, .int 0, .int 0, .ref q43, .int 0, .int 0, .int 0, .int 0, .ref q51, .ref q59, .ref q68, .null, .null, .null, .int 0, .int 0, .int 0, .null, .null, .int 0, .null, .null, .int 0, .int 0, .int 0, .null, .null]), (q8, ia 0 1189 (fun _ => 0)), (q17, ia 0 14268 (fun _ => 0)), (q25, ia 0 32 (fun _ => 0)), (q34, ia 1 800 (fun _ => 0)), (q43, ia 0 320 (fun _ => 0)), (q51, ia 2 41 (fun _ => 0)), (q59, ia 0 41 (fun _ => 0)), (q68, ia 0 1001 (fun _ => 0)), (q77, ia 0 1001 (fun _ => 0))] _ := hC
  refine Ev.kpF (j := 0) dX6_init_79 rfl fX6_40 hC rfl rfl rfl rfl (fun W hC => ?_)
  replace hC : Cw _ [(h, ob 6 [.int 0, .ref q8, .ref q17, .int 0, .ref q25, .int 0, .int 0, .ref q34, .int 0, .int 0, .int 0, .int 0, .int 0, .int 0, .long 0, .int 0, .int 0, .ref q43, .int 0, .int 0, .int 0, .int 0, .ref q51, .ref q59, .ref q68, .ref q77, .null, .null, .int 0, .int 0, .int 0, .null, .null, .int 0, .null, .null, .int 0, .int 0, .int 0, .null, .null]), (q8, ia 0 1189 (fun _ => 0)), (q17, ia 0 14268 (fun _ => 0)), (q25, ia 0 32 (fun _ => 0)), (q34, ia 1 800 (fun _ => 0)), (q43, ia 0 320 (fun _ => 0)), (q51, ia 2 41 (fun _ => 0)), (q59, ia 0 41 (fun _ => 0)), (q68, ia 0 1001 (fun _ => 0)), (q77, ia 0 1001 (fun _ => 0))] _ := hC
  refine Ev.ald0 dX6_init_82 ?_
  refine Ev.sipush (v := 1001) dX6_init_83 (by decide) ?_
  refine Ev.knI (N := 1001) dX6_init_86 ac_int (by decide) (by decide) rfl hC (fun q86 W hq86 hC => ?_)
  replace hC : Cw _ [(h, ob 6 [.int 0, .ref q8, .ref q17, .int 0, .ref q25, .int 0, .int 0, .ref q34, .int 0, .int 0, .int 0, .int 0, .int 0, .int 0, .long 0, .int 0, .int 0, .ref q43, .int 0, .int 0, .int 0, .int 0, .ref q51, .ref q59, .ref q68, .ref q77, .null, .null, .int 0, .int 0, .int 0, .null, .null, .int 0, .null, .null, .int 0, .int 0, .int 0, .null, .null]), (q8, ia 0 1189 (fun _ => 0)), (q17, ia 0 14268 (fun _ => 0)), (q25, ia 0 32 (fun _ => 0)), (q34, ia 1 800 (fun _ => 0)), (q43, ia 0 320 (fun _ => 0)), (q51, ia 2 41 (fun _ => 0)), (q59, ia 0 41 (fun _ => 0)), (q68, ia 0 1001 (fun _ => 0)), (q77, ia 0 1001 (fun _ => 0)), (q86, ia 0 1001 (fun _ => 0))] _ := hC
  refine Ev.kpF (j := 0) dX6_init_88 rfl fX6_43 hC rfl rfl rfl rfl (fun W hC => ?_)
  replace hC : Cw _ [(h, ob 6 [.int 0, .ref q8, .ref q17, .int 0, .ref q25, .int 0, .int 0, .ref q34, .int 0, .int 0, .int 0, .int 0, .int 0, .int 0, .long 0, .int 0, .int 0, .ref q43, .int 0, .int 0, .int 0, .int 0, .ref q51, .ref q59, .ref q68, .ref q77, .ref q86, .null, .int 0, .int 0, .int 0, .null, .null, .int 0, .null, .null, .int 0, .int 0, .int 0, .null, .null]), (q8, ia 0 1189 (fun _ => 0)), (q17, ia 0 14268 (fun _ => 0)), (q25, ia 0 32 (fun _ => 0)), (q34, ia 1 800 (fun _ => 0)), (q43, ia 0 320 (fun _ => 0)), (q51, ia 2 41 (fun _ => 0)), (q59, ia 0 41 (fun _ => 0)), (q68, ia 0 1001 (fun _ => 0)), (q77, ia 0 1001 (fun _ => 0)), (q86, ia 0 1001 (fun _ => 0))] _ := hC
  refine Ev.ald0 dX6_init_91 ?_
  refine Ev.sipush (v := 1001) dX6_init_92 (by decide) ?_
  refine Ev.knI (N := 1001) dX6_init_95 ac_int (by decide) (by decide) rfl hC (fun q95 W hq95 hC => ?_)
  replace hC : Cw _ [(h, ob 6 [.int 0, .ref q8, .ref q17, .int 0, .ref q25, .int 0, .int 0, .ref q34, .int 0, .int 0, .int 0, .int 0, .int 0, .int 0, .long 0, .int 0, .int 0, .ref q43, .int 0, .int 0, .int 0, .int 0, .ref q51, .ref q59, .ref q68, .ref q77, .ref q86, .null, .int 0, .int 0, .int 0, .null, .null, .int 0, .null, .null, .int 0, .int 0, .int 0, .null, .null]), (q8, ia 0 1189 (fun _ => 0)), (q17, ia 0 14268 (fun _ => 0)), (q25, ia 0 32 (fun _ => 0)), (q34, ia 1 800 (fun _ => 0)), (q43, ia 0 320 (fun _ => 0)), (q51, ia 2 41 (fun _ => 0)), (q59, ia 0 41 (fun _ => 0)), (q68, ia 0 1001 (fun _ => 0)), (q77, ia 0 1001 (fun _ => 0)), (q86, ia 0 1001 (fun _ => 0)), (q95, ia 0 1001 (fun _ => 0))] _ := hC
  refine Ev.kpF (j := 0) dX6_init_97 rfl fX6_46 hC rfl rfl rfl rfl (fun W hC => ?_)
  replace hC : Cw _ [(h, ob 6 [.int 0, .ref q8, .ref q17, .int 0, .ref q25, .int 0, .int 0, .ref q34, .int 0, .int 0, .int 0, .int 0, .int 0, .int 0, .long 0, .int 0, .int 0, .ref q43, .int 0, .int 0, .int 0, .int 0, .ref q51, .ref q59, .ref q68, .ref q77, .ref q86, .ref q95, .int 0, .int 0, .int 0, .null, .null, .int 0, .null, .null, .int 0, .int 0, .int 0, .null, .null]), (q8, ia 0 1189 (fun _ => 0)), (q17, ia 0 14268 (fun _ => 0)), (q25, ia 0 32 (fun _ => 0)), (q34, ia 1 800 (fun _ => 0)), (q43, ia 0 320 (fun _ => 0)), (q51, ia 2 41 (fun _ => 0)), (q59, ia 0 41 (fun _ => 0)), (q68, ia 0 1001 (fun _ => 0)), (q77, ia 0 1001 (fun _ => 0)), (q86, ia 0 1001 (fun _ => 0)), (q95, ia 0 1001 (fun _ => 0))] _ := hC
  refine Ev.ald0 dX6_init_100 ?_
  refine Ev.bipush (v := 82) dX6_init_101 (by decide) ?_
  refine Ev.knI (N := 82) dX6_init_103 ac_int (by decide) (by decide) rfl hC (fun q103 W hq103 hC => ?_)
  replace hC : Cw _ [(h, ob 6 [.int 0, .ref q8, .ref q17, .int 0, .ref q25, .int 0, .int 0, .ref q34, .int 0, .int 0, .int 0, .int 0, .int 0, .int 0, .long 0, .int 0, .int 0, .ref q43, .int 0, .int 0, .int 0, .int 0, .ref q51, .ref q59, .ref q68, .ref q77, .ref q86, .ref q95, .int 0, .int 0, .int 0, .null, .null, .int 0, .null, .null, .int 0, .int 0, .int 0, .null, .null]), (q8, ia 0 1189 (fun _ => 0)), (q17, ia 0 14268 (fun _ => 0)), (q25, ia 0 32 (fun _ => 0)), (q34, ia 1 800 (fun _ => 0)), (q43, ia 0 320 (fun _ => 0)), (q51, ia 2 41 (fun _ => 0)), (q59, ia 0 41 (fun _ => 0)), (q68, ia 0 1001 (fun _ => 0)), (q77, ia 0 1001 (fun _ => 0)), (q86, ia 0 1001 (fun _ => 0)), (q95, ia 0 1001 (fun _ => 0)), (q103, ia 0 82 (fun _ => 0))] _ := hC
  refine Ev.kpF (j := 0) dX6_init_105 rfl fX6_49 hC rfl rfl rfl rfl (fun W hC => ?_)
  replace hC : Cw _ [(h, ob 6 [.int 0, .ref q8, .ref q17, .int 0, .ref q25, .int 0, .int 0, .ref q34, .int 0, .int 0, .int 0, .int 0, .int 0, .int 0, .long 0, .int 0, .int 0, .ref q43, .int 0, .int 0, .int 0, .int 0, .ref q51, .ref q59, .ref q68, .ref q77, .ref q86, .ref q95, .int 0, .int 0, .int 0, .ref q103, .null, .int 0, .null, .null, .int 0, .int 0, .int 0, .null, .null]), (q8, ia 0 1189 (fun _ => 0)), (q17, ia 0 14268 (fun _ => 0)), (q25, ia 0 32 (fun _ => 0)), (q34, ia 1 800 (fun _ => 0)), (q43, ia 0 320 (fun _ => 0)), (q51, ia 2 41 (fun _ => 0)), (q59, ia 0 41 (fun _ => 0)), (q68, ia 0 1001 (fun _ => 0)), (q77, ia 0 1001 (fun _ => 0)), (q86, ia 0 1001 (fun _ => 0)), (q95, ia 0 1001 (fun _ => 0)), (q103, ia 0 82 (fun _ => 0))] _ := hC
  refine Ev.ald0 dX6_init_108 ?_
  refine Ev.bipush (v := 82) dX6_init_109 (by decide) ?_
  refine Ev.knI (N := 82) dX6_init_111 ac_int (by decide) (by decide) rfl hC (fun q111 W hq111 hC => ?_)
  replace hC : Cw _ [(h, ob 6 [.int 0, .ref q8, .ref q17, .int 0, .ref q25, .int 0, .int 0, .ref q34, .int 0, .int 0, .int 0, .int 0, .int 0, .int 0, .long 0, .int 0, .int 0, .ref q43, .int 0, .int 0, .int 0, .int 0, .ref q51, .ref q59, .ref q68, .ref q77, .ref q86, .ref q95, .int 0, .int 0, .int 0, .ref q103, .null, .int 0, .null, .null, .int 0, .int 0, .int 0, .null, .null]), (q8, ia 0 1189 (fun _ => 0)), (q17, ia 0 14268 (fun _ => 0)), (q25, ia 0 32 (fun _ => 0)), (q34, ia 1 800 (fun _ => 0)), (q43, ia 0 320 (fun _ => 0)), (q51, ia 2 41 (fun _ => 0)), (q59, ia 0 41 (fun _ => 0)), (q68, ia 0 1001 (fun _ => 0)), (q77, ia 0 1001 (fun _ => 0)), (q86, ia 0 1001 (fun _ => 0)), (q95, ia 0 1001 (fun _ => 0)), (q103, ia 0 82 (fun _ => 0)), (q111, ia 0 82 (fun _ => 0))] _ := hC
  refine Ev.kpF (j := 0) dX6_init_113 rfl fX6_52 hC rfl rfl rfl rfl (fun W hC => ?_)
  replace hC : Cw _ [(h, ob 6 [.int 0, .ref q8, .ref q17, .int 0, .ref q25, .int 0, .int 0, .ref q34, .int 0, .int 0, .int 0, .int 0, .int 0, .int 0, .long 0, .int 0, .int 0, .ref q43, .int 0, .int 0, .int 0, .int 0, .ref q51, .ref q59, .ref q68, .ref q77, .ref q86, .ref q95, .int 0, .int 0, .int 0, .ref q103, .ref q111, .int 0, .null, .null, .int 0, .int 0, .int 0, .null, .null]), (q8, ia 0 1189 (fun _ => 0)), (q17, ia 0 14268 (fun _ => 0)), (q25, ia 0 32 (fun _ => 0)), (q34, ia 1 800 (fun _ => 0)), (q43, ia 0 320 (fun _ => 0)), (q51, ia 2 41 (fun _ => 0)), (q59, ia 0 41 (fun _ => 0)), (q68, ia 0 1001 (fun _ => 0)), (q77, ia 0 1001 (fun _ => 0)), (q86, ia 0 1001 (fun _ => 0)), (q95, ia 0 1001 (fun _ => 0)), (q103, ia 0 82 (fun _ => 0)), (q111, ia 0 82 (fun _ => 0))] _ := hC
  refine Ev.ald0 dX6_init_116 ?_
  refine Ev.bipush (v := 41) dX6_init_117 (by decide) ?_
  refine Ev.knI (N := 41) dX6_init_119 ac_int (by decide) (by decide) rfl hC (fun q119 W hq119 hC => ?_)
  replace hC : Cw _ [(h, ob 6 [.int 0, .ref q8, .ref q17, .int 0, .ref q25, .int 0, .int 0, .ref q34, .int 0, .int 0, .int 0, .int 0, .int 0, .int 0, .long 0, .int 0, .int 0, .ref q43, .int 0, .int 0, .int 0, .int 0, .ref q51, .ref q59, .ref q68, .ref q77, .ref q86, .ref q95, .int 0, .int 0, .int 0, .ref q103, .ref q111, .int 0, .null, .null, .int 0, .int 0, .int 0, .null, .null]), (q8, ia 0 1189 (fun _ => 0)), (q17, ia 0 14268 (fun _ => 0)), (q25, ia 0 32 (fun _ => 0)), (q34, ia 1 800 (fun _ => 0)), (q43, ia 0 320 (fun _ => 0)), (q51, ia 2 41 (fun _ => 0)), (q59, ia 0 41 (fun _ => 0)), (q68, ia 0 1001 (fun _ => 0)), (q77, ia 0 1001 (fun _ => 0)), (q86, ia 0 1001 (fun _ => 0)), (q95, ia 0 1001 (fun _ => 0)), (q103, ia 0 82 (fun _ => 0)), (q111, ia 0 82 (fun _ => 0)), (q119, ia 0 41 (fun _ => 0))] _ := hC
  refine Ev.kpF (j := 0) dX6_init_121 rfl fX6_55 hC rfl rfl rfl rfl (fun W hC => ?_)
  replace hC : Cw _ [(h, ob 6 [.int 0, .ref q8, .ref q17, .int 0, .ref q25, .int 0, .int 0, .ref q34, .int 0, .int 0, .int 0, .int 0, .int 0, .int 0, .long 0, .int 0, .int 0, .ref q43, .int 0, .int 0, .int 0, .int 0, .ref q51, .ref q59, .ref q68, .ref q77, .ref q86, .ref q95, .int 0, .int 0, .int 0, .ref q103, .ref q111, .int 0, .ref q119, .null, .int 0, .int 0, .int 0, .null, .null]), (q8, ia 0 1189 (fun _ => 0)), (q17, ia 0 14268 (fun _ => 0)), (q25, ia 0 32 (fun _ => 0)), (q34, ia 1 800 (fun _ => 0)), (q43, ia 0 320 (fun _ => 0)), (q51, ia 2 41 (fun _ => 0)), (q59, ia 0 41 (fun _ => 0)), (q68, ia 0 1001 (fun _ => 0)), (q77, ia 0 1001 (fun _ => 0)), (q86, ia 0 1001 (fun _ => 0)), (q95, ia 0 1001 (fun _ => 0)), (q103, ia 0 82 (fun _ => 0)), (q111, ia 0 82 (fun _ => 0)), (q119, ia 0 41 (fun _ => 0))] _ := hC
  refine Ev.ald0 dX6_init_124 ?_
  refine Ev.bipush (v := 41) dX6_init_125 (by decide) ?_
  refine Ev.knZ (N := 41) dX6_init_127 ac_boolean (by decide) (by decide) rfl hC (fun q127 W hq127 hC => ?_)
  replace hC : Cw _ [(h, ob 6 [.int 0, .ref q8, .ref q17, .int 0, .ref q25, .int 0, .int 0, .ref q34, .int 0, .int 0, .int 0, .int 0, .int 0, .int 0, .long 0, .int 0, .int 0, .ref q43, .int 0, .int 0, .int 0, .int 0, .ref q51, .ref q59, .ref q68, .ref q77, .ref q86, .ref q95, .int 0, .int 0, .int 0, .ref q103, .ref q111, .int 0, .ref q119, .null, .int 0, .int 0, .int 0, .null, .null]), (q8, ia 0 1189 (fun _ => 0)), (q17, ia 0 14268 (fun _ => 0)), (q25, ia 0 32 (fun _ => 0)), (q34, ia 1 800 (fun _ => 0)), (q43, ia 0 320 (fun _ => 0)), (q51, ia 2 41 (fun _ => 0)), (q59, ia 0 41 (fun _ => 0)), (q68, ia 0 1001 (fun _ => 0)), (q77, ia 0 1001 (fun _ => 0)), (q86, ia 0 1001 (fun _ => 0)), (q95, ia 0 1001 (fun _ => 0)), (q103, ia 0 82 (fun _ => 0)), (q111, ia 0 82 (fun _ => 0)), (q119, ia 0 41 (fun _ => 0)), (q127, ia 2 41 (fun _ => 0))] _ := hC
  refine Ev.kpF (j := 0) dX6_init_129 rfl fX6_58 hC rfl rfl rfl rfl (fun W hC => ?_)
  replace hC : Cw _ [(h, ob 6 [.int 0, .ref q8, .ref q17, .int 0, .ref q25, .int 0, .int 0, .ref q34, .int 0, .int 0, .int 0, .int 0, .int 0, .int 0, .long 0, .int 0, .int 0, .ref q43, .int 0, .int 0, .int 0, .int 0, .ref q51, .ref q59, .ref q68, .ref q77, .ref q86, .ref q95, .int 0, .int 0, .int 0, .ref q103, .ref q111, .int 0, .ref q119, .ref q127, .int 0, .int 0, .int 0, .null, .null]), (q8, ia 0 1189 (fun _ => 0)), (q17, ia 0 14268 (fun _ => 0)), (q25, ia 0 32 (fun _ => 0)), (q34, ia 1 800 (fun _ => 0)), (q43, ia 0 320 (fun _ => 0)), (q51, ia 2 41 (fun _ => 0)), (q59, ia 0 41 (fun _ => 0)), (q68, ia 0 1001 (fun _ => 0)), (q77, ia 0 1001 (fun _ => 0)), (q86, ia 0 1001 (fun _ => 0)), (q95, ia 0 1001 (fun _ => 0)), (q103, ia 0 82 (fun _ => 0)), (q111, ia 0 82 (fun _ => 0)), (q119, ia 0 41 (fun _ => 0)), (q127, ia 2 41 (fun _ => 0))] _ := hC
  refine Ev.ald0 dX6_init_132 ?_
  refine Ev.bipush (v := 82) dX6_init_133 (by decide) ?_
  refine Ev.knI (N := 82) dX6_init_135 ac_int (by decide) (by decide) rfl hC (fun q135 W hq135 hC => ?_)
  replace hC : Cw _ [(h, ob 6 [.int 0, .ref q8, .ref q17, .int 0, .ref q25, .int 0, .int 0, .ref q34, .int 0, .int 0, .int 0, .int 0, .int 0, .int 0, .long 0, .int 0, .int 0, .ref q43, .int 0, .int 0, .int 0, .int 0, .ref q51, .ref q59, .ref q68, .ref q77, .ref q86, .ref q95, .int 0, .int 0, .int 0, .ref q103, .ref q111, .int 0, .ref q119, .ref q127, .int 0, .int 0, .int 0, .null, .null]), (q8, ia 0 1189 (fun _ => 0)), (q17, ia 0 14268 (fun _ => 0)), (q25, ia 0 32 (fun _ => 0)), (q34, ia 1 800 (fun _ => 0)), (q43, ia 0 320 (fun _ => 0)), (q51, ia 2 41 (fun _ => 0)), (q59, ia 0 41 (fun _ => 0)), (q68, ia 0 1001 (fun _ => 0)), (q77, ia 0 1001 (fun _ => 0)), (q86, ia 0 1001 (fun _ => 0)), (q95, ia 0 1001 (fun _ => 0)), (q103, ia 0 82 (fun _ => 0)), (q111, ia 0 82 (fun _ => 0)), (q119, ia 0 41 (fun _ => 0)), (q127, ia 2 41 (fun _ => 0)), (q135, ia 0 82 (fun _ => 0))] _ := hC
  refine Ev.kpF (j := 0) dX6_init_137 rfl fX6_61 hC rfl rfl rfl rfl (fun W hC => ?_)
  replace hC : Cw _ [(h, ob 6 [.int 0, .ref q8, .ref q17, .int 0, .ref q25, .int 0, .int 0, .ref q34, .int 0, .int 0, .int 0, .int 0, .int 0, .int 0, .long 0, .int 0, .int 0, .ref q43, .int 0, .int 0, .int 0, .int 0, .ref q51, .ref q59, .ref q68, .ref q77, .ref q86, .ref q95, .int 0, .int 0, .int 0, .ref q103, .ref q111, .int 0, .ref q119, .ref q127, .int 0, .int 0, .int 0, .ref q135, .null]), (q8, ia 0 1189 (fun _ => 0)), (q17, ia 0 14268 (fun _ => 0)), (q25, ia 0 32 (fun _ => 0)), (q34, ia 1 800 (fun _ => 0)), (q43, ia 0 320 (fun _ => 0)), (q51, ia 2 41 (fun _ => 0)), (q59, ia 0 41 (fun _ => 0)), (q68, ia 0 1001 (fun _ => 0)), (q77, ia 0 1001 (fun _ => 0)), (q86, ia 0 1001 (fun _ => 0)), (q95, ia 0 1001 (fun _ => 0)), (q103, ia 0 82 (fun _ => 0)), (q111, ia 0 82 (fun _ => 0)), (q119, ia 0 41 (fun _ => 0)), (q127, ia 2 41 (fun _ => 0)), (q135, ia 0 82 (fun _ => 0))] _ := hC
  refine Ev.ald0 dX6_init_140 ?_
  refine Ev.bipush (v := 82) dX6_init_141 (by decide) ?_
  refine Ev.knI (N := 82) dX6_init_143 ac_int (by decide) (by decide) rfl hC (fun q143 W hq143 hC => ?_)
  replace hC : Cw _ [(h, ob 6 [.int 0, .ref q8, .ref q17, .int 0, .ref q25, .int 0, .int 0, .ref q34, .int 0, .int 0, .int 0, .int 0, .int 0, .int 0, .long 0, .int 0, .int 0, .ref q43, .int 0, .int 0, .int 0, .int 0, .ref q51, .ref q59, .ref q68, .ref q77, .ref q86, .ref q95, .int 0, .int 0, .int 0, .ref q103, .ref q111, .int 0, .ref q119, .ref q127, .int 0, .int 0, .int 0, .ref q135, .null]), (q8, ia 0 1189 (fun _ => 0)), (q17, ia 0 14268 (fun _ => 0)), (q25, ia 0 32 (fun _ => 0)), (q34, ia 1 800 (fun _ => 0)), (q43, ia 0 320 (fun _ => 0)), (q51, ia 2 41 (fun _ => 0)), (q59, ia 0 41 (fun _ => 0)), (q68, ia 0 1001 (fun _ => 0)), (q77, ia 0 1001 (fun _ => 0)), (q86, ia 0 1001 (fun _ => 0)), (q95, ia 0 1001 (fun _ => 0)), (q103, ia 0 82 (fun _ => 0)), (q111, ia 0 82 (fun _ => 0)), (q119, ia 0 41 (fun _ => 0)), (q127, ia 2 41 (fun _ => 0)), (q135, ia 0 82 (fun _ => 0)), (q143, ia 0 82 (fun _ => 0))] _ := hC
  refine Ev.kpF (j := 0) dX6_init_145 rfl fX6_64 hC rfl rfl rfl rfl (fun W hC => ?_)
  replace hC : Cw _ [(h, ob 6 [.int 0, .ref q8, .ref q17, .int 0, .ref q25, .int 0, .int 0, .ref q34, .int 0, .int 0, .int 0, .int 0, .int 0, .int 0, .long 0, .int 0, .int 0, .ref q43, .int 0, .int 0, .int 0, .int 0, .ref q51, .ref q59, .ref q68, .ref q77, .ref q86, .ref q95, .int 0, .int 0, .int 0, .ref q103, .ref q111, .int 0, .ref q119, .ref q127, .int 0, .int 0, .int 0, .ref q135, .ref q143]), (q8, ia 0 1189 (fun _ => 0)), (q17, ia 0 14268 (fun _ => 0)), (q25, ia 0 32 (fun _ => 0)), (q34, ia 1 800 (fun _ => 0)), (q43, ia 0 320 (fun _ => 0)), (q51, ia 2 41 (fun _ => 0)), (q59, ia 0 41 (fun _ => 0)), (q68, ia 0 1001 (fun _ => 0)), (q77, ia 0 1001 (fun _ => 0)), (q86, ia 0 1001 (fun _ => 0)), (q95, ia 0 1001 (fun _ => 0)), (q103, ia 0 82 (fun _ => 0)), (q111, ia 0 82 (fun _ => 0)), (q119, ia 0 41 (fun _ => 0)), (q127, ia 2 41 (fun _ => 0)), (q135, ia 0 82 (fun _ => 0)), (q143, ia 0 82 (fun _ => 0))] _ := hC
  have hA : [h, q8, q17, q25, q34, q43, q51, q59, q68, q77, q86, q95, q103, q111, q119, q127, q135, q143].Nodup := hC.1
  have hI : InjM (mkq [h, q8, q17, q25, q34, q43, q51, q59, q68, q77, q86, q95, q103, q111, q119, q127, q135, q143] psM ([h, q8, q17, q25, q34, q43, q51, q59, q68, q77, q86, q95, q103, q111, q119, q127, q135, q143].sum + 1)) := mkq_inj (m := 18) hA sum_lt rfl (by decide) (by decide)
  have hZ : MZ (mkq [h, q8, q17, q25, q34, q43, q51, q59, q68, q77, q86, q95, q103, q111, q119, q127, q135, q143] psM ([h, q8, q17, q25, q34, q43, q51, q59, q68, q77, q86, q95, q103, q111, q119, q127, q135, q143].sum + 1)) M (fun _ => 0) 0 (fun _ _ => 0) W := by
    refine ⟨hI, ⟨hC.at 0 rfl, fun q hq => ?_⟩, hC.2.2⟩
    simp only [mtb, List.mem_cons, List.not_mem_nil, or_false] at hq
    rcases hq with rfl | rfl | rfl | rfl | rfl | rfl | rfl | rfl | rfl | rfl | rfl | rfl | rfl | rfl | rfl | rfl | rfl
    · exact hC.at 1 rfl
    · exact hC.at 2 rfl
    · exact hC.at 3 rfl
    · exact hC.at 4 rfl
    · exact hC.at 5 rfl
    · exact hC.at 6 rfl
    · exact hC.at 7 rfl
    · exact hC.at 8 rfl
    · exact hC.at 9 rfl
    · exact hC.at 10 rfl
    · exact hC.at 11 rfl
    · exact hC.at 12 rfl
    · exact hC.at 13 rfl
    · exact hC.at 14 rfl
    · exact hC.at 15 rfl
    · exact hC.at 16 rfl
    · exact hC.at 17 rfl
  refine Ev.ald0 dX6_init_148 ?_
  refine Ev.cvV (Yc := mX6_begins) (ci := 6) dX6_init_149 lX6_67 vX6_begins rfl (m_begins hZ) ⟨_, hZ.2.1.1⟩ rfl rfl rfl rfl ?_
  rintro M2 hZ2
  refine Ev.vret dX6_init_152 rfl ?_
  refine ⟨rfl, _, _, _, _, hZ2, ?_, rfl, fun i hi h0 => ?_⟩
  · refine ⟨?_, ⟨rfl, fun i q hq => by cases hq⟩, ⟨rfl, fun j hj => absurd hj (Nat.not_lt_zero _)⟩, rfl, rfl, fun j hj => absurd (show j < 4 * min 8 0 from hj) (by simp)⟩
    exact ⟨⟨fun j hj => absurd (show j < 8 * 0 from hj) (by omega), rfl, rfl, rfl, rfl, rfl⟩, fun z => absurd (show b00 329 = 2 from z) (by decide)⟩
  · simp only [usM, List.mem_cons, List.not_mem_nil, or_false] at hi
    rcases hi with rfl | rfl | rfl | rfl | rfl | rfl | rfl | rfl | rfl | rfl | rfl | rfl | rfl | rfl | rfl | rfl | rfl | rfl
    · exact absurd rfl h0
    · exact hq8
    · exact hq17
    · exact hq25
    · exact hq34
    · exact hq43
    · exact hq51
    · exact hq59
    · exact hq68
    · exact hq77
    · exact hq86
    · exact hq95
    · exact hq103
    · exact hq111
    · exact hq119
    · exact hq127
    · exact hq135
    · exact hq143
end MOD
