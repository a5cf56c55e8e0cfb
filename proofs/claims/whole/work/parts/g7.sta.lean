/-! the law from its start -/
theorem inv_00 : Inv S00 0 := by
  have h0 : BW 40 b00 := ⟨rfl, by decide, (fun k hk => absurd (show k < 0 from hk) (Nat.not_lt_zero k)), rfl, rfl, by decide, by decide, by decide, 100, by decide, by decide, rfl⟩
  have h1 : Bok S00.1 := ⟨h0, Or.inl rfl, (fun z => absurd (show (0 : Int32) = 2 from z) (by decide))⟩
  exact ⟨⟨h1, (fun q hq => by cases hq), by decide, by decide⟩, (fun j hj => by cases hj), ⟨(fun z => absurd (show (0 : Int32) = 2 from z) (by decide)), (fun q hq => by cases hq)⟩, Nat.le_refl _⟩
theorem mkq_mem {A : List Nat} {ps : List (Option Nat)} {B n m : Nat} (hm : A.length = m) (h1 : ∀ i, i < n → (ps.getD i none).getD 0 < m) {i : Nat} (hi : i < n) : mkq A ps B i ∈ A ∨ B ≤ mkq A ps B i := by
  rw [mkq]
  have := h1 i hi
  cases c : ps.getD i none with
  | none => exact Or.inr (Nat.le_add_right _ _)
  | some p =>
    rw [c] at this
    have hp : p < A.length := by rw [hm]; exact this
    left
    show A.getD p 0 ∈ A
    rw [List.getD_eq_getElem?_getD, List.getElem?_eq_getElem hp]
    exact List.getElem_mem hp
section STA
variable {G : GP} {Q : Option Value → Wd → Prop}
/-- what holds behind both constructors -/
theorem li_start {A : List Nat} {a : Nat → Nat} {v : Nat → Int32} {L : Int64} {X : Nat → Nat → Int32} {M2 M4 : Wd} {hx hm o : Nat} {e : En} (A0 : A.getD 0 0 = hx) (A1 : A.length = 61) (A5 : ∀ x ∈ A, ∃ e, gt M2 x = some e) (A6 : ∀ B, (∀ x ∈ A, x < B) → CR (mkq A psQ B) 0 S00 M2) (hhm : gt M2 hm = none) (hZ : MZ a (M2 ++ [(hm, e)]) v L X M4) (hR : MR v X S00) (ha0 : a 0 = hm) (haf : ∀ i ∈ usM, i ≠ 0 → gt (M2 ++ [(hm, e)]) (a i) = none) (ho : gt M4 o = none) : ∃ q : Nat → Nat, q 0 = hx ∧ LI q 0 a o S00 S00 0 (M4 ++ [(o, la 1 (fun _ => 0))]) := by
  obtain ⟨B, hB⟩ : ∃ B, B = (A ++ mdl a ++ [o]).sum + 1 := ⟨_, rfl⟩
  have lt : ∀ x ∈ A ++ mdl a ++ [o], x < B := by rw [hB]; exact sum_lt
  have hmd : ∀ x ∈ mdl a, gt M2 x = none := fun x hx => by
    have : ∃ i, i ∈ usM ∧ x = a i := by
      simp only [List.mem_cons, List.not_mem_nil, or_false] at hx
      rcases hx with rfl | rfl | rfl | rfl | rfl | rfl | rfl | rfl | rfl | rfl | rfl | rfl | rfl | rfl | rfl | rfl | rfl | rfl <;> exact ⟨_, by decide, rfl⟩
    obtain ⟨i, i1, rfl⟩ := this
    by_cases c : i = 0
    · rw [c, ha0]; exact hhm
    · have h3 := haf i i1 c
      cases h4 : gt M2 (a i) with
      | none => rfl
      | some x =>
        have : gt (M2 ++ [(hm, e)]) (a i) = some x := gt_odr (fun z => by rw [z, hhm] at h4; cases h4) h4
        rw [h3] at this
        cases this
  have step : ∀ x e9, gt M2 x = some e9 → gt M4 x = some e9 := fun x e9 h9 => hZ.2.2 x (fun z => by rw [hmd x z] at h9; cases h9) e9 (gt_odr (fun z => by rw [z, hhm] at h9; cases h9) h9)
  have step5 : ∀ x e9, gt M4 x = some e9 → gt (M4 ++ [(o, la 1 (fun _ => 0))]) x = some e9 := fun x e9 h9 => gt_odr (fun z => by rw [z, ho] at h9; cases h9) h9
  have hq : ∀ x, x ∈ qfr (mkq A psQ B) → x ∈ A ∨ B ≤ x := fun x hx => by
    obtain ⟨i, i1, rfl⟩ := List.mem_map.mp hx
    exact mkq_mem (n := 82) A1 (by decide) (List.mem_range.mp i1)
  have hcell : ∀ x ∈ mdl a, ∃ e9, gt M4 x = some e9 := fun x hx => by
    have hX := hZ.2.1
    simp only [List.mem_cons, List.not_mem_nil, or_false] at hx
    rcases hx with rfl | rfl | rfl | rfl | rfl | rfl | rfl | rfl | rfl | rfl | rfl | rfl | rfl | rfl | rfl | rfl | rfl | rfl
    · exact ⟨_, hX.1⟩
    · exact ⟨_, hX.2 (1, 0, 1189) (by decide)⟩
    · exact ⟨_, hX.2 (2, 0, 14268) (by decide)⟩
    · exact ⟨_, hX.2 (4, 0, 32) (by decide)⟩
    · exact ⟨_, hX.2 (7, 1, 800) (by decide)⟩
    · exact ⟨_, hX.2 (17, 0, 320) (by decide)⟩
    · exact ⟨_, hX.2 (22, 2, 41) (by decide)⟩
    · exact ⟨_, hX.2 (23, 0, 41) (by decide)⟩
    · exact ⟨_, hX.2 (24, 0, 1001) (by decide)⟩
    · exact ⟨_, hX.2 (25, 0, 1001) (by decide)⟩
    · exact ⟨_, hX.2 (26, 0, 1001) (by decide)⟩
    · exact ⟨_, hX.2 (27, 0, 1001) (by decide)⟩
    · exact ⟨_, hX.2 (31, 0, 82) (by decide)⟩
    · exact ⟨_, hX.2 (32, 0, 82) (by decide)⟩
    · exact ⟨_, hX.2 (34, 0, 41) (by decide)⟩
    · exact ⟨_, hX.2 (35, 2, 41) (by decide)⟩
    · exact ⟨_, hX.2 (39, 0, 82) (by decide)⟩
    · exact ⟨_, hX.2 (40, 0, 82) (by decide)⟩
  refine ⟨mkq A psQ B, A0, (A6 B (fun x hx => lt x (by simp [hx]))).mn (fun i _ e9 h9 => step5 _ _ (step _ _ h9)), ⟨v, L, X, hZ.1, hZ.2.1.mn (fun x _ e9 h9 => step5 x e9 h9), hR⟩, inv_00, ⟨_, gt_nw ho⟩, fun z => ?_, fun z => ?_, fun x hx z => ?_⟩
  · rcases hq o z with h | h
    · obtain ⟨e9, h9⟩ := A5 o h
      have := step _ _ h9
      rw [ho] at this
      cases this
    · have := lt o (by simp)
      omega
  · obtain ⟨e9, h9⟩ := hcell o z
    rw [ho] at h9
    cases h9
  · rcases hq x z with h | h
    · obtain ⟨e9, h9⟩ := A5 x h
      rw [hmd x hx] at h9
      cases h9
    · have := lt x (by simp only [List.mem_append]; exact Or.inl (Or.inr hx))
      omega
set_option maxRecDepth 20000 in
theorem lw_st (hst : G.1.stackTraces = false) (hL : gL G ≤ 4096) (hQ : ∀ M', Q (some (.int 1)) M') : Ev G mL_law 0 [some (.ref (gb G)), none, none, none, none, none, none] [] [] 293456 1792176 Q := by
  refine Ev.new dL_law_0 nL_8 (fun hx hhx => ?_)
  refine Ev.dup dL_law_3 rfl ?_
  refine Ev.cn (Yc := mX5_init) (n := 0) dL_law_4 lL_25 vX5_init rfl rfl (i_X5 (G := G) (gt_nw hhx)) rfl rfl rfl (by omega) (by omega) ?_
  rintro u9 M2 ⟨rfl, A, A0, A1, A2, A3, A5, A4, A6⟩
  refine Ev.ast1 dL_law_7 rfl rfl ?_
  refine Ev.new dL_law_8 nL_26 (fun hm hhm => ?_)
  refine Ev.dup dL_law_11 rfl ?_
  refine Ev.cn (Yc := mX6_init) (n := 0) dL_law_12 lL_28 vX6_init rfl rfl (i_X6 (G := G) (gt_nw hhm)) rfl rfl rfl (by omega) (by omega) ?_
  rintro u9 M4 ⟨rfl, a, v, L, X, hZ, hR, ha0, haf⟩
  refine Ev.ast2 dL_law_15 rfl rfl ?_
  refine Ev.iconst (v := 1) dL_law_16 (by decide) ?_
  refine Ev.newl (N := 1) dL_law_17 ac_long (by decide) (by decide) rfl (fun o ho => ?_)
  refine Ev.ast3 dL_law_19 rfl rfl ?_
  refine Ev.iconst (v := 0) dL_law_20 (by decide) ?_
  refine Ev.ist4 dL_law_21 rfl rfl ?_
  obtain ⟨q, q0, hI⟩ := li_start A0 A1 A5 A6 hhm hZ hR ha0 haf ho
  have := lw_lp (G := G) (Q := Q) (a := a) (o := o) hst hL hQ 512 0 0 q 0 S00 _ (by omega) (by omega) (by omega) hI
  rw [q0, ha0] at this
  exact this.more (by omega) (by omega)
end STA
