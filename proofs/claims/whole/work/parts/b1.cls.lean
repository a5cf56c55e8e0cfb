/-! the class: what it asks of numbers -/
section CLS
variable {G : GP} {M : Wd}
set_option maxRecDepth 20000 in
theorem k_within {x lo hi : Int32} : CtI G mX5_within [.int x, .int lo, .int hi] M 0 0 (fun y M' => y = (if lo ≤ x ∧ x ≤ hi then 1 else 0) ∧ M' = M) := by
  refine Ct.of (ls := [some (.int x), some (.int lo), some (.int hi)]) (by decide) (by decide) rfl rfl rfl ?_
  refine Ev.ild0 dX5_within_0 ?_
  refine Ev.ild1 dX5_within_1 ?_
  refine Ev.icmp_lt (tgt := 14) dX5_within_2 (by decide) (fun c2 => ?_) (fun c2 => ?_)
  · refine Ev.iconst (v := 0) dX5_within_14 (by decide) ?_
    refine Ev.iret dX5_within_15 rfl rfl ?_
    exact ⟨_, rfl, by grind, rfl⟩
  · refine Ev.ild0 dX5_within_5 ?_
    refine Ev.ild2 dX5_within_6 ?_
    refine Ev.icmp_gt (tgt := 14) dX5_within_7 (by decide) (fun c7 => ?_) (fun c7 => ?_)
    · refine Ev.iconst (v := 0) dX5_within_14 (by decide) ?_
      refine Ev.iret dX5_within_15 rfl rfl ?_
      exact ⟨_, rfl, by grind, rfl⟩
    · refine Ev.iconst (v := 1) dX5_within_10 (by decide) ?_
      refine Ev.goto (tgt := 15) dX5_within_11 (by decide) ?_
      refine Ev.iret dX5_within_15 rfl rfl ?_
      exact ⟨_, rfl, by grind, rfl⟩
set_option maxRecDepth 20000 in
theorem k_isSide {x : Int32} : CtI G mX5_isSide [.int x] M 0 0 (fun y M' => y = (if x = 0 ∨ x = 1 then 1 else 0) ∧ M' = M) := by
  refine Ct.of (ls := [some (.int x)]) (by decide) (by decide) rfl rfl rfl ?_
  refine Ev.ild0 dX5_isSide_0 ?_
  refine Ev.if_eq (tgt := 9) dX5_isSide_1 (by decide) (fun c1 => ?_) (fun c1 => ?_)
  · refine Ev.iconst (v := 1) dX5_isSide_9 (by decide) ?_
    refine Ev.goto (tgt := 14) dX5_isSide_10 (by decide) ?_
    refine Ev.iret dX5_isSide_14 rfl rfl ?_
    exact ⟨_, rfl, by grind, rfl⟩
  · refine Ev.ild0 dX5_isSide_4 ?_
    refine Ev.iconst (v := 1) dX5_isSide_5 (by decide) ?_
    refine Ev.icmp_ne (tgt := 13) dX5_isSide_6 (by decide) (fun c6 => ?_) (fun c6 => ?_)
    · refine Ev.iconst (v := 0) dX5_isSide_13 (by decide) ?_
      refine Ev.iret dX5_isSide_14 rfl rfl ?_
      exact ⟨_, rfl, by grind, rfl⟩
    · refine Ev.iconst (v := 1) dX5_isSide_9 (by decide) ?_
      refine Ev.goto (tgt := 14) dX5_isSide_10 (by decide) ?_
      refine Ev.iret dX5_isSide_14 rfl rfl ?_
      exact ⟨_, rfl, by grind, rfl⟩
set_option maxRecDepth 20000 in
theorem k_isPrice {x : Int32} : CtI G mX5_isPrice [.int x] M 0 0 (fun y M' => y = (if 1 ≤ x ∧ x ≤ 999 then 1 else 0) ∧ M' = M) := by
  refine Ct.of (ls := [some (.int x)]) (by decide) (by decide) rfl rfl rfl ?_
  refine Ev.ild0 dX5_isPrice_0 ?_
  refine Ev.iconst (v := 1) dX5_isPrice_1 (by decide) ?_
  refine Ev.sipush (v := 999) dX5_isPrice_2 (by decide) ?_
  refine Ev.csI (Yc := mX5_within) dX5_isPrice_5 lX5_76 vX5_within rfl k_within rfl rfl rfl ?_
  rintro y M' ⟨hy, rfl⟩
  have h2 : y = 0 ∨ y = 1 := by rw [hy]; split; exact Or.inr rfl; exact Or.inl rfl
  rcases h2 with e | e
  · subst e
    refine Ev.iret dX5_isPrice_8 rfl rfl ?_
    exact ⟨_, rfl, hy, rfl⟩
  · subst e
    refine Ev.iret dX5_isPrice_8 rfl rfl ?_
    exact ⟨_, rfl, hy, rfl⟩
theorem if1_t {p : Prop} {d : Decidable p} {y : Int32} (h : y = @ite _ p d 1 0) (h2 : ¬ y = 0) : p := v01_t h h2
theorem if1_f {p : Prop} {d : Decidable p} {y : Int32} (h : y = @ite _ p d 1 0) (h2 : y = 0) : ¬ p := v01_f h h2
theorem sd01 {s : Int32} : (s = 0 ∨ s = 1) ↔ (0 ≤ s ∧ s ≤ 1) := by
  constructor
  · rintro (rfl | rfl) <;> decide
  · rintro ⟨h1, h2⟩
    have a1 := Int32.le_iff_toInt_le.mp h1
    have a2 := Int32.le_iff_toInt_le.mp h2
    have e0 : (0 : Int32).toInt = 0 := by decide
    have e1 : (1 : Int32).toInt = 1 := by decide
    have : s.toInt = 0 ∨ s.toInt = 1 := by omega
    rcases this with e | e
    · exact Or.inl (Int32.toInt_inj.mp (by rw [e, e0]))
    · exact Or.inr (Int32.toInt_inj.mp (by rw [e, e1]))
set_option maxRecDepth 20000 in
theorem k_canBe {s k q p : Int32} : CtI G mX5_canBe [.int s, .int k, .int q, .int p] M 0 0 (fun y M' => M' = M ∧ (isT s k q p ∧ y = 1 ∨ ¬ isT s k q p ∧ y = 0)) := by
  refine Ct.of (ls := [some (.int s), some (.int k), some (.int q), some (.int p)]) (by decide) (by decide) rfl rfl rfl ?_
  refine Ev.ild0 dX5_canBe_0 ?_
  refine Ev.csI (Yc := mX5_isSide) dX5_canBe_1 lX5_209 vX5_isSide rfl k_isSide rfl rfl rfl ?_
  rintro y1 M' ⟨h1, rfl⟩
  refine Ev.if_eq (tgt := 42) dX5_canBe_4 (by decide) (fun c4 => ?_) (fun c4 => ?_)
  · refine Ev.iconst (v := 0) dX5_canBe_42 (by decide) ?_
    refine Ev.iret dX5_canBe_43 rfl rfl ?_
    exact ⟨_, rfl, rfl, Or.inr ⟨fun z => if1_f h1 c4 (sd01.mpr z.1), rfl⟩⟩
  · refine Ev.ild1 dX5_canBe_7 ?_
    refine Ev.iconst (v := 0) dX5_canBe_8 (by decide) ?_
    refine Ev.iconst (v := 4) dX5_canBe_9 (by decide) ?_
    refine Ev.csI (Yc := mX5_within) dX5_canBe_10 lX5_76 vX5_within rfl k_within rfl rfl rfl ?_
    rintro y2 M' ⟨h2, rfl⟩
    refine Ev.if_eq (tgt := 42) dX5_canBe_13 (by decide) (fun c13 => ?_) (fun c13 => ?_)
    · refine Ev.iconst (v := 0) dX5_canBe_42 (by decide) ?_
      refine Ev.iret dX5_canBe_43 rfl rfl ?_
      exact ⟨_, rfl, rfl, Or.inr ⟨fun z => if1_f h2 c13 z.2.1, rfl⟩⟩
    · refine Ev.ild2 dX5_canBe_16 ?_
      refine Ev.iconst (v := 1) dX5_canBe_17 (by decide) ?_
      refine Ev.sipush (v := 9999) dX5_canBe_18 (by decide) ?_
      refine Ev.csI (Yc := mX5_within) dX5_canBe_21 lX5_76 vX5_within rfl k_within rfl rfl rfl ?_
      rintro y3 M' ⟨h3, rfl⟩
      refine Ev.if_eq (tgt := 42) dX5_canBe_24 (by decide) (fun c24 => ?_) (fun c24 => ?_)
      · refine Ev.iconst (v := 0) dX5_canBe_42 (by decide) ?_
        refine Ev.iret dX5_canBe_43 rfl rfl ?_
        exact ⟨_, rfl, rfl, Or.inr ⟨fun z => if1_f h3 c24 z.2.2.1, rfl⟩⟩
      · refine Ev.ild1 dX5_canBe_27 ?_
        have g1 := sd01.mp (if1_t h1 c4)
        have g2 := if1_t h2 c13
        have g3 := if1_t h3 c24
        refine Ev.if_eq (tgt := 38) dX5_canBe_28 (by decide) (fun c28 => ?_) (fun c28 => ?_)
        · refine Ev.iconst (v := 1) dX5_canBe_38 (by decide) ?_
          refine Ev.goto (tgt := 43) dX5_canBe_39 (by decide) ?_
          refine Ev.iret dX5_canBe_43 rfl rfl ?_
          exact ⟨_, rfl, rfl, Or.inl ⟨⟨g1, g2, g3, Or.inl c28⟩, rfl⟩⟩
        · refine Ev.ild3 dX5_canBe_31 ?_
          refine Ev.csI (Yc := mX5_isPrice) dX5_canBe_32 lX5_146 vX5_isPrice rfl k_isPrice rfl rfl rfl ?_
          rintro y4 M' ⟨h4, rfl⟩
          refine Ev.if_eq (tgt := 42) dX5_canBe_35 (by decide) (fun c35 => ?_) (fun c35 => ?_)
          · refine Ev.iconst (v := 0) dX5_canBe_42 (by decide) ?_
            refine Ev.iret dX5_canBe_43 rfl rfl ?_
            exact ⟨_, rfl, rfl, Or.inr ⟨fun z => z.2.2.2.elim c28 (if1_f h4 c35), rfl⟩⟩
          · refine Ev.iconst (v := 1) dX5_canBe_38 (by decide) ?_
            refine Ev.goto (tgt := 43) dX5_canBe_39 (by decide) ?_
            refine Ev.iret dX5_canBe_43 rfl rfl ?_
            exact ⟨_, rfl, rfl, Or.inl ⟨⟨g1, g2, g3, Or.inr (if1_t h4 c35)⟩, rfl⟩⟩
end CLS
