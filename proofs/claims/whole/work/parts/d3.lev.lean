/-! level, count -/
section LEV
variable {G : GP} {M : Wd} {q : Nat → Nat} {na : Nat} {S : Sg}
set_option maxRecDepth 20000 in
theorem k_level {s i k : Int32} (hC : CR q na S M) (hS : Sok S) : CtI G mX5_level [.ref (q 0), .int s, .int i, .int k] M 0 0 (fun x M' => x = an_level S s i k ∧ KR q S M M') := by
  have hC0 := hC
  obtain ⟨⟨hj, hna⟩, h0, h1, h2, hA, ⟨f, g, g40, g41, g42, gf, gw⟩, -⟩ := hC
  have hn := hS.1.1.2.1
  have hO := hS.1.1.2.2.1
  have no : ¬ ((0 ≤ s ∧ s ≤ 1) ∧ (0 ≤ k ∧ k ≤ 3)) → Ev G mX5_level 16 [some (.ref (q 0)), some (.int s), some (.int i), some (.int k), none] [] M 0 0 (fun v M' => ∃ x : Int32, v = some (.int x) ∧ x = an_level S s i k ∧ KR q S M M') := by
    intro hno
    refine Ev.iconst (v := -1) dX5_level_16 (by decide) ?_
    refine Ev.iret dX5_level_17 rfl rfl ?_
    rw [an_level, if_neg (fun z => hno ⟨z.1, z.2.2⟩)]
    exact ⟨_, rfl, rfl, q, na, hC0, SQ.rf, Fr.rf⟩
  refine Ct.of (ls := [some (.ref (q 0)), some (.int s), some (.int i), some (.int k), none]) (by decide) (by decide) rfl rfl rfl ?_
  refine Ev.ild1 dX5_level_0 ?_
  refine Ev.csI (Yc := mX5_isSide) dX5_level_1 lX5_209 vX5_isSide rfl k_isSide rfl rfl rfl ?_
  rintro y M' ⟨hy, rfl⟩
  refine Ev.if_eq (tgt := 16) dX5_level_4 (by decide) (fun c4 => ?_) (fun c4 => ?_)
  · exact no (fun z => if1_f hy c4 (sd01.mpr z.1))
  · have t1 := sd01.mp (if1_t hy c4)
    refine Ev.ild3 dX5_level_7 ?_
    refine Ev.iconst (v := 0) dX5_level_8 (by decide) ?_
    refine Ev.iconst (v := 3) dX5_level_9 (by decide) ?_
    refine Ev.csI (Yc := mX5_within) dX5_level_10 lX5_76 vX5_within rfl k_within rfl rfl rfl ?_
    rintro y2 M' ⟨hy2, rfl⟩
    refine Ev.if_ne (tgt := 18) dX5_level_13 (by decide) (fun c13 => ?_) (fun c13 => ?_)
    · have t2 := if1_t hy2 c13
      have hKR : KR q S M' M' := ⟨q, na, hC0, SQ.rf, Fr.rf⟩
      refine Ev.ild2 dX5_level_18 ?_
      refine Ev.iconst (v := -1) dX5_level_19 (by decide) ?_
      refine Ev.icmp_ne (tgt := 32) dX5_level_20 (by decide) (fun c20 => ?_) (fun c20 => ?_)
      · refine Ev.ild2 dX5_level_32 ?_
        refine Ev.iconst (v := 0) dX5_level_33 (by decide) ?_
        refine Ev.bipush (v := 39) dX5_level_34 (by decide) ?_
        refine Ev.csI (Yc := mX5_within) dX5_level_36 lX5_76 vX5_within rfl k_within rfl rfl rfl ?_
        rintro y3 M' ⟨hy3, rfl⟩
        refine Ev.if_ne (tgt := 44) dX5_level_39 (by decide) (fun c39 => ?_) (fun c39 => ?_)
        · have t3 := if1_t hy3 c39
          obtain ⟨j, hj1, rfl⟩ : ∃ j, j ≤ 39 ∧ i = nI j := int_le (c := 39) (by omega) t3.1 t3.2
          obtain ⟨v1, v2, v3⟩ := lvl_at (sd := s) hO (j := j) (by omega)
          have nlt : ¬ nI j < -1 := fun z => absurd (Int32.lt_of_lt_of_le z (by decide)) (Int32.not_lt.mpr t3.1)
          rw [an_level, if_pos ⟨t1, nlt, t2⟩, v1]
          refine Ev.ald0 dX5_level_44 ?_
          apply Ev.getf dX5_level_45 fX5_19
          · repeat (first | assumption | (refine gt_upI ?_; (repeat (first | exact In_of (gt_nw (by assumption)) | (apply In_of; assumption) | refine In_up ?_ | refine In_nw ?_)); done) | refine gt_rd (by first | assumption | (apply Ne.symm; assumption) | (exact hj _ _ (by omega) (by omega) (by omega)) | omega) ?_ | exact gt_nw (by assumption) | refine gt_odr (by first | assumption | (apply Ne.symm; assumption) | omega) ?_)
          · first | rfl | assumption
          refine Ev.ild1 dX5_level_48 ?_
          refine Ev.ild2 dX5_level_49 ?_
          refine Ev.cvI (Yc := mX2_levelPrice) (ci := 2) dX5_level_50 lX5_247 vX2_levelPrice rfl (c_levelPrice j rfl (by omega) g40 g41 (by omega)) ?_ rfl rfl rfl rfl ?_
          · apply Exists.intro; repeat (first | assumption | (refine gt_upI ?_; (repeat (first | exact In_of (gt_nw (by assumption)) | (apply In_of; assumption) | refine In_up ?_ | refine In_nw ?_)); done) | refine gt_rd (by first | assumption | (apply Ne.symm; assumption) | (exact hj _ _ (by omega) (by omega) (by omega)) | omega) ?_ | exact gt_nw (by assumption) | refine gt_odr (by first | assumption | (apply Ne.symm; assumption) | omega) ?_)
          rintro y4 M' ⟨hy4, rfl⟩
          rw [lvp_cm gf] at hy4
          refine Ev.ist4 dX5_level_53 rfl rfl ?_
          refine Ev.ild4 dX5_level_55 ?_
          refine Ev.iconst (v := -1) dX5_level_57 (by decide) ?_
          refine Ev.icmp_eq (tgt := 65) dX5_level_58 (by decide) (fun c58 => ?_) (fun c58 => ?_)
          · refine Ev.ild4 dX5_level_65 ?_
            refine Ev.iret dX5_level_67 rfl rfl ?_
            refine ⟨_, rfl, ?_, hKR⟩
            rw [← hy4, if_pos (Or.inr (Or.inl (by rw [c58]; decide)))]
          · refine Ev.ild3 dX5_level_61 ?_
            have npos : ¬ y4 < 0 := by
              rcases v2 with e | ⟨p, p1, p2, e⟩
              · exact absurd (hy4.trans e) c58
              · rw [hy4, e]
                exact Int32.not_lt.mpr (nI_pos' (by omega))
            refine Ev.if_ne (tgt := 68) dX5_level_62 (by decide) (fun c62 => ?_) (fun c62 => ?_)
            · refine Ev.ald0 dX5_level_68 ?_
              apply Ev.getf dX5_level_69 fX5_19
              · repeat (first | assumption | (refine gt_upI ?_; (repeat (first | exact In_of (gt_nw (by assumption)) | (apply In_of; assumption) | refine In_up ?_ | refine In_nw ?_)); done) | refine gt_rd (by first | assumption | (apply Ne.symm; assumption) | (exact hj _ _ (by omega) (by omega) (by omega)) | omega) ?_ | exact gt_nw (by assumption) | refine gt_odr (by first | assumption | (apply Ne.symm; assumption) | omega) ?_)
              · first | rfl | assumption
              refine Ev.ild1 dX5_level_72 ?_
              refine Ev.ild4 dX5_level_73 ?_
              refine Ev.ild3 dX5_level_75 ?_
              refine Ev.cvI (Yc := mX2_levelSum) (ci := 2) dX5_level_76 lX5_250 vX2_levelSum rfl (c_levelSum g40 g41 (by omega)) ?_ rfl rfl rfl rfl ?_
              · apply Exists.intro; repeat (first | assumption | (refine gt_upI ?_; (repeat (first | exact In_of (gt_nw (by assumption)) | (apply In_of; assumption) | refine In_up ?_ | refine In_nw ?_)); done) | refine gt_rd (by first | assumption | (apply Ne.symm; assumption) | (exact hj _ _ (by omega) (by omega) (by omega)) | omega) ?_ | exact gt_nw (by assumption) | refine gt_odr (by first | assumption | (apply Ne.symm; assumption) | omega) ?_)
              rintro y5 M' ⟨hy5, rfl⟩
              refine Ev.iret dX5_level_79 rfl rfl ?_
              refine ⟨_, rfl, ?_, hKR⟩
              rw [← hy4, if_neg (fun z => by
                rcases z with z | z | z
                · exact c20 z
                · exact npos z
                · exact c62 z), hy5, lsm_cm gf _ (Nat.le_refl _)]
            · have c62' : k = 0 := c62
              refine Ev.ild4 dX5_level_65 ?_
              refine Ev.iret dX5_level_67 rfl rfl ?_
              refine ⟨_, rfl, ?_, hKR⟩
              rw [← hy4, if_pos (Or.inr (Or.inr c62'))]
        · have t3 := if1_f hy3 c39
          refine Ev.iconst (v := -1) dX5_level_42 (by decide) ?_
          refine Ev.iret dX5_level_43 rfl rfl ?_
          refine ⟨_, rfl, ?_, hKR⟩
          by_cases ci : i < -1
          · rw [an_level, if_neg (fun z => z.2.1 ci)]
          · have hi0 : ¬ i < 0 := by
              intro w
              have w1 := Int32.lt_iff_toInt_lt.mp w
              have w2 : ¬ i.toInt < (-1 : Int32).toInt := fun z => ci (Int32.lt_iff_toInt_lt.mpr z)
              have w3 : (-1 : Int32).toInt = -1 := by decide
              have w4 : (0 : Int32).toInt = 0 := by decide
              exact c20 (Int32.toInt_inj.mp (by omega))
            obtain ⟨w, hw, rfl⟩ := nI_of hi0
            have hw40 : 40 ≤ w := by
              by_cases z : 40 ≤ w
              · exact z
              · exact absurd ⟨nI_pos' hw, nI_leI (a := w) (b := 39) (by omega) (by omega) |>.mpr (by omega)⟩ t3
            obtain ⟨v1, v2, v3⟩ := lvl_at (sd := s) hO hw
            rw [an_level, if_pos ⟨t1, ci, t2⟩, v1, v3 (by omega), if_pos (Or.inr (Or.inl (by decide)))]
      · have c20' : i = -1 := c20
        refine Ev.ald0 dX5_level_23 ?_
        apply Ev.getf dX5_level_24 fX5_19
        · repeat (first | assumption | (refine gt_upI ?_; (repeat (first | exact In_of (gt_nw (by assumption)) | (apply In_of; assumption) | refine In_up ?_ | refine In_nw ?_)); done) | refine gt_rd (by first | assumption | (apply Ne.symm; assumption) | (exact hj _ _ (by omega) (by omega) (by omega)) | omega) ?_ | exact gt_nw (by assumption) | refine gt_odr (by first | assumption | (apply Ne.symm; assumption) | omega) ?_)
        · first | rfl | assumption
        refine Ev.ild1 dX5_level_27 ?_
        refine Ev.cvI (Yc := mX2_countLevels) (ci := 2) dX5_level_28 lX5_244 vX2_countLevels rfl (c_countLevels g40 g41 (by omega)) ?_ rfl rfl rfl rfl ?_
        · apply Exists.intro; repeat (first | assumption | (refine gt_upI ?_; (repeat (first | exact In_of (gt_nw (by assumption)) | (apply In_of; assumption) | refine In_up ?_ | refine In_nw ?_)); done) | refine gt_rd (by first | assumption | (apply Ne.symm; assumption) | (exact hj _ _ (by omega) (by omega) (by omega)) | omega) ?_ | exact gt_nw (by assumption) | refine gt_odr (by first | assumption | (apply Ne.symm; assumption) | omega) ?_)
        rintro y3 M' ⟨rfl, c, hc, hc2, hc3, hc4⟩
        refine Ev.iret dX5_level_31 rfl rfl ?_
        refine ⟨_, rfl, ?_, hKR⟩
        rw [an_level, if_pos ⟨t1, by rw [c20']; decide, t2⟩, if_pos (Or.inl c20'), c20', hc]
        refine (lvl_n hO hc2 hn (fun i hi => ?_) ?_).symm
        · rw [← lvp_cm gf]
          exact hc3 i hi
        · rw [← lvp_cm gf]
          exact hc4
    · exact no (fun z => if1_f hy2 c13 z.2)
theorem bso_0 {b : Nat → Int32} (hO : OW b (bn b)) : bso b 0 = (if lvp b (bn b) 0 0 = -1 then 0 else lvp b (bn b) 0 0) ∧ bso b 1 = (if lvp b (bn b) 1 0 = -1 then 1000 else lvp b (bn b) 1 0) := by
  have key : ∀ sd : Int32, bso b sd = (if lvp b (bn b) sd 0 = -1 then (if sd = 0 then 0 else 1000) else lvp b (bn b) sd 0) := by
    intro sd
    obtain ⟨v1, v2, -⟩ := lvl_at (sd := sd) hO (j := 0) (by omega)
    rw [nI_0] at v1
    rw [bso, v1]
    rcases v2 with e | ⟨p, p1, p2, e⟩
    · rw [if_pos e, e, if_neg (by decide)]
    · have hp : (0 : Int32) < nI p := (nI_ltI (a := 0) (b := p) (by omega) (by omega)).mpr (by omega)
      rw [e, if_pos hp, if_neg (nI_n1 (by omega))]
  exact ⟨by rw [key 0]; rfl, by rw [key 1]; rfl⟩
set_option maxRecDepth 20000 in
theorem k_count {k : Int32} (hC : CR q na S M) (hS : Sok S) : CtI G mX5_count [.ref (q 0), .int k] M 0 0 (fun x M' => x = an_count S k ∧ KR q S M M') := by
  have hC0 := hC
  obtain ⟨⟨hj, hna⟩, h0, ⟨⟨e, ht⟩, -⟩, h2, hA, ⟨f, g, g40, g41, g42, gf, gw⟩, -⟩ := hC
  have hn := hS.1.1.2.1
  have hO := hS.1.1.2.2.1
  have e8 : S.1.1 328 = nI (bn S.1.1) := hS.1.1.1
  have hKR : KR q S M M := ⟨q, na, hC0, SQ.rf, Fr.rf⟩
  obtain ⟨o0, o1⟩ := bso_0 hO
  have p0 := (lvl_at (sd := 0) hO (j := 0) (by omega)).2.1
  refine Ct.of (ls := [some (.ref (q 0)), some (.int k)]) (by decide) (by decide) rfl rfl rfl ?_
  refine Ev.ild1 dX5_count_0 ?_
  by_cases c0 : 0 ≤ k ∧ k ≤ 10
  · obtain ⟨j, hj1, rfl⟩ : ∃ j, j ≤ 10 ∧ k = nI j := int_le (c := 10) (by omega) c0.1 c0.2
    have : j = 0 ∨ j = 1 ∨ j = 2 ∨ j = 3 ∨ j = 4 ∨ j = 5 ∨ j = 6 ∨ j = 7 ∨ j = 8 ∨ j = 9 ∨ j = 10 := by omega
    rcases this with rfl | rfl | rfl | rfl | rfl | rfl | rfl | rfl | rfl | rfl | rfl
    · refine Ev.tin (off := 59) (tgt := 60) dX5_count_1 (by decide) (by decide) (by decide) (by decide) ?_
      refine Ev.ald0 dX5_count_60 ?_
      apply Ev.getf dX5_count_61 fX5_19
      · repeat (first | assumption | (refine gt_upI ?_; (repeat (first | exact In_of (gt_nw (by assumption)) | (apply In_of; assumption) | refine In_up ?_ | refine In_nw ?_)); done) | refine gt_rd (by first | assumption | (apply Ne.symm; assumption) | (exact hj _ _ (by omega) (by omega) (by omega)) | omega) ?_ | exact gt_nw (by assumption) | refine gt_odr (by first | assumption | (apply Ne.symm; assumption) | omega) ?_)
      · first | rfl | assumption
      apply Ev.getf dX5_count_64 fX5_71
      · repeat (first | assumption | (refine gt_upI ?_; (repeat (first | exact In_of (gt_nw (by assumption)) | (apply In_of; assumption) | refine In_up ?_ | refine In_nw ?_)); done) | refine gt_rd (by first | assumption | (apply Ne.symm; assumption) | (exact hj _ _ (by omega) (by omega) (by omega)) | omega) ?_ | exact gt_nw (by assumption) | refine gt_odr (by first | assumption | (apply Ne.symm; assumption) | omega) ?_)
      · first | rfl | assumption
      refine Ev.iret dX5_count_67 rfl rfl ?_
      exact ⟨_, rfl, by rw [← e8]; rfl, hKR⟩
    · refine Ev.tin (off := 67) (tgt := 68) dX5_count_1 (by decide) (by decide) (by decide) (by decide) ?_
      refine Ev.ald0 dX5_count_68 ?_
      apply Ev.getf dX5_count_69 fX5_19
      · repeat (first | assumption | (refine gt_upI ?_; (repeat (first | exact In_of (gt_nw (by assumption)) | (apply In_of; assumption) | refine In_up ?_ | refine In_nw ?_)); done) | refine gt_rd (by first | assumption | (apply Ne.symm; assumption) | (exact hj _ _ (by omega) (by omega) (by omega)) | omega) ?_ | exact gt_nw (by assumption) | refine gt_odr (by first | assumption | (apply Ne.symm; assumption) | omega) ?_)
      · first | rfl | assumption
      apply Ev.getf dX5_count_72 fX5_80
      · repeat (first | assumption | (refine gt_upI ?_; (repeat (first | exact In_of (gt_nw (by assumption)) | (apply In_of; assumption) | refine In_up ?_ | refine In_nw ?_)); done) | refine gt_rd (by first | assumption | (apply Ne.symm; assumption) | (exact hj _ _ (by omega) (by omega) (by omega)) | omega) ?_ | exact gt_nw (by assumption) | refine gt_odr (by first | assumption | (apply Ne.symm; assumption) | omega) ?_)
      · first | rfl | assumption
      refine Ev.iret dX5_count_75 rfl rfl ?_
      exact ⟨_, rfl, rfl, hKR⟩
    · refine Ev.tin (off := 75) (tgt := 76) dX5_count_1 (by decide) (by decide) (by decide) (by decide) ?_
      refine Ev.ald0 dX5_count_76 ?_
      apply Ev.getf dX5_count_77 fX5_19
      · repeat (first | assumption | (refine gt_upI ?_; (repeat (first | exact In_of (gt_nw (by assumption)) | (apply In_of; assumption) | refine In_up ?_ | refine In_nw ?_)); done) | refine gt_rd (by first | assumption | (apply Ne.symm; assumption) | (exact hj _ _ (by omega) (by omega) (by omega)) | omega) ?_ | exact gt_nw (by assumption) | refine gt_odr (by first | assumption | (apply Ne.symm; assumption) | omega) ?_)
      · first | rfl | assumption
      apply Ev.getf dX5_count_80 fX5_140
      · repeat (first | assumption | (refine gt_upI ?_; (repeat (first | exact In_of (gt_nw (by assumption)) | (apply In_of; assumption) | refine In_up ?_ | refine In_nw ?_)); done) | refine gt_rd (by first | assumption | (apply Ne.symm; assumption) | (exact hj _ _ (by omega) (by omega) (by omega)) | omega) ?_ | exact gt_nw (by assumption) | refine gt_odr (by first | assumption | (apply Ne.symm; assumption) | omega) ?_)
      · first | rfl | assumption
      refine Ev.iret dX5_count_83 rfl rfl ?_
      exact ⟨_, rfl, rfl, hKR⟩
    · refine Ev.tin (off := 83) (tgt := 84) dX5_count_1 (by decide) (by decide) (by decide) (by decide) ?_
      refine Ev.ald0 dX5_count_84 ?_
      apply Ev.getf dX5_count_85 fX5_19
      · repeat (first | assumption | (refine gt_upI ?_; (repeat (first | exact In_of (gt_nw (by assumption)) | (apply In_of; assumption) | refine In_up ?_ | refine In_nw ?_)); done) | refine gt_rd (by first | assumption | (apply Ne.symm; assumption) | (exact hj _ _ (by omega) (by omega) (by omega)) | omega) ?_ | exact gt_nw (by assumption) | refine gt_odr (by first | assumption | (apply Ne.symm; assumption) | omega) ?_)
      · first | rfl | assumption
      apply Ev.getf dX5_count_88 fX5_149
      · repeat (first | assumption | (refine gt_upI ?_; (repeat (first | exact In_of (gt_nw (by assumption)) | (apply In_of; assumption) | refine In_up ?_ | refine In_nw ?_)); done) | refine gt_rd (by first | assumption | (apply Ne.symm; assumption) | (exact hj _ _ (by omega) (by omega) (by omega)) | omega) ?_ | exact gt_nw (by assumption) | refine gt_odr (by first | assumption | (apply Ne.symm; assumption) | omega) ?_)
      · first | rfl | assumption
      refine Ev.iret dX5_count_91 rfl rfl ?_
      exact ⟨_, rfl, rfl, hKR⟩
    · refine Ev.tin (off := 91) (tgt := 92) dX5_count_1 (by decide) (by decide) (by decide) (by decide) ?_
      refine Ev.ald0 dX5_count_92 ?_
      apply Ev.getf dX5_count_93 fX5_19
      · repeat (first | assumption | (refine gt_upI ?_; (repeat (first | exact In_of (gt_nw (by assumption)) | (apply In_of; assumption) | refine In_up ?_ | refine In_nw ?_)); done) | refine gt_rd (by first | assumption | (apply Ne.symm; assumption) | (exact hj _ _ (by omega) (by omega) (by omega)) | omega) ?_ | exact gt_nw (by assumption) | refine gt_odr (by first | assumption | (apply Ne.symm; assumption) | omega) ?_)
      · first | rfl | assumption
      apply Ev.getf dX5_count_96 fX5_152
      · repeat (first | assumption | (refine gt_upI ?_; (repeat (first | exact In_of (gt_nw (by assumption)) | (apply In_of; assumption) | refine In_up ?_ | refine In_nw ?_)); done) | refine gt_rd (by first | assumption | (apply Ne.symm; assumption) | (exact hj _ _ (by omega) (by omega) (by omega)) | omega) ?_ | exact gt_nw (by assumption) | refine gt_odr (by first | assumption | (apply Ne.symm; assumption) | omega) ?_)
      · first | rfl | assumption
      refine Ev.iret dX5_count_99 rfl rfl ?_
      exact ⟨_, rfl, rfl, hKR⟩
    · refine Ev.tin (off := 99) (tgt := 100) dX5_count_1 (by decide) (by decide) (by decide) (by decide) ?_
      refine Ev.ald0 dX5_count_100 ?_
      apply Ev.getf dX5_count_101 fX5_19
      · repeat (first | assumption | (refine gt_upI ?_; (repeat (first | exact In_of (gt_nw (by assumption)) | (apply In_of; assumption) | refine In_up ?_ | refine In_nw ?_)); done) | refine gt_rd (by first | assumption | (apply Ne.symm; assumption) | (exact hj _ _ (by omega) (by omega) (by omega)) | omega) ?_ | exact gt_nw (by assumption) | refine gt_odr (by first | assumption | (apply Ne.symm; assumption) | omega) ?_)
      · first | rfl | assumption
      refine Ev.cvI (Yc := mX2_countStanding) (ci := 2) dX5_count_104 lX5_277 vX2_countStanding rfl (c_countStanding g40 g41 (by omega)) ?_ rfl rfl rfl rfl ?_
      · apply Exists.intro; repeat (first | assumption | (refine gt_upI ?_; (repeat (first | exact In_of (gt_nw (by assumption)) | (apply In_of; assumption) | refine In_up ?_ | refine In_nw ?_)); done) | refine gt_rd (by first | assumption | (apply Ne.symm; assumption) | (exact hj _ _ (by omega) (by omega) (by omega)) | omega) ?_ | exact gt_nw (by assumption) | refine gt_odr (by first | assumption | (apply Ne.symm; assumption) | omega) ?_)
      rintro y M' ⟨hy, rfl⟩
      refine Ev.iret dX5_count_107 rfl rfl ?_
      exact ⟨_, rfl, by rw [hy, cnS_cm gf _ (Nat.le_refl _)]; rfl, hKR⟩
    · refine Ev.tin (off := 107) (tgt := 108) dX5_count_1 (by decide) (by decide) (by decide) (by decide) ?_
      refine Ev.iconst (v := 0) dX5_count_108 (by decide) ?_
      refine Ev.ald0 dX5_count_109 ?_
      apply Ev.getf dX5_count_110 fX5_19
      · repeat (first | assumption | (refine gt_upI ?_; (repeat (first | exact In_of (gt_nw (by assumption)) | (apply In_of; assumption) | refine In_up ?_ | refine In_nw ?_)); done) | refine gt_rd (by first | assumption | (apply Ne.symm; assumption) | (exact hj _ _ (by omega) (by omega) (by omega)) | omega) ?_ | exact gt_nw (by assumption) | refine gt_odr (by first | assumption | (apply Ne.symm; assumption) | omega) ?_)
      · first | rfl | assumption
      refine Ev.iconst (v := 0) dX5_count_113 (by decide) ?_
      refine Ev.iconst (v := 0) dX5_count_114 (by decide) ?_
      refine Ev.cvI (Yc := mX2_levelPrice) (ci := 2) dX5_count_115 lX5_247 vX2_levelPrice rfl (c_levelPrice 0 rfl (by omega) g40 g41 (by omega)) ?_ rfl rfl rfl rfl ?_
      · apply Exists.intro; repeat (first | assumption | (refine gt_upI ?_; (repeat (first | exact In_of (gt_nw (by assumption)) | (apply In_of; assumption) | refine In_up ?_ | refine In_nw ?_)); done) | refine gt_rd (by first | assumption | (apply Ne.symm; assumption) | (exact hj _ _ (by omega) (by omega) (by omega)) | omega) ?_ | exact gt_nw (by assumption) | refine gt_odr (by first | assumption | (apply Ne.symm; assumption) | omega) ?_)
      rintro y M' ⟨hy, rfl⟩
      rw [lvp_cm gf] at hy
      refine Ev.max dX5_count_118 lX5_281 rfl rfl ?_
      refine Ev.iret dX5_count_121 rfl rfl ?_
      refine ⟨_, rfl, ?_, hKR⟩
      show _ = bso S.1.1 0
      rw [o0]
      rcases p0 with z | ⟨p, p1, p2, z⟩
      · rw [if_pos z, hy, z]
        decide
      · rw [z] at hy
        rw [z, if_neg (nI_n1 (by omega)), hy]
        have : (0 : Int32) ≤ nI p := nI_pos' (by omega)
        first
          | exact if_pos ((nI_ltI (a := 0) (b := p) (by omega) (by omega)).mpr (by omega))
          | exact if_pos this
          | (rw [if_pos this])
          | (rw [if_neg (Int32.not_lt.mpr this)])
          | grind
    · refine Ev.tin (off := 121) (tgt := 122) dX5_count_1 (by decide) (by decide) (by decide) (by decide) ?_
      refine Ev.ald0 dX5_count_122 ?_
      apply Ev.getf dX5_count_123 fX5_19
      · repeat (first | assumption | (refine gt_upI ?_; (repeat (first | exact In_of (gt_nw (by assumption)) | (apply In_of; assumption) | refine In_up ?_ | refine In_nw ?_)); done) | refine gt_rd (by first | assumption | (apply Ne.symm; assumption) | (exact hj _ _ (by omega) (by omega) (by omega)) | omega) ?_ | exact gt_nw (by assumption) | refine gt_odr (by first | assumption | (apply Ne.symm; assumption) | omega) ?_)
      · first | rfl | assumption
      refine Ev.iconst (v := 1) dX5_count_126 (by decide) ?_
      refine Ev.iconst (v := 0) dX5_count_127 (by decide) ?_
      refine Ev.cvI (Yc := mX2_levelPrice) (ci := 2) dX5_count_128 lX5_247 vX2_levelPrice rfl (c_levelPrice 0 rfl (by omega) g40 g41 (by omega)) ?_ rfl rfl rfl rfl ?_
      · apply Exists.intro; repeat (first | assumption | (refine gt_upI ?_; (repeat (first | exact In_of (gt_nw (by assumption)) | (apply In_of; assumption) | refine In_up ?_ | refine In_nw ?_)); done) | refine gt_rd (by first | assumption | (apply Ne.symm; assumption) | (exact hj _ _ (by omega) (by omega) (by omega)) | omega) ?_ | exact gt_nw (by assumption) | refine gt_odr (by first | assumption | (apply Ne.symm; assumption) | omega) ?_)
      rintro y M' ⟨hy, rfl⟩
      rw [lvp_cm gf] at hy
      refine Ev.iconst (v := -1) dX5_count_131 (by decide) ?_
      refine Ev.icmp_ne (tgt := 141) dX5_count_132 (by decide) (fun c132 => ?_) (fun c132 => ?_)
      · refine Ev.ald0 dX5_count_141 ?_
        apply Ev.getf dX5_count_142 fX5_19
        · repeat (first | assumption | (refine gt_upI ?_; (repeat (first | exact In_of (gt_nw (by assumption)) | (apply In_of; assumption) | refine In_up ?_ | refine In_nw ?_)); done) | refine gt_rd (by first | assumption | (apply Ne.symm; assumption) | (exact hj _ _ (by omega) (by omega) (by omega)) | omega) ?_ | exact gt_nw (by assumption) | refine gt_odr (by first | assumption | (apply Ne.symm; assumption) | omega) ?_)
        · first | rfl | assumption
        refine Ev.iconst (v := 1) dX5_count_145 (by decide) ?_
        refine Ev.iconst (v := 0) dX5_count_146 (by decide) ?_
        refine Ev.cvI (Yc := mX2_levelPrice) (ci := 2) dX5_count_147 lX5_247 vX2_levelPrice rfl (c_levelPrice 0 rfl (by omega) g40 g41 (by omega)) ?_ rfl rfl rfl rfl ?_
        · apply Exists.intro; repeat (first | assumption | (refine gt_upI ?_; (repeat (first | exact In_of (gt_nw (by assumption)) | (apply In_of; assumption) | refine In_up ?_ | refine In_nw ?_)); done) | refine gt_rd (by first | assumption | (apply Ne.symm; assumption) | (exact hj _ _ (by omega) (by omega) (by omega)) | omega) ?_ | exact gt_nw (by assumption) | refine gt_odr (by first | assumption | (apply Ne.symm; assumption) | omega) ?_)
        rintro y2 M' ⟨hy2, rfl⟩
        rw [lvp_cm gf] at hy2
        refine Ev.iret dX5_count_150 rfl rfl ?_
        refine ⟨_, rfl, ?_, hKR⟩
        show _ = bso S.1.1 1
        rw [o1, if_neg (by rw [← hy]; exact c132)]
        exact hy2
      · have c132' : y = -1 := c132
        refine Ev.sipush (v := 1000) dX5_count_135 (by decide) ?_
        refine Ev.goto (tgt := 150) dX5_count_138 (by decide) ?_
        refine Ev.iret dX5_count_150 rfl rfl ?_
        refine ⟨_, rfl, ?_, hKR⟩
        show _ = bso S.1.1 1
        rw [o1, if_pos (by rw [← hy]; exact c132')]
    · refine Ev.tin (off := 150) (tgt := 151) dX5_count_1 (by decide) (by decide) (by decide) (by decide) ?_
      refine Ev.ald0 dX5_count_151 ?_
      apply Ev.getf dX5_count_152 fX5_43
      · repeat (first | assumption | (refine gt_upI ?_; (repeat (first | exact In_of (gt_nw (by assumption)) | (apply In_of; assumption) | refine In_up ?_ | refine In_nw ?_)); done) | refine gt_rd (by first | assumption | (apply Ne.symm; assumption) | (exact hj _ _ (by omega) (by omega) (by omega)) | omega) ?_ | exact gt_nw (by assumption) | refine gt_odr (by first | assumption | (apply Ne.symm; assumption) | omega) ?_)
      · first | rfl | assumption
      refine Ev.iret dX5_count_155 rfl rfl ?_
      exact ⟨_, rfl, rfl, hKR⟩
    · refine Ev.tin (off := 155) (tgt := 156) dX5_count_1 (by decide) (by decide) (by decide) (by decide) ?_
      refine Ev.ald0 dX5_count_156 ?_
      apply Ev.getf dX5_count_157 fX5_12
      · repeat (first | assumption | (refine gt_upI ?_; (repeat (first | exact In_of (gt_nw (by assumption)) | (apply In_of; assumption) | refine In_up ?_ | refine In_nw ?_)); done) | refine gt_rd (by first | assumption | (apply Ne.symm; assumption) | (exact hj _ _ (by omega) (by omega) (by omega)) | omega) ?_ | exact gt_nw (by assumption) | refine gt_odr (by first | assumption | (apply Ne.symm; assumption) | omega) ?_)
      · first | rfl | assumption
      apply Ev.getf dX5_count_160 fX5_61
      · repeat (first | assumption | (refine gt_upI ?_; (repeat (first | exact In_of (gt_nw (by assumption)) | (apply In_of; assumption) | refine In_up ?_ | refine In_nw ?_)); done) | refine gt_rd (by first | assumption | (apply Ne.symm; assumption) | (exact hj _ _ (by omega) (by omega) (by omega)) | omega) ?_ | exact gt_nw (by assumption) | refine gt_odr (by first | assumption | (apply Ne.symm; assumption) | omega) ?_)
      · first | rfl | assumption
      refine Ev.iret dX5_count_163 rfl rfl ?_
      exact ⟨_, rfl, rfl, hKR⟩
    · refine Ev.tin (off := 163) (tgt := 164) dX5_count_1 (by decide) (by decide) (by decide) (by decide) ?_
      refine Ev.ald0 dX5_count_164 ?_
      apply Ev.getf dX5_count_165 fX5_50
      · repeat (first | assumption | (refine gt_upI ?_; (repeat (first | exact In_of (gt_nw (by assumption)) | (apply In_of; assumption) | refine In_up ?_ | refine In_nw ?_)); done) | refine gt_rd (by first | assumption | (apply Ne.symm; assumption) | (exact hj _ _ (by omega) (by omega) (by omega)) | omega) ?_ | exact gt_nw (by assumption) | refine gt_odr (by first | assumption | (apply Ne.symm; assumption) | omega) ?_)
      · first | rfl | assumption
      refine Ev.iret dX5_count_168 rfl rfl ?_
      exact ⟨_, rfl, rfl, hKR⟩
  · have c0' : k.toInt < 0 ∨ 10 < k.toInt := by
      by_cases z : k.toInt < 0
      · exact Or.inl z
      · by_cases z2 : 10 < k.toInt
        · exact Or.inr z2
        · exact absurd ⟨Int32.le_iff_toInt_le.mpr (by rw [show (0 : Int32).toInt = 0 by decide]; omega), Int32.le_iff_toInt_le.mpr (by rw [show (10 : Int32).toInt = 10 by decide]; omega)⟩ c0
    have ne : ∀ j : Int32, 0 ≤ j ∧ j ≤ 10 → ¬ k = j := fun j hj z => c0 (z ▸ hj)
    refine Ev.tout (tgt := 169) dX5_count_1 c0' (by decide) ?_
    refine Ev.iconst (v := -1) dX5_count_169 (by decide) ?_
    refine Ev.iret dX5_count_170 rfl rfl ?_
    refine ⟨_, rfl, ?_, hKR⟩
    rw [an_count, if_neg (ne 0 (by decide)), if_neg (ne 1 (by decide)), if_neg (ne 2 (by decide)), if_neg (ne 3 (by decide)), if_neg (ne 4 (by decide)), if_neg (ne 5 (by decide)), if_neg (ne 6 (by decide)), if_neg (ne 7 (by decide)), if_neg (ne 8 (by decide)), if_neg (ne 9 (by decide)), if_neg (ne 10 (by decide))]
end LEV
