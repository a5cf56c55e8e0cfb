section AUG
variable {G : GP} {M0 M : Wd} {ad : Nat → Nat} {so po : Nat → Option Nat} {z r w : Nat} {cn : Nat → Int32} {ph i1 i2 i3 : Int32} {K : K9} {D : R5}
set_option maxRecDepth 20000 in
theorem a_rounds {x : Int32} (hj : Inj ad) (hO : KO so po ad z cn K) (hK : RK ad so po z r w ph cn K M0) : ∀ (e m : Nat) (a2 : Option Value) (D : R5) (M : Wd), m + e = K.2.2.2.1 + 2 → 1 ≤ m → RP ad (nI m) (nI (m - 1)) i3 (nI K.2.2.1) D M → Fr (rfr ad) M0 M →
    Ev G mX0_run 53 [some (.ref (ad 3)), some (.int x), a2] [] M 0 0 (fun v M' => v = none ∧ RP ad (nI (rlp K e m D).1) (nI ((rlp K e m D).1 - 1)) i3 (nI K.2.2.1) (rlp K e m D).2 M' ∧ Fr (rfr ad) M0 M') := by
  intro e
  have hn := hO.2.2.2.2.2.2.2.2.1
  induction e with
  | zero =>
    intro m a2 D M hm h1 hP hF
    obtain ⟨k8, k9, k10, k11, k13, k14, k15, k16⟩ := hK.fr hj hF
    obtain ⟨t, ov, hp, vo, re, h3, h0⟩ := hP
    refine Ev.ald0 dX0_run_53 ?_
    apply Ev.getf dX0_run_54 fX0_29
    · repeat (first | assumption | (refine gt_upI ?_; (repeat (first | refine In_up ?_ | refine In_nw ?_)); apply In_of; assumption) | refine gt_rd (by first | assumption | (apply Ne.symm; assumption) | (exact hj _ _ (by omega) (by omega) (by omega)) | omega) ?_ | exact gt_nw (by assumption) | refine gt_odr (by first | assumption | (apply Ne.symm; assumption) | omega) ?_)
    · first | rfl | assumption
    refine Ev.ald0 dX0_run_57 ?_
    apply Ev.getf dX0_run_58 fX0_62
    · repeat (first | assumption | (refine gt_upI ?_; (repeat (first | refine In_up ?_ | refine In_nw ?_)); apply In_of; assumption) | refine gt_rd (by first | assumption | (apply Ne.symm; assumption) | (exact hj _ _ (by omega) (by omega) (by omega)) | omega) ?_ | exact gt_nw (by assumption) | refine gt_odr (by first | assumption | (apply Ne.symm; assumption) | omega) ?_)
    · first | rfl | assumption
    apply Ev.getf dX0_run_61 fX0_72
    · repeat (first | assumption | (refine gt_upI ?_; (repeat (first | refine In_up ?_ | refine In_nw ?_)); apply In_of; assumption) | refine gt_rd (by first | assumption | (apply Ne.symm; assumption) | (exact hj _ _ (by omega) (by omega) (by omega)) | omega) ?_ | exact gt_nw (by assumption) | refine gt_odr (by first | assumption | (apply Ne.symm; assumption) | omega) ?_)
    · first | rfl | assumption
    refine Ev.iconst (v := 1) dX0_run_64 (by decide) ?_
    refine Ev.iadd dX0_run_65 ?_
    rw [show nI K.2.2.2.1 + 1 = nI (K.2.2.2.1 + 1) from nI_1 _]
    refine Ev.icmp_gt (tgt := 132) dX0_run_66 (by decide) (fun c9 => ?_) (fun c9 => absurd (nI_lt (by omega) (by omega)) c9)
    refine Ev.vret dX0_run_132 rfl ?_
    exact ⟨rfl, ⟨t, ov, hp, vo, re, h3, h0⟩, hF⟩
  | succ e ih =>
    intro m a2 D M hm h1 hP hF
    have hP0 := hP
    obtain ⟨k8, k9, k10, k11, k13, k14, k15, k16⟩ := hK.fr hj hF
    obtain ⟨t, ov, hp, vo, re, h3, h0, -⟩ := hP
    refine Ev.ald0 dX0_run_53 ?_
    apply Ev.getf dX0_run_54 fX0_29
    · repeat (first | assumption | (refine gt_upI ?_; (repeat (first | refine In_up ?_ | refine In_nw ?_)); apply In_of; assumption) | refine gt_rd (by first | assumption | (apply Ne.symm; assumption) | (exact hj _ _ (by omega) (by omega) (by omega)) | omega) ?_ | exact gt_nw (by assumption) | refine gt_odr (by first | assumption | (apply Ne.symm; assumption) | omega) ?_)
    · first | rfl | assumption
    refine Ev.ald0 dX0_run_57 ?_
    apply Ev.getf dX0_run_58 fX0_62
    · repeat (first | assumption | (refine gt_upI ?_; (repeat (first | refine In_up ?_ | refine In_nw ?_)); apply In_of; assumption) | refine gt_rd (by first | assumption | (apply Ne.symm; assumption) | (exact hj _ _ (by omega) (by omega) (by omega)) | omega) ?_ | exact gt_nw (by assumption) | refine gt_odr (by first | assumption | (apply Ne.symm; assumption) | omega) ?_)
    · first | rfl | assumption
    apply Ev.getf dX0_run_61 fX0_72
    · repeat (first | assumption | (refine gt_upI ?_; (repeat (first | refine In_up ?_ | refine In_nw ?_)); apply In_of; assumption) | refine gt_rd (by first | assumption | (apply Ne.symm; assumption) | (exact hj _ _ (by omega) (by omega) (by omega)) | omega) ?_ | exact gt_nw (by assumption) | refine gt_odr (by first | assumption | (apply Ne.symm; assumption) | omega) ?_)
    · first | rfl | assumption
    refine Ev.iconst (v := 1) dX0_run_64 (by decide) ?_
    refine Ev.iadd dX0_run_65 ?_
    rw [show nI K.2.2.2.1 + 1 = nI (K.2.2.2.1 + 1) from nI_1 _]
    refine Ev.icmp_gt (tgt := 132) dX0_run_66 (by decide) (fun c9 => absurd c9 (nI_nlt (by omega) (by omega))) (fun c9 => ?_)
    refine a_round hj hO hK hP0 hF ?_
    rintro M1 hP1 hF1
    have hP2 := hP1
    obtain ⟨t1, ov1, hp1, vo1, re1, g3, g0, g1, g2, g7, g17, g18⟩ := hP1
    refine Ev.ist2 dX0_run_95 rfl rfl ?_
    refine Ev.ild2 dX0_run_96 ?_
    refine Ev.iconst (v := -1) dX0_run_97 (by decide) ?_
    refine Ev.icmp_ne (tgt := 102) dX0_run_98 (by decide) (fun c98 => ?_) (fun c98 => ?_)
    · rcases lus_in K.1 (rd1 K D).2.2.1 K.2.2.2.1 with hl | ⟨o, ho, hl, -⟩
      · exact absurd hl c98
      · have eo := nI_clamp (n := o) (by omega)
        have b : vp_in (lus K.1 (rd1 K D).2.2.1 K.2.2.2.1) 41 := by rw [hl]; exact vp_in_nI (by omega) (by omega)
        rw [rlp, if_neg c98]
        refine Ev.ald0 dX0_run_102 ?_
        apply Ev.getf dX0_run_103 fX0_42
        · repeat (first | assumption | (refine gt_upI ?_; (repeat (first | refine In_up ?_ | refine In_nw ?_)); apply In_of; assumption) | refine gt_rd (by first | assumption | (apply Ne.symm; assumption) | (exact hj _ _ (by omega) (by omega) (by omega)) | omega) ?_ | exact gt_nw (by assumption) | refine gt_odr (by first | assumption | (apply Ne.symm; assumption) | omega) ?_)
        · first | rfl | assumption
        refine Ev.ild2 dX0_run_106 ?_
        refine Ev.iconst (v := 2) dX0_run_107 (by decide) ?_
        apply Ev.iast dX0_run_108
        · repeat (first | assumption | (refine gt_upI ?_; (repeat (first | refine In_up ?_ | refine In_nw ?_)); apply In_of; assumption) | refine gt_rd (by first | assumption | (apply Ne.symm; assumption) | (exact hj _ _ (by omega) (by omega) (by omega)) | omega) ?_ | exact gt_nw (by assumption) | refine gt_odr (by first | assumption | (apply Ne.symm; assumption) | omega) ?_)
        · assumption
        refine Ev.ald0 dX0_run_109 ?_
        refine Ev.dup dX0_run_110 rfl ?_
        apply Ev.getf dX0_run_111 fX0_33
        · repeat (first | assumption | (refine gt_upI ?_; (repeat (first | refine In_up ?_ | refine In_nw ?_)); apply In_of; assumption) | refine gt_rd (by first | assumption | (apply Ne.symm; assumption) | (exact hj _ _ (by omega) (by omega) (by omega)) | omega) ?_ | exact gt_nw (by assumption) | refine gt_odr (by first | assumption | (apply Ne.symm; assumption) | omega) ?_)
        · first | rfl | assumption
        refine Ev.iconst (v := 1) dX0_run_114 (by decide) ?_
        refine Ev.iadd dX0_run_115 ?_
        apply Ev.put dX0_run_116 fX0_33
        · repeat (first | assumption | (refine gt_upI ?_; (repeat (first | refine In_up ?_ | refine In_nw ?_)); apply In_of; assumption) | refine gt_rd (by first | assumption | (apply Ne.symm; assumption) | (exact hj _ _ (by omega) (by omega) (by omega)) | omega) ?_ | exact gt_nw (by assumption) | refine gt_odr (by first | assumption | (apply Ne.symm; assumption) | omega) ?_)
        · rfl
        · rfl
        · rfl
        refine Ev.ald0 dX0_run_119 ?_
        refine Ev.dup dX0_run_120 rfl ?_
        apply Ev.getf dX0_run_121 fX0_29
        · repeat (first | assumption | (refine gt_upI ?_; (repeat (first | refine In_up ?_ | refine In_nw ?_)); apply In_of; assumption) | refine gt_rd (by first | assumption | (apply Ne.symm; assumption) | (exact hj _ _ (by omega) (by omega) (by omega)) | omega) ?_ | exact gt_nw (by assumption) | refine gt_odr (by first | assumption | (apply Ne.symm; assumption) | omega) ?_)
        · first | rfl | assumption
        refine Ev.iconst (v := 1) dX0_run_124 (by decide) ?_
        refine Ev.iadd dX0_run_125 ?_
        apply Ev.put dX0_run_126 fX0_29
        · repeat (first | assumption | (refine gt_upI ?_; (repeat (first | refine In_up ?_ | refine In_nw ?_)); apply In_of; assumption) | refine gt_rd (by first | assumption | (apply Ne.symm; assumption) | (exact hj _ _ (by omega) (by omega) (by omega)) | omega) ?_ | exact gt_nw (by assumption) | refine gt_odr (by first | assumption | (apply Ne.symm; assumption) | omega) ?_)
        · rfl
        · rfl
        · rfl
        refine Ev.goto (tgt := 53) dX0_run_129 (by decide) ?_
        refine ih (m + 1) _ _ _ (by omega) (by omega) ⟨t1, ov1, hp1, vo1, re1, ?_, (by repeat (first | assumption | (refine gt_upI ?_; (repeat (first | refine In_up ?_ | refine In_nw ?_)); apply In_of; assumption) | refine gt_rd (by first | assumption | (apply Ne.symm; assumption) | (exact hj _ _ (by omega) (by omega) (by omega)) | omega) ?_ | exact gt_nw (by assumption) | refine gt_odr (by first | assumption | (apply Ne.symm; assumption) | omega) ?_)), (by repeat (first | assumption | (refine gt_upI ?_; (repeat (first | refine In_up ?_ | refine In_nw ?_)); apply In_of; assumption) | refine gt_rd (by first | assumption | (apply Ne.symm; assumption) | (exact hj _ _ (by omega) (by omega) (by omega)) | omega) ?_ | exact gt_nw (by assumption) | refine gt_odr (by first | assumption | (apply Ne.symm; assumption) | omega) ?_)), (by repeat (first | assumption | (refine gt_upI ?_; (repeat (first | refine In_up ?_ | refine In_nw ?_)); apply In_of; assumption) | refine gt_rd (by first | assumption | (apply Ne.symm; assumption) | (exact hj _ _ (by omega) (by omega) (by omega)) | omega) ?_ | exact gt_nw (by assumption) | refine gt_odr (by first | assumption | (apply Ne.symm; assumption) | omega) ?_)), ?_, (by repeat (first | assumption | (refine gt_upI ?_; (repeat (first | refine In_up ?_ | refine In_nw ?_)); apply In_of; assumption) | refine gt_rd (by first | assumption | (apply Ne.symm; assumption) | (exact hj _ _ (by omega) (by omega) (by omega)) | omega) ?_ | exact gt_nw (by assumption) | refine gt_odr (by first | assumption | (apply Ne.symm; assumption) | omega) ?_)), (by repeat (first | assumption | (refine gt_upI ?_; (repeat (first | refine In_up ?_ | refine In_nw ?_)); apply In_of; assumption) | refine gt_rd (by first | assumption | (apply Ne.symm; assumption) | (exact hj _ _ (by omega) (by omega) (by omega)) | omega) ?_ | exact gt_nw (by assumption) | refine gt_odr (by first | assumption | (apply Ne.symm; assumption) | omega) ?_))⟩ (((hF1.pt (by simp [rfr])).pt (by simp [rfr])).pt (by simp [rfr]))
        · rw [gt_upI (by (repeat (first | refine In_up ?_ | refine In_nw ?_)); apply In_of; assumption)]
          show some (ob 0 [_, _, _, .int (nI m + 1), .int (nI (m - 1) + 1), _, _, _, _, _, _, _, _, _, _]) = _
          rw [nI_1, nI_1, show m - 1 + 1 = m + 1 - 1 by omega]
        · exact (by repeat (first | assumption | (refine gt_upI ?_; (repeat (first | refine In_up ?_ | refine In_nw ?_)); apply In_of; assumption) | refine gt_rd (by first | assumption | (apply Ne.symm; assumption) | (exact hj _ _ (by omega) (by omega) (by omega)) | omega) ?_ | exact gt_nw (by assumption) | refine gt_odr (by first | assumption | (apply Ne.symm; assumption) | omega) ?_))
    · refine Ev.vret dX0_run_101 rfl ?_
      rw [rlp, if_pos c98]
      exact ⟨rfl, hP2, hF1⟩
set_option maxRecDepth 20000 in
/-- run: all rounds, one order aside -/
theorem a_run {x : Int32} (hj : Inj ad) (hO : KO so po ad z cn K) (hK : RK ad so po z r w ph cn K M) (hP : RP ad i1 i2 i3 (nI K.2.2.1) D M) : CtV G mX0_run [.ref (ad 3), .int x] M 0 0 (fun M' => RP ad (nI (rlp K (K.2.2.2.1 + 1) 1 (st0 K.1 x D.1 K.2.2.2.1, D.2)).1) (nI ((rlp K (K.2.2.2.1 + 1) 1 (st0 K.1 x D.1 K.2.2.2.1, D.2)).1 - 1)) i3 (nI K.2.2.1) (rlp K (K.2.2.2.1 + 1) 1 (st0 K.1 x D.1 K.2.2.2.1, D.2)).2 M' ∧ Fr (rfr ad) M M') := by
  have hn := hO.2.2.2.2.2.2.2.2.1
  have hz := hO.2.2.2.2.2.2.2.2.2.1
  have hz2 := hO.2.2.2.2.2.2.2.2.2.2.1
  have hK0 := hK
  obtain ⟨k8, k9, k10, k11, k13, k14, k15, k16⟩ := hK
  obtain ⟨t, ov, hp, vo, re, h3, h0, h1, h2, h7, h17, h18⟩ := hP
  have L : ∀ d k, k + d = K.2.2.2.1 → Ev G mX0_run 2 [some (.ref (ad 3)), some (.int x), some (.int (nI k))] [] (up M (ad 7) (ia 0 41 (st0 K.1 x D.1 k))) 0 0 (fun v M' => v = none ∧ RP ad (nI (rlp K (K.2.2.2.1 + 1) 1 (st0 K.1 x D.1 K.2.2.2.1, D.2)).1) (nI ((rlp K (K.2.2.2.1 + 1) 1 (st0 K.1 x D.1 K.2.2.2.1, D.2)).1 - 1)) i3 (nI K.2.2.1) (rlp K (K.2.2.2.1 + 1) 1 (st0 K.1 x D.1 K.2.2.2.1, D.2)).2 M' ∧ Fr (rfr ad) M M') := by
    intro d
    induction d with
    | zero =>
      intro k hk
      refine Ev.ild2 dX0_run_2 ?_
      refine Ev.ald0 dX0_run_3 ?_
      apply Ev.getf dX0_run_4 fX0_62
      · repeat (first | assumption | (refine gt_upI ?_; (repeat (first | refine In_up ?_ | refine In_nw ?_)); apply In_of; assumption) | refine gt_rd (by first | assumption | (apply Ne.symm; assumption) | (exact hj _ _ (by omega) (by omega) (by omega)) | omega) ?_ | exact gt_nw (by assumption) | refine gt_odr (by first | assumption | (apply Ne.symm; assumption) | omega) ?_)
      · first | rfl | assumption
      apply Ev.getf dX0_run_7 fX0_72
      · repeat (first | assumption | (refine gt_upI ?_; (repeat (first | refine In_up ?_ | refine In_nw ?_)); apply In_of; assumption) | refine gt_rd (by first | assumption | (apply Ne.symm; assumption) | (exact hj _ _ (by omega) (by omega) (by omega)) | omega) ?_ | exact gt_nw (by assumption) | refine gt_odr (by first | assumption | (apply Ne.symm; assumption) | omega) ?_)
      · first | rfl | assumption
      refine Ev.icmp_ge (tgt := 43) dX0_run_10 (by decide) (fun c9 => ?_) (fun c9 => absurd (nI_le (by omega) (by omega)) c9)
      refine Ev.ald0 dX0_run_43 ?_
      refine Ev.iconst (v := 0) dX0_run_44 (by decide) ?_
      apply Ev.put dX0_run_45 fX0_33
      · repeat (first | assumption | (refine gt_upI ?_; (repeat (first | refine In_up ?_ | refine In_nw ?_)); apply In_of; assumption) | refine gt_rd (by first | assumption | (apply Ne.symm; assumption) | (exact hj _ _ (by omega) (by omega) (by omega)) | omega) ?_ | exact gt_nw (by assumption) | refine gt_odr (by first | assumption | (apply Ne.symm; assumption) | omega) ?_)
      · rfl
      · rfl
      · rfl
      refine Ev.ald0 dX0_run_48 ?_
      refine Ev.iconst (v := 1) dX0_run_49 (by decide) ?_
      apply Ev.put dX0_run_50 fX0_29
      · repeat (first | assumption | (refine gt_upI ?_; (repeat (first | refine In_up ?_ | refine In_nw ?_)); apply In_of; assumption) | refine gt_rd (by first | assumption | (apply Ne.symm; assumption) | (exact hj _ _ (by omega) (by omega) (by omega)) | omega) ?_ | exact gt_nw (by assumption) | refine gt_odr (by first | assumption | (apply Ne.symm; assumption) | omega) ?_)
      · rfl
      · rfl
      · rfl
      rw [show k = K.2.2.2.1 by omega]
      refine a_rounds hj hO hK0 (K.2.2.2.1 + 1) 1 _ (st0 K.1 x D.1 K.2.2.2.1, D.2) _ (by omega) (by omega) ⟨t, ov, hp, vo, re, ?_, (by repeat (first | assumption | (refine gt_upI ?_; (repeat (first | refine In_up ?_ | refine In_nw ?_)); apply In_of; assumption) | refine gt_rd (by first | assumption | (apply Ne.symm; assumption) | (exact hj _ _ (by omega) (by omega) (by omega)) | omega) ?_ | exact gt_nw (by assumption) | refine gt_odr (by first | assumption | (apply Ne.symm; assumption) | omega) ?_)), (by repeat (first | assumption | (refine gt_upI ?_; (repeat (first | refine In_up ?_ | refine In_nw ?_)); apply In_of; assumption) | refine gt_rd (by first | assumption | (apply Ne.symm; assumption) | (exact hj _ _ (by omega) (by omega) (by omega)) | omega) ?_ | exact gt_nw (by assumption) | refine gt_odr (by first | assumption | (apply Ne.symm; assumption) | omega) ?_)), (by repeat (first | assumption | (refine gt_upI ?_; (repeat (first | refine In_up ?_ | refine In_nw ?_)); apply In_of; assumption) | refine gt_rd (by first | assumption | (apply Ne.symm; assumption) | (exact hj _ _ (by omega) (by omega) (by omega)) | omega) ?_ | exact gt_nw (by assumption) | refine gt_odr (by first | assumption | (apply Ne.symm; assumption) | omega) ?_)), (by repeat (first | assumption | (refine gt_upI ?_; (repeat (first | refine In_up ?_ | refine In_nw ?_)); apply In_of; assumption) | refine gt_rd (by first | assumption | (apply Ne.symm; assumption) | (exact hj _ _ (by omega) (by omega) (by omega)) | omega) ?_ | exact gt_nw (by assumption) | refine gt_odr (by first | assumption | (apply Ne.symm; assumption) | omega) ?_)), (by repeat (first | assumption | (refine gt_upI ?_; (repeat (first | refine In_up ?_ | refine In_nw ?_)); apply In_of; assumption) | refine gt_rd (by first | assumption | (apply Ne.symm; assumption) | (exact hj _ _ (by omega) (by omega) (by omega)) | omega) ?_ | exact gt_nw (by assumption) | refine gt_odr (by first | assumption | (apply Ne.symm; assumption) | omega) ?_)), (by repeat (first | assumption | (refine gt_upI ?_; (repeat (first | refine In_up ?_ | refine In_nw ?_)); apply In_of; assumption) | refine gt_rd (by first | assumption | (apply Ne.symm; assumption) | (exact hj _ _ (by omega) (by omega) (by omega)) | omega) ?_ | exact gt_nw (by assumption) | refine gt_odr (by first | assumption | (apply Ne.symm; assumption) | omega) ?_))⟩ (((Fr.rf.pt (by simp [rfr])).pt (by simp [rfr])).pt (by simp [rfr]))
      rw [gt_upI (by (repeat (first | refine In_up ?_ | refine In_nw ?_)); apply In_of; assumption)]
      rfl
    | succ d ih =>
      intro k hk
      have e := nI_clamp (n := k) (by omega)
      have b : vp_in (nI k) 41 := vp_in_nI (by omega) (by omega)
      have q3 : gt (up M (ad 7) (ia 0 41 (st0 K.1 x D.1 k))) (ad 3) = some (auc ad i1 i2 i3 (nI K.2.2.1)) := (by repeat (first | assumption | (refine gt_upI ?_; (repeat (first | refine In_up ?_ | refine In_nw ?_)); apply In_of; assumption) | refine gt_rd (by first | assumption | (apply Ne.symm; assumption) | (exact hj _ _ (by omega) (by omega) (by omega)) | omega) ?_ | exact gt_nw (by assumption) | refine gt_odr (by first | assumption | (apply Ne.symm; assumption) | omega) ?_))
      have q14 : gt (up M (ad 7) (ia 0 41 (st0 K.1 x D.1 k))) (ad 14) = some (ia 0 z K.1) := (by repeat (first | assumption | (refine gt_upI ?_; (repeat (first | refine In_up ?_ | refine In_nw ?_)); apply In_of; assumption) | refine gt_rd (by first | assumption | (apply Ne.symm; assumption) | (exact hj _ _ (by omega) (by omega) (by omega)) | omega) ?_ | exact gt_nw (by assumption) | refine gt_odr (by first | assumption | (apply Ne.symm; assumption) | omega) ?_))
      refine Ev.ild2 dX0_run_2 ?_
      refine Ev.ald0 dX0_run_3 ?_
      apply Ev.getf dX0_run_4 fX0_62
      · repeat (first | assumption | (refine gt_upI ?_; (repeat (first | refine In_up ?_ | refine In_nw ?_)); apply In_of; assumption) | refine gt_rd (by first | assumption | (apply Ne.symm; assumption) | (exact hj _ _ (by omega) (by omega) (by omega)) | omega) ?_ | exact gt_nw (by assumption) | refine gt_odr (by first | assumption | (apply Ne.symm; assumption) | omega) ?_)
      · first | rfl | assumption
      apply Ev.getf dX0_run_7 fX0_72
      · repeat (first | assumption | (refine gt_upI ?_; (repeat (first | refine In_up ?_ | refine In_nw ?_)); apply In_of; assumption) | refine gt_rd (by first | assumption | (apply Ne.symm; assumption) | (exact hj _ _ (by omega) (by omega) (by omega)) | omega) ?_ | exact gt_nw (by assumption) | refine gt_odr (by first | assumption | (apply Ne.symm; assumption) | omega) ?_)
      · first | rfl | assumption
      refine Ev.icmp_ge (tgt := 43) dX0_run_10 (by decide) (fun c9 => absurd c9 (nI_ge (by omega) (by omega))) (fun c9 => ?_)
      have J : ∀ v : Int32, v = (if nI k = x ∨ K.1 (8 * k + 7) ≠ 0 then 1 else 0) → Ev G mX0_run 36 [some (.ref (ad 3)), some (.int x), some (.int (nI k))] [.int v, .int (nI k), .ref (ad 7)] (up M (ad 7) (ia 0 41 (st0 K.1 x D.1 k))) 0 0 (fun v M' => v = none ∧ RP ad (nI (rlp K (K.2.2.2.1 + 1) 1 (st0 K.1 x D.1 K.2.2.2.1, D.2)).1) (nI ((rlp K (K.2.2.2.1 + 1) 1 (st0 K.1 x D.1 K.2.2.2.1, D.2)).1 - 1)) i3 (nI K.2.2.1) (rlp K (K.2.2.2.1 + 1) 1 (st0 K.1 x D.1 K.2.2.2.1, D.2)).2 M' ∧ Fr (rfr ad) M M') := by
        intro v hv
        apply Ev.iast dX0_run_36
        · repeat (first | assumption | (refine gt_upI ?_; (repeat (first | refine In_up ?_ | refine In_nw ?_)); apply In_of; assumption) | refine gt_rd (by first | assumption | (apply Ne.symm; assumption) | (exact hj _ _ (by omega) (by omega) (by omega)) | omega) ?_ | exact gt_nw (by assumption) | refine gt_odr (by first | assumption | (apply Ne.symm; assumption) | omega) ?_)
        · assumption
        apply Ev.iinc2 dX0_run_37 rfl rfl
        · first | exact nI_inc _ | rfl
        refine Ev.goto (tgt := 2) dX0_run_40 (by decide) ?_
        exact Ev.cgM rfl (by rw [up_up, e, st0, ← hv]) (ih (k + 1) (by omega))
      refine Ev.ald0 dX0_run_13 ?_
      apply Ev.getf dX0_run_14 fX0_42
      · repeat (first | assumption | (refine gt_upI ?_; (repeat (first | refine In_up ?_ | refine In_nw ?_)); apply In_of; assumption) | refine gt_rd (by first | assumption | (apply Ne.symm; assumption) | (exact hj _ _ (by omega) (by omega) (by omega)) | omega) ?_ | exact gt_nw (by assumption) | refine gt_odr (by first | assumption | (apply Ne.symm; assumption) | omega) ?_)
      · first | rfl | assumption
      refine Ev.ild2 dX0_run_17 ?_
      refine Ev.ild2 dX0_run_18 ?_
      refine Ev.ild1 dX0_run_19 ?_
      refine Ev.icmp_eq (tgt := 31) dX0_run_20 (by decide) (fun c20 => ?_) (fun c20 => ?_)
      · refine Ev.iconst (v := 1) dX0_run_31 (by decide) ?_
        refine Ev.goto (tgt := 36) dX0_run_32 (by decide) ?_
        first | exact J 1 (if_pos (Or.inl c20)).symm | exact J 1 (if_pos (Or.inr (v10_f hy c28))).symm | exact J 0 (if_neg (fun q => q.elim c20 (fun q => q (v10_t hy c28)))).symm
      · refine Ev.ald0 dX0_run_23 ?_
        refine Ev.ild2 dX0_run_24 ?_
        refine Ev.cvI (Yc := mX0_isGone) (ci := 0) dX0_run_25 lX0_75 vX0_isGone rfl (a_isGone k rfl q3 rfl q14 (by omega) hz2) ?_ rfl rfl rfl rfl ?_
        · apply Exists.intro; repeat (first | assumption | (refine gt_upI ?_; (repeat (first | refine In_up ?_ | refine In_nw ?_)); apply In_of; assumption) | refine gt_rd (by first | assumption | (apply Ne.symm; assumption) | (exact hj _ _ (by omega) (by omega) (by omega)) | omega) ?_ | exact gt_nw (by assumption) | refine gt_odr (by first | assumption | (apply Ne.symm; assumption) | omega) ?_)
        rintro y M' ⟨hy, rfl⟩
        refine Ev.if_eq (tgt := 35) dX0_run_28 (by decide) (fun c28 => ?_) (fun c28 => ?_)
        · refine Ev.iconst (v := 0) dX0_run_35 (by decide) ?_
          first | exact J 1 (if_pos (Or.inl c20)).symm | exact J 1 (if_pos (Or.inr (v10_f hy c28))).symm | exact J 0 (if_neg (fun q => q.elim c20 (fun q => q (v10_t hy c28)))).symm
        · refine Ev.iconst (v := 1) dX0_run_31 (by decide) ?_
          refine Ev.goto (tgt := 36) dX0_run_32 (by decide) ?_
          first | exact J 1 (if_pos (Or.inl c20)).symm | exact J 1 (if_pos (Or.inr (v10_f hy c28))).symm | exact J 0 (if_neg (fun q => q.elim c20 (fun q => q (v10_t hy c28)))).symm
  refine Ct.of (ls := [some (.ref (ad 3)), some (.int x), none]) (by decide) (by decide) rfl rfl rfl ?_
  refine Ev.iconst (v := 0) dX0_run_0 (by decide) ?_
  refine Ev.ist2 dX0_run_1 rfl rfl ?_
  exact Ev.cgM rfl (by rw [st0, up_id h7]) (L K.2.2.2.1 0 (by omega))
end AUG
