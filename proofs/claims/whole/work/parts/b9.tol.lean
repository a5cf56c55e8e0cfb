/-! told -/
section TOL
variable {G : GP} {M : Wd} {q : Nat → Nat} {na : Nat} {S : Sg}
set_option maxRecDepth 20000 in
theorem k_told {s k t p sh le ow : Int32} (hC : CR q na S M) (hS : Sok S) : CtI G mX5_told [.ref (q 0), .int s, .int k, .int t, .int p, .int sh, .int le, .int ow] M 0 0 (fun x M' => x = (sp_told S s k t p sh le ow).1 ∧ KR q (sp_told S s k t p sh le ow).2 M M') := by
  have hC0 := hC
  obtain ⟨⟨hj, hna⟩, h0, h1, h2, hA, ⟨f, g, g40, g41, g42, gf, gw⟩, n, ph, rf, lo, hi, f2, g2, d43, d44, d45⟩ := hC
  have hn := hS.1.1.2.1
  have e8 : S.1.1 328 = nI (bn S.1.1) := hS.1.1.1
  have no : ¬ tldok S.1.1 s k t p sh le ow → Ev G mX5_told 32 [some (.ref (q 0)), some (.int s), some (.int k), some (.int t), some (.int p), some (.int sh), some (.int le), some (.int ow), none] [] M 0 0 (fun v M' => ∃ x : Int32, v = some (.int x) ∧ x = (sp_told S s k t p sh le ow).1 ∧ KR q (sp_told S s k t p sh le ow).2 M M') := by
    intro hno
    refine Ev.iconst (v := -1) dX5_told_32 (by decide) ?_
    refine Ev.iret dX5_told_33 rfl rfl ?_
    rw [sp_told, if_neg (fun z => hno z.1)]
    exact ⟨_, rfl, rfl, q, na, hC0, SQ.rf, Fr.rf⟩
  have no2 : ¬ tldok S.1.1 s k t p sh le ow → Ev G mX5_told 49 [some (.ref (q 0)), some (.int s), some (.int k), some (.int t), some (.int p), some (.int sh), some (.int le), some (.int ow), none] [] M 0 0 (fun v M' => ∃ x : Int32, v = some (.int x) ∧ x = (sp_told S s k t p sh le ow).1 ∧ KR q (sp_told S s k t p sh le ow).2 M M') := by
    intro hno
    refine Ev.iconst (v := -1) dX5_told_49 (by decide) ?_
    refine Ev.iret dX5_told_50 rfl rfl ?_
    rw [sp_told, if_neg (fun z => hno z.1)]
    exact ⟨_, rfl, rfl, q, na, hC0, SQ.rf, Fr.rf⟩
  have no3 : ¬ tldok S.1.1 s k t p sh le ow → Ev G mX5_told 74 [some (.ref (q 0)), some (.int s), some (.int k), some (.int t), some (.int p), some (.int sh), some (.int le), some (.int ow), none] [] M 0 0 (fun v M' => ∃ x : Int32, v = some (.int x) ∧ x = (sp_told S s k t p sh le ow).1 ∧ KR q (sp_told S s k t p sh le ow).2 M M') := by
    intro hno
    refine Ev.iconst (v := -1) dX5_told_74 (by decide) ?_
    refine Ev.iret dX5_told_75 rfl rfl ?_
    rw [sp_told, if_neg (fun z => hno z.1)]
    exact ⟨_, rfl, rfl, q, na, hC0, SQ.rf, Fr.rf⟩
  have J : isT s k t p → (k ≠ 3 ∨ (1 ≤ sh ∧ sh ≤ t)) → (0 ≤ le ∧ le ≤ t) → (0 ≤ ow ∧ ow ≤ 7) → Ev G mX5_told 51 [some (.ref (q 0)), some (.int s), some (.int k), some (.int t), some (.int p), some (.int sh), some (.int le), some (.int ow), none] [] M 0 0 (fun v M' => ∃ x : Int32, v = some (.int x) ∧ x = (sp_told S s k t p sh le ow).1 ∧ KR q (sp_told S s k t p sh le ow).2 M M') := by
    intro t1 t2 t3 t4
    refine Ev.ald0 dX5_told_51 ?_
    apply Ev.getf dX5_told_52 fX5_19
    · repeat (first | assumption | (refine gt_upI ?_; (repeat (first | exact In_of (gt_nw (by assumption)) | (apply In_of; assumption) | refine In_up ?_ | refine In_nw ?_)); done) | refine gt_rd (by first | assumption | (apply Ne.symm; assumption) | (exact hj _ _ (by omega) (by omega) (by omega)) | omega) ?_ | exact gt_nw (by assumption) | refine gt_odr (by first | assumption | (apply Ne.symm; assumption) | omega) ?_)
    · first | rfl | assumption
    apply Ev.getf dX5_told_55 fX5_80
    · repeat (first | assumption | (refine gt_upI ?_; (repeat (first | exact In_of (gt_nw (by assumption)) | (apply In_of; assumption) | refine In_up ?_ | refine In_nw ?_)); done) | refine gt_rd (by first | assumption | (apply Ne.symm; assumption) | (exact hj _ _ (by omega) (by omega) (by omega)) | omega) ?_ | exact gt_nw (by assumption) | refine gt_odr (by first | assumption | (apply Ne.symm; assumption) | omega) ?_)
    · first | rfl | assumption
    refine Ev.iconst (v := 2) dX5_told_58 (by decide) ?_
    refine Ev.icmp_eq (tgt := 74) dX5_told_59 (by decide) (fun c59 => ?_) (fun c59 => ?_)
    · exact no3 (fun z => z.2.2.2.2.2 c59)
    · refine Ev.ald0 dX5_told_62 ?_
      apply Ev.getf dX5_told_63 fX5_19
      · repeat (first | assumption | (refine gt_upI ?_; (repeat (first | exact In_of (gt_nw (by assumption)) | (apply In_of; assumption) | refine In_up ?_ | refine In_nw ?_)); done) | refine gt_rd (by first | assumption | (apply Ne.symm; assumption) | (exact hj _ _ (by omega) (by omega) (by omega)) | omega) ?_ | exact gt_nw (by assumption) | refine gt_odr (by first | assumption | (apply Ne.symm; assumption) | omega) ?_)
      · first | rfl | assumption
      apply Ev.getf dX5_told_66 fX5_71
      · repeat (first | assumption | (refine gt_upI ?_; (repeat (first | exact In_of (gt_nw (by assumption)) | (apply In_of; assumption) | refine In_up ?_ | refine In_nw ?_)); done) | refine gt_rd (by first | assumption | (apply Ne.symm; assumption) | (exact hj _ _ (by omega) (by omega) (by omega)) | omega) ?_ | exact gt_nw (by assumption) | refine gt_odr (by first | assumption | (apply Ne.symm; assumption) | omega) ?_)
      · first | rfl | assumption
      refine Ev.bipush (v := 40) dX5_told_69 (by decide) ?_
      refine Ev.icmp_lt (tgt := 76) dX5_told_71 (by decide) (fun c71 => ?_) (fun c71 => ?_)
      · have hn40 : bn S.1.1 < 40 := (nI_ltI (b := 40) (by omega) (by omega)).mp c71
        have hok : tldok S.1.1 s k t p sh le ow := ⟨t1, t2, t3, t4, fun z => by
          rw [e8] at z
          have := (nI_eq (b := 40) (by omega) (by omega)).mp z
          omega, c59⟩
        refine Ev.ald0 dX5_told_76 ?_
        apply Ev.getf dX5_told_77 fX5_23
        · repeat (first | assumption | (refine gt_upI ?_; (repeat (first | exact In_of (gt_nw (by assumption)) | (apply In_of; assumption) | refine In_up ?_ | refine In_nw ?_)); done) | refine gt_rd (by first | assumption | (apply Ne.symm; assumption) | (exact hj _ _ (by omega) (by omega) (by omega)) | omega) ?_ | exact gt_nw (by assumption) | refine gt_odr (by first | assumption | (apply Ne.symm; assumption) | omega) ?_)
        · first | rfl | assumption
        refine Ev.ald0 dX5_told_80 ?_
        apply Ev.getf dX5_told_81 fX5_19
        · repeat (first | assumption | (refine gt_upI ?_; (repeat (first | exact In_of (gt_nw (by assumption)) | (apply In_of; assumption) | refine In_up ?_ | refine In_nw ?_)); done) | refine gt_rd (by first | assumption | (apply Ne.symm; assumption) | (exact hj _ _ (by omega) (by omega) (by omega)) | omega) ?_ | exact gt_nw (by assumption) | refine gt_odr (by first | assumption | (apply Ne.symm; assumption) | omega) ?_)
        · first | rfl | assumption
        refine Ev.cvV (Yc := mX2_become) (ci := 2) dX5_told_84 lX5_83 vX2_become rfl (k_become hC0 hS) ?_ rfl rfl rfl rfl ?_
        · apply Exists.intro; repeat (first | assumption | (refine gt_upI ?_; (repeat (first | exact In_of (gt_nw (by assumption)) | (apply In_of; assumption) | refine In_up ?_ | refine In_nw ?_)); done) | refine gt_rd (by first | assumption | (apply Ne.symm; assumption) | (exact hj _ _ (by omega) (by omega) (by omega)) | omega) ?_ | exact gt_nw (by assumption) | refine gt_odr (by first | assumption | (apply Ne.symm; assumption) | omega) ?_)
        rintro M1 ⟨f', hf', rfl⟩
        generalize hX : up (up M (q 43) _) (q 44) _ = X
        have x43 : gt X (q 43) = some (bk (q 44) (q 45) (bn S.1.1) (S.1.1 329) (S.1.1 330) (S.1.1 331) (S.1.1 332)) := by rw [← hX]; exact (by repeat (first | assumption | (refine gt_upI ?_; (repeat (first | exact In_of (gt_nw (by assumption)) | (apply In_of; assumption) | refine In_up ?_ | refine In_nw ?_)); done) | refine gt_rd (by first | assumption | (apply Ne.symm; assumption) | (exact hj _ _ (by omega) (by omega) (by omega)) | omega) ?_ | exact gt_nw (by assumption) | refine gt_odr (by first | assumption | (apply Ne.symm; assumption) | omega) ?_))
        have x44 : gt X (q 44) = some (ia 0 328 f') := by rw [← hX]; exact (by repeat (first | assumption | (refine gt_upI ?_; (repeat (first | exact In_of (gt_nw (by assumption)) | (apply In_of; assumption) | refine In_up ?_ | refine In_nw ?_)); done) | refine gt_rd (by first | assumption | (apply Ne.symm; assumption) | (exact hj _ _ (by omega) (by omega) (by omega)) | omega) ?_ | exact gt_nw (by assumption) | refine gt_odr (by first | assumption | (apply Ne.symm; assumption) | omega) ?_))
        have x45 : gt X (q 45) = some (ia 0 320 g2) := by rw [← hX]; exact (by repeat (first | assumption | (refine gt_upI ?_; (repeat (first | exact In_of (gt_nw (by assumption)) | (apply In_of; assumption) | refine In_up ?_ | refine In_nw ?_)); done) | refine gt_rd (by first | assumption | (apply Ne.symm; assumption) | (exact hj _ _ (by omega) (by omega) (by omega)) | omega) ?_ | exact gt_nw (by assumption) | refine gt_odr (by first | assumption | (apply Ne.symm; assumption) | omega) ?_))
        have hF : Fr ([43, 44, 45].map q) M X := by rw [← hX]; exact (Fr.rf.pt (by simp)).pt (by simp)
        have k0 := (hC0.dr hF ⟨_, _, _, _, _, _, _, x43, x44, x45⟩).2.1
        refine Ev.ald0 dX5_told_87 ?_
        apply Ev.getf dX5_told_88 fX5_23
        · repeat (first | assumption | (refine gt_upI ?_; (repeat (first | exact In_of (gt_nw (by assumption)) | (apply In_of; assumption) | refine In_up ?_ | refine In_nw ?_)); done) | refine gt_rd (by first | assumption | (apply Ne.symm; assumption) | (exact hj _ _ (by omega) (by omega) (by omega)) | omega) ?_ | exact gt_nw (by assumption) | refine gt_odr (by first | assumption | (apply Ne.symm; assumption) | omega) ?_)
        · first | rfl | assumption
        refine Ev.ild1 dX5_told_91 ?_
        refine Ev.ild2 dX5_told_92 ?_
        refine Ev.ild3 dX5_told_93 ?_
        refine Ev.ild4 dX5_told_94 ?_
        refine Ev.ild5 dX5_told_96 ?_
        refine Ev.ild6 dX5_told_98 ?_
        refine Ev.ild7 dX5_told_100 ?_
        refine Ev.cvI (Yc := mX2_add) (ci := 2) dX5_told_102 lX5_86 vX2_add rfl (c_add x43 x44 (by omega) (hj _ _ (by decide) (by decide) (by decide))) ?_ rfl rfl rfl rfl ?_
        · apply Exists.intro; repeat (first | assumption | (refine gt_upI ?_; (repeat (first | exact In_of (gt_nw (by assumption)) | (apply In_of; assumption) | refine In_up ?_ | refine In_nw ?_)); done) | refine gt_rd (by first | assumption | (apply Ne.symm; assumption) | (exact hj _ _ (by omega) (by omega) (by omega)) | omega) ?_ | exact gt_nw (by assumption) | refine gt_odr (by first | assumption | (apply Ne.symm; assumption) | omega) ?_)
        rintro x M2 ⟨rfl, rfl⟩
        generalize hY : up (up X (q 43) _) (q 44) _ = Y
        have y43 : gt Y (q 43) = some (bk (q 44) (q 45) (bn S.1.1 + 1) (S.1.1 329) (S.1.1 330) (S.1.1 331) (S.1.1 332)) := by rw [← hY]; exact (by repeat (first | assumption | (refine gt_upI ?_; (repeat (first | exact In_of (gt_nw (by assumption)) | (apply In_of; assumption) | refine In_up ?_ | refine In_nw ?_)); done) | refine gt_rd (by first | assumption | (apply Ne.symm; assumption) | (exact hj _ _ (by omega) (by omega) (by omega)) | omega) ?_ | exact gt_nw (by assumption) | refine gt_odr (by first | assumption | (apply Ne.symm; assumption) | omega) ?_))
        have y44 : gt Y (q 44) = some (ia 0 328 (add8 f' (bn S.1.1) s k t p sh le ow)) := by rw [← hY]; exact (by repeat (first | assumption | (refine gt_upI ?_; (repeat (first | exact In_of (gt_nw (by assumption)) | (apply In_of; assumption) | refine In_up ?_ | refine In_nw ?_)); done) | refine gt_rd (by first | assumption | (apply Ne.symm; assumption) | (exact hj _ _ (by omega) (by omega) (by omega)) | omega) ?_ | exact gt_nw (by assumption) | refine gt_odr (by first | assumption | (apply Ne.symm; assumption) | omega) ?_))
        have y45 : gt Y (q 45) = some (ia 0 320 g2) := by rw [← hY]; exact (by repeat (first | assumption | (refine gt_upI ?_; (repeat (first | exact In_of (gt_nw (by assumption)) | (apply In_of; assumption) | refine In_up ?_ | refine In_nw ?_)); done) | refine gt_rd (by first | assumption | (apply Ne.symm; assumption) | (exact hj _ _ (by omega) (by omega) (by omega)) | omega) ?_ | exact gt_nw (by assumption) | refine gt_odr (by first | assumption | (apply Ne.symm; assumption) | omega) ?_))
        have hFY : Fr ([43, 44, 45].map q) M Y := by rw [← hY]; exact (hF.pt (by simp)).pt (by simp)
        have hCY := hC0.dr hFY ⟨_, _, _, _, _, _, _, y43, y44, y45⟩
        have l0 := hCY.2.1
        have ebn : bn (ad1 S.1.1 s k t p sh le ow) = bn S.1.1 + 1 := ad1_n hn
        have a9 : ad1 S.1.1 s k t p sh le ow 329 = S.1.1 329 := ad1_hi hn (by decide)
        have hB : Bk Y (q 43) (q 44) (q 45) (ad1 S.1.1 s k t p sh le ow, S.1.2) := ⟨_, g2, by show gt Y (q 43) = some (bk (q 44) (q 45) (bn (ad1 S.1.1 s k t p sh le ow)) (ad1 S.1.1 s k t p sh le ow 329) (ad1 S.1.1 s k t p sh le ow 330) (ad1 S.1.1 s k t p sh le ow 331) (ad1 S.1.1 s k t p sh le ow 332)); rw [ebn, a9, ad1_hi hn (show 328 < 330 by decide), ad1_hi hn (show 328 < 331 by decide), ad1_hi hn (show 328 < 332 by decide)]; exact y43, y44, y45, by show Ar (bn (ad1 S.1.1 s k t p sh le ow)) _ (ad1 S.1.1 s k t p sh le ow); rw [ebn]; exact hf'.ad1 hn, fun z => by
          have z2 : ad1 S.1.1 s k t p sh le ow 329 = 2 := z
          rw [a9] at z2
          exact absurd z2 c59⟩
        refine Ev.ist8 dX5_told_105 rfl rfl ?_
        refine Ev.ald0 dX5_told_107 ?_
        refine Ev.cvI (Yc := mX5_keepUnlessWorse) (ci := 5) dX5_told_108 lX5_90 vX5_keepUnlessWorse rfl (k_kuw hCY hS hB ((hS.1.1.ad1 t1 t2 t3 t4).mono (by omega))) ?_ rfl rfl rfl rfl ?_
        · apply Exists.intro; repeat (first | assumption | (refine gt_upI ?_; (repeat (first | exact In_of (gt_nw (by assumption)) | (apply In_of; assumption) | refine In_up ?_ | refine In_nw ?_)); done) | refine gt_rd (by first | assumption | (apply Ne.symm; assumption) | (exact hj _ _ (by omega) (by omega) (by omega)) | omega) ?_ | exact gt_nw (by assumption) | refine gt_odr (by first | assumption | (apply Ne.symm; assumption) | omega) ?_)
        rintro x M3 hx
        have hFq := hFY.q (by decide)
        rw [sp_told]
        rcases hx with ⟨hw, rfl, hK⟩ | ⟨hw, rfl, hK⟩
        · rw [if_neg (fun z => z.2 hw)]
          refine Ev.if_eq (tgt := 119) dX5_told_111 (by decide) (fun c111 => ?_) (fun c111 => ?_)
          · refine Ev.iconst (v := -1) dX5_told_119 (by decide) ?_
            refine Ev.iret dX5_told_120 rfl rfl ?_
            exact ⟨_, rfl, rfl, KR.tr hFq hK⟩
          · exact absurd rfl c111
        · rw [if_pos ⟨hok, hw⟩]
          refine Ev.if_eq (tgt := 119) dX5_told_111 (by decide) (fun c111 => ?_) (fun c111 => ?_)
          · exact absurd c111 (by decide)
          · refine Ev.ild8 dX5_told_114 ?_
            refine Ev.goto (tgt := 120) dX5_told_116 (by decide) ?_
            refine Ev.iret dX5_told_120 rfl rfl ?_
            exact ⟨_, rfl, e8.symm, KR.tr hFq hK⟩
      · refine no3 (fun z => z.2.2.2.2.1 ?_)
        rw [e8]
        have : ¬ bn S.1.1 < 40 := fun w => c71 ((nI_ltI (b := 40) (by omega) (by omega)).mpr w)
        rw [show bn S.1.1 = 40 by omega]
        rfl
  refine Ct.of (ls := [some (.ref (q 0)), some (.int s), some (.int k), some (.int t), some (.int p), some (.int sh), some (.int le), some (.int ow), none]) (by decide) (by decide) rfl rfl rfl ?_
  refine Ev.ild1 dX5_told_0 ?_
  refine Ev.ild2 dX5_told_1 ?_
  refine Ev.ild3 dX5_told_2 ?_
  refine Ev.ild4 dX5_told_3 ?_
  refine Ev.csI (Yc := mX5_canBe) dX5_told_5 lX5_72 vX5_canBe rfl k_canBe rfl rfl rfl ?_
  rintro y M' ⟨rfl, hy⟩
  refine Ev.if_eq (tgt := 32) dX5_told_8 (by decide) (fun c8 => ?_) (fun c8 => ?_)
  · rcases hy with ⟨-, hy⟩ | ⟨hno, -⟩
    · rw [hy] at c8; exact absurd c8 (by decide)
    · exact no (fun z => hno z.1)
  · rcases hy with ⟨t1, -⟩ | ⟨-, hy⟩
    · refine Ev.ild6 dX5_told_11 ?_
      refine Ev.iconst (v := 0) dX5_told_13 (by decide) ?_
      refine Ev.ild3 dX5_told_14 ?_
      refine Ev.csI (Yc := mX5_within) dX5_told_15 lX5_76 vX5_within rfl k_within rfl rfl rfl ?_
      rintro y2 M' ⟨hy2, rfl⟩
      refine Ev.if_eq (tgt := 32) dX5_told_18 (by decide) (fun c18 => ?_) (fun c18 => ?_)
      · exact no (fun z => if1_f hy2 c18 z.2.2.1)
      · refine Ev.ild7 dX5_told_21 ?_
        refine Ev.iconst (v := 0) dX5_told_23 (by decide) ?_
        refine Ev.bipush (v := 7) dX5_told_24 (by decide) ?_
        refine Ev.csI (Yc := mX5_within) dX5_told_26 lX5_76 vX5_within rfl k_within rfl rfl rfl ?_
        rintro y3 M' ⟨hy3, rfl⟩
        refine Ev.if_ne (tgt := 34) dX5_told_29 (by decide) (fun c29 => ?_) (fun c29 => ?_)
        · refine Ev.ild2 dX5_told_34 ?_
          refine Ev.iconst (v := 3) dX5_told_35 (by decide) ?_
          refine Ev.icmp_ne (tgt := 51) dX5_told_36 (by decide) (fun c36 => ?_) (fun c36 => ?_)
          · exact J t1 (Or.inl c36) (if1_t hy2 c18) (if1_t hy3 c29)
          · refine Ev.ild5 dX5_told_39 ?_
            refine Ev.iconst (v := 1) dX5_told_41 (by decide) ?_
            refine Ev.ild3 dX5_told_42 ?_
            refine Ev.csI (Yc := mX5_within) dX5_told_43 lX5_76 vX5_within rfl k_within rfl rfl rfl ?_
            rintro y4 M' ⟨hy4, rfl⟩
            refine Ev.if_ne (tgt := 51) dX5_told_46 (by decide) (fun c46 => ?_) (fun c46 => ?_)
            · exact J t1 (Or.inr (if1_t hy4 c46)) (if1_t hy2 c18) (if1_t hy3 c29)
            · exact no2 (fun z => z.2.1.elim (fun w => w c36) (if1_f hy4 c46))
        · exact no (fun z => if1_f hy3 c29 z.2.2.2.1)
    · exact absurd hy c8
end TOL
