/-! less, told -/
theorem KR.tr {q : Nat → Nat} {S : Sg} {M Y M' : Wd} (h : Fr (qfr q) M Y) (h2 : KR q S Y M') : KR q S M M' := by
  obtain ⟨q', na', h3, h4, h5⟩ := h2
  exact ⟨q', na', h3, h4, h.tr h5⟩
theorem Ar.ad1 {b f : Nat → Int32} {s k q p sh le ow : Int32} (h : Ar (bn b) f b) (hn : bn b ≤ 40) : Ar (bn b + 1) (add8 f (bn b) s k q p sh le ow) (ad1 b s k q p sh le ow) := fun j hj => by
  rw [COpenCrossLaw_law_r5060_e2f5b9.ad1, pk_un (by omega)]
  by_cases c : j < 8 * bn b
  · rw [add8_lo (Or.inl c), add8_lo (Or.inl c)]
    exact h j c
  · obtain ⟨e0, e1, e2, e3, e4, e5, e6, e7⟩ := add8_at (f := f) (k := bn b) (a0 := s) (a1 := k) (a2 := q) (a3 := p) (a4 := sh) (a5 := le) (a6 := ow)
    obtain ⟨d0, d1, d2, d3, d4, d5, d6, d7⟩ := add8_at (f := b) (k := bn b) (a0 := s) (a1 := k) (a2 := q) (a3 := p) (a4 := sh) (a5 := le) (a6 := ow)
    have : j = 8 * bn b + 0 ∨ j = 8 * bn b + 1 ∨ j = 8 * bn b + 2 ∨ j = 8 * bn b + 3 ∨ j = 8 * bn b + 4 ∨ j = 8 * bn b + 5 ∨ j = 8 * bn b + 6 ∨ j = 8 * bn b + 7 := by omega
    rcases this with e | e | e | e | e | e | e | e <;> rw [e]
    · rw [e0, d0]
    · rw [e1, d1]
    · rw [e2, d2]
    · rw [e3, d3]
    · rw [e4, d4]
    · rw [e5, d5]
    · rw [e6, d6]
    · rw [e7, d7]
section TLD
variable {G : GP} {M : Wd} {q : Nat → Nat} {na : Nat} {S : Sg}
set_option maxRecDepth 20000 in
theorem k_less {o t : Int32} (hC : CR q na S M) (hS : Sok S) : CtI G mX5_less [.ref (q 0), .int o, .int t] M 0 0 (fun x M' => x = (sp_less S o t).1 ∧ KR q (sp_less S o t).2 M M') := by
  have hC0 := hC
  obtain ⟨⟨hj, hna⟩, h0, h1, h2, hA, ⟨f, g, g40, g41, g42, gf, gw⟩, n, ph, rf, lo, hi, f2, g2, d43, d44, d45⟩ := hC
  have hn := hS.1.1.2.1
  have no : ∀ a3, ¬ (cch S.1.1 o ∧ (1 ≤ t ∧ t ≤ S.1.1 (8 * o.toNatClampNeg + 2) - 1)) → Ev G mX5_less 22 [some (.ref (q 0)), some (.int o), some (.int t), a3] [] M 0 0 (fun v M' => ∃ x : Int32, v = some (.int x) ∧ x = (sp_less S o t).1 ∧ KR q (sp_less S o t).2 M M') := by
    intro a3 hno
    refine Ev.iconst (v := -1) dX5_less_22 (by decide) ?_
    refine Ev.iret dX5_less_23 rfl rfl ?_
    rw [sp_less, if_neg (fun z => hno z.1)]
    exact ⟨_, rfl, rfl, q, na, hC0, SQ.rf, Fr.rf⟩
  have no2 : ∀ a3, ¬ (cch S.1.1 o ∧ (1 ≤ t ∧ t ≤ S.1.1 (8 * o.toNatClampNeg + 2) - 1)) → Ev G mX5_less 44 [some (.ref (q 0)), some (.int o), some (.int t), a3] [] M 0 0 (fun v M' => ∃ x : Int32, v = some (.int x) ∧ x = (sp_less S o t).1 ∧ KR q (sp_less S o t).2 M M') := by
    intro a3 hno
    refine Ev.iconst (v := -1) dX5_less_44 (by decide) ?_
    refine Ev.iret dX5_less_45 rfl rfl ?_
    rw [sp_less, if_neg (fun z => hno z.1)]
    exact ⟨_, rfl, rfl, q, na, hC0, SQ.rf, Fr.rf⟩
  refine Ct.of (ls := [some (.ref (q 0)), some (.int o), some (.int t), none]) (by decide) (by decide) rfl rfl rfl ?_
  refine Ev.ald0 dX5_less_0 ?_
  apply Ev.getf dX5_less_1 fX5_19
  · repeat (first | assumption | (refine gt_upI ?_; (repeat (first | exact In_of (gt_nw (by assumption)) | (apply In_of; assumption) | refine In_up ?_ | refine In_nw ?_)); done) | refine gt_rd (by first | assumption | (apply Ne.symm; assumption) | (exact hj _ _ (by omega) (by omega) (by omega)) | omega) ?_ | exact gt_nw (by assumption) | refine gt_odr (by first | assumption | (apply Ne.symm; assumption) | omega) ?_)
  · first | rfl | assumption
  apply Ev.getf dX5_less_4 fX5_80
  · repeat (first | assumption | (refine gt_upI ?_; (repeat (first | exact In_of (gt_nw (by assumption)) | (apply In_of; assumption) | refine In_up ?_ | refine In_nw ?_)); done) | refine gt_rd (by first | assumption | (apply Ne.symm; assumption) | (exact hj _ _ (by omega) (by omega) (by omega)) | omega) ?_ | exact gt_nw (by assumption) | refine gt_odr (by first | assumption | (apply Ne.symm; assumption) | omega) ?_)
  · first | rfl | assumption
  refine Ev.iconst (v := 2) dX5_less_7 (by decide) ?_
  refine Ev.icmp_eq (tgt := 22) dX5_less_8 (by decide) (fun c8 => ?_) (fun c8 => ?_)
  · exact no _ (fun z => z.1.2.2 c8)
  · refine Ev.ald0 dX5_less_11 ?_
    apply Ev.getf dX5_less_12 fX5_19
    · repeat (first | assumption | (refine gt_upI ?_; (repeat (first | exact In_of (gt_nw (by assumption)) | (apply In_of; assumption) | refine In_up ?_ | refine In_nw ?_)); done) | refine gt_rd (by first | assumption | (apply Ne.symm; assumption) | (exact hj _ _ (by omega) (by omega) (by omega)) | omega) ?_ | exact gt_nw (by assumption) | refine gt_odr (by first | assumption | (apply Ne.symm; assumption) | omega) ?_)
    · first | rfl | assumption
    refine Ev.ild1 dX5_less_15 ?_
    refine Ev.cvI (Yc := mX2_stands) (ci := 2) dX5_less_16 lX5_93 vX2_stands rfl (c_stands g40 g41 (by omega)) ?_ rfl rfl rfl rfl ?_
    · apply Exists.intro; repeat (first | assumption | (refine gt_upI ?_; (repeat (first | exact In_of (gt_nw (by assumption)) | (apply In_of; assumption) | refine In_up ?_ | refine In_nw ?_)); done) | refine gt_rd (by first | assumption | (apply Ne.symm; assumption) | (exact hj _ _ (by omega) (by omega) (by omega)) | omega) ?_ | exact gt_nw (by assumption) | refine gt_odr (by first | assumption | (apply Ne.symm; assumption) | omega) ?_)
    rintro y M' ⟨rfl, hy⟩
    refine Ev.if_ne (tgt := 24) dX5_less_19 (by decide) (fun c19 => ?_) (fun c19 => ?_)
    · rcases hy with ⟨k, hk, ho, h7, -⟩ | ⟨-, hy⟩
      · have hcc := st_cch hS.1.1 gf c8 hk ho h7
        have eo : o.toNatClampNeg = k := by rw [ho]; exact nI_clamp (by omega)
        refine Ev.ald0 dX5_less_24 ?_
        apply Ev.getf dX5_less_25 fX5_19
        · repeat (first | assumption | (refine gt_upI ?_; (repeat (first | exact In_of (gt_nw (by assumption)) | (apply In_of; assumption) | refine In_up ?_ | refine In_nw ?_)); done) | refine gt_rd (by first | assumption | (apply Ne.symm; assumption) | (exact hj _ _ (by omega) (by omega) (by omega)) | omega) ?_ | exact gt_nw (by assumption) | refine gt_odr (by first | assumption | (apply Ne.symm; assumption) | omega) ?_)
        · first | rfl | assumption
        refine Ev.ild1 dX5_less_28 ?_
        refine Ev.iconst (v := 2) dX5_less_29 (by decide) ?_
        refine Ev.cvI (Yc := mX2_get) (ci := 2) dX5_less_30 lX5_97 vX2_get rfl (c_get k 2 ho rfl g40 g41 (by omega) (by omega)) ?_ rfl rfl rfl rfl ?_
        · apply Exists.intro; repeat (first | assumption | (refine gt_upI ?_; (repeat (first | exact In_of (gt_nw (by assumption)) | (apply In_of; assumption) | refine In_up ?_ | refine In_nw ?_)); done) | refine gt_rd (by first | assumption | (apply Ne.symm; assumption) | (exact hj _ _ (by omega) (by omega) (by omega)) | omega) ?_ | exact gt_nw (by assumption) | refine gt_odr (by first | assumption | (apply Ne.symm; assumption) | omega) ?_)
        rintro y2 M' ⟨hy2, rfl⟩
        rw [gf.at (i := 2) hk (by decide)] at hy2
        obtain ⟨qv, qv1, qv2⟩ := hS.1.1.2.2.1.q hk
        have qv2 : S.1.1 (8 * k + 2) = nI qv := qv2
        have hq1 : 1 ≤ qv := by
          obtain ⟨s, kd, qq, pr, sh, le, ow, gg, e0, e1, e2, e3, e4, e5, e6, e7, b0, b1, b2, b3, b4, b5, b6, b7, b8, b9, b10, b11⟩ := hS.1.1.2.2.1 k hk
          have h7' : S.1.1 (8 * k + 7) = 0 := by rw [← gf.at (i := 7) hk (by decide)]; exact h7
          rw [e7] at h7'
          have := b10 ((nI_eq (b := 0) (by omega) (by omega)).mp h7')
          rw [e2] at qv2
          have := (nI_eq (by omega) (by omega)).mp qv2
          omega
        have em1 : S.1.1 (8 * k + 2) - 1 = nI (qv - 1) := by rw [qv2]; exact nI_subI (b := 1) hq1
        refine Ev.ist3 dX5_less_33 rfl rfl ?_
        refine Ev.ild2 dX5_less_34 ?_
        refine Ev.iconst (v := 1) dX5_less_35 (by decide) ?_
        refine Ev.icmp_lt (tgt := 44) dX5_less_36 (by decide) (fun c36 => ?_) (fun c36 => ?_)
        · exact no2 _ (fun z => absurd z.2.1 (Int32.not_le.mpr c36))
        · refine Ev.ild2 dX5_less_39 ?_
          refine Ev.ild3 dX5_less_40 ?_
          have t1 : 1 ≤ t := Int32.not_lt.mp c36
          have lt_iff : (t < y2) ↔ t ≤ S.1.1 (8 * o.toNatClampNeg + 2) - 1 := by
            have a1 : (nI qv).toInt = qv := by rw [nI_iI]; exact iI_toInt (by omega) (by omega)
            have a2 : (nI (qv - 1)).toInt = (qv - 1 : Nat) := by rw [nI_iI]; exact iI_toInt (by omega) (by omega)
            rw [eo, em1, hy2, qv2, Int32.lt_iff_toInt_lt, Int32.le_iff_toInt_le, a1, a2]
            omega
          refine Ev.icmp_lt (tgt := 46) dX5_less_41 (by decide) (fun c41 => ?_) (fun c41 => ?_)
          · have hcond : cch S.1.1 o ∧ (1 ≤ t ∧ t ≤ S.1.1 (8 * o.toNatClampNeg + 2) - 1) := ⟨hcc, t1, lt_iff.mp c41⟩
            have t2 : t ≤ S.1.1 (8 * k + 2) := by
              rw [hy2, qv2] at c41
              rw [qv2]
              exact Int32.le_of_lt c41
            refine Ev.ald0 dX5_less_46 ?_
            apply Ev.getf dX5_less_47 fX5_23
            · repeat (first | assumption | (refine gt_upI ?_; (repeat (first | exact In_of (gt_nw (by assumption)) | (apply In_of; assumption) | refine In_up ?_ | refine In_nw ?_)); done) | refine gt_rd (by first | assumption | (apply Ne.symm; assumption) | (exact hj _ _ (by omega) (by omega) (by omega)) | omega) ?_ | exact gt_nw (by assumption) | refine gt_odr (by first | assumption | (apply Ne.symm; assumption) | omega) ?_)
            · first | rfl | assumption
            refine Ev.ald0 dX5_less_50 ?_
            apply Ev.getf dX5_less_51 fX5_19
            · repeat (first | assumption | (refine gt_upI ?_; (repeat (first | exact In_of (gt_nw (by assumption)) | (apply In_of; assumption) | refine In_up ?_ | refine In_nw ?_)); done) | refine gt_rd (by first | assumption | (apply Ne.symm; assumption) | (exact hj _ _ (by omega) (by omega) (by omega)) | omega) ?_ | exact gt_nw (by assumption) | refine gt_odr (by first | assumption | (apply Ne.symm; assumption) | omega) ?_)
            · first | rfl | assumption
            refine Ev.cvV (Yc := mX2_become) (ci := 2) dX5_less_54 lX5_83 vX2_become rfl (k_become hC0 hS) ?_ rfl rfl rfl rfl ?_
            · apply Exists.intro; repeat (first | assumption | (refine gt_upI ?_; (repeat (first | exact In_of (gt_nw (by assumption)) | (apply In_of; assumption) | refine In_up ?_ | refine In_nw ?_)); done) | refine gt_rd (by first | assumption | (apply Ne.symm; assumption) | (exact hj _ _ (by omega) (by omega) (by omega)) | omega) ?_ | exact gt_nw (by assumption) | refine gt_odr (by first | assumption | (apply Ne.symm; assumption) | omega) ?_)
            rintro M1 ⟨f', hf', rfl⟩
            generalize hX : up (up M' (q 43) _) (q 44) _ = X
            have x43 : gt X (q 43) = some (bk (q 44) (q 45) (bn S.1.1) (S.1.1 329) (S.1.1 330) (S.1.1 331) (S.1.1 332)) := by rw [← hX]; exact (by repeat (first | assumption | (refine gt_upI ?_; (repeat (first | exact In_of (gt_nw (by assumption)) | (apply In_of; assumption) | refine In_up ?_ | refine In_nw ?_)); done) | refine gt_rd (by first | assumption | (apply Ne.symm; assumption) | (exact hj _ _ (by omega) (by omega) (by omega)) | omega) ?_ | exact gt_nw (by assumption) | refine gt_odr (by first | assumption | (apply Ne.symm; assumption) | omega) ?_))
            have x44 : gt X (q 44) = some (ia 0 328 f') := by rw [← hX]; exact (by repeat (first | assumption | (refine gt_upI ?_; (repeat (first | exact In_of (gt_nw (by assumption)) | (apply In_of; assumption) | refine In_up ?_ | refine In_nw ?_)); done) | refine gt_rd (by first | assumption | (apply Ne.symm; assumption) | (exact hj _ _ (by omega) (by omega) (by omega)) | omega) ?_ | exact gt_nw (by assumption) | refine gt_odr (by first | assumption | (apply Ne.symm; assumption) | omega) ?_))
            have x45 : gt X (q 45) = some (ia 0 320 g2) := by rw [← hX]; exact (by repeat (first | assumption | (refine gt_upI ?_; (repeat (first | exact In_of (gt_nw (by assumption)) | (apply In_of; assumption) | refine In_up ?_ | refine In_nw ?_)); done) | refine gt_rd (by first | assumption | (apply Ne.symm; assumption) | (exact hj _ _ (by omega) (by omega) (by omega)) | omega) ?_ | exact gt_nw (by assumption) | refine gt_odr (by first | assumption | (apply Ne.symm; assumption) | omega) ?_))
            have hF : Fr ([43, 44, 45].map q) M' X := by rw [← hX]; exact (Fr.rf.pt (by simp)).pt (by simp)
            have k0 := (hC0.dr hF ⟨_, _, _, _, _, _, _, x43, x44, x45⟩).2.1
            refine Ev.ald0 dX5_less_57 ?_
            apply Ev.getf dX5_less_58 fX5_23
            · repeat (first | assumption | (refine gt_upI ?_; (repeat (first | exact In_of (gt_nw (by assumption)) | (apply In_of; assumption) | refine In_up ?_ | refine In_nw ?_)); done) | refine gt_rd (by first | assumption | (apply Ne.symm; assumption) | (exact hj _ _ (by omega) (by omega) (by omega)) | omega) ?_ | exact gt_nw (by assumption) | refine gt_odr (by first | assumption | (apply Ne.symm; assumption) | omega) ?_)
            · first | rfl | assumption
            refine Ev.ild1 dX5_less_61 ?_
            refine Ev.ild2 dX5_less_62 ?_
            refine Ev.cvV (Yc := mX2_lower) (ci := 2) dX5_less_63 lX5_105 vX2_lower rfl (c_lower k ho (by omega) (hj _ _ (by decide) (by decide) (by decide)) x43 x44) ?_ rfl rfl rfl rfl ?_
            · apply Exists.intro; repeat (first | assumption | (refine gt_upI ?_; (repeat (first | exact In_of (gt_nw (by assumption)) | (apply In_of; assumption) | refine In_up ?_ | refine In_nw ?_)); done) | refine gt_rd (by first | assumption | (apply Ne.symm; assumption) | (exact hj _ _ (by omega) (by omega) (by omega)) | omega) ?_ | exact gt_nw (by assumption) | refine gt_odr (by first | assumption | (apply Ne.symm; assumption) | omega) ?_)
            rintro M2 rfl
            generalize hY : up X (q 44) _ = Y
            have y43 : gt Y (q 43) = some (bk (q 44) (q 45) (bn S.1.1) (S.1.1 329) (S.1.1 330) (S.1.1 331) (S.1.1 332)) := by rw [← hY]; exact (by repeat (first | assumption | (refine gt_upI ?_; (repeat (first | exact In_of (gt_nw (by assumption)) | (apply In_of; assumption) | refine In_up ?_ | refine In_nw ?_)); done) | refine gt_rd (by first | assumption | (apply Ne.symm; assumption) | (exact hj _ _ (by omega) (by omega) (by omega)) | omega) ?_ | exact gt_nw (by assumption) | refine gt_odr (by first | assumption | (apply Ne.symm; assumption) | omega) ?_))
            have y44 : gt Y (q 44) = some (ia 0 328 (low f' k t)) := by rw [← hY]; exact (by repeat (first | assumption | (refine gt_upI ?_; (repeat (first | exact In_of (gt_nw (by assumption)) | (apply In_of; assumption) | refine In_up ?_ | refine In_nw ?_)); done) | refine gt_rd (by first | assumption | (apply Ne.symm; assumption) | (exact hj _ _ (by omega) (by omega) (by omega)) | omega) ?_ | exact gt_nw (by assumption) | refine gt_odr (by first | assumption | (apply Ne.symm; assumption) | omega) ?_))
            have y45 : gt Y (q 45) = some (ia 0 320 g2) := by rw [← hY]; exact (by repeat (first | assumption | (refine gt_upI ?_; (repeat (first | exact In_of (gt_nw (by assumption)) | (apply In_of; assumption) | refine In_up ?_ | refine In_nw ?_)); done) | refine gt_rd (by first | assumption | (apply Ne.symm; assumption) | (exact hj _ _ (by omega) (by omega) (by omega)) | omega) ?_ | exact gt_nw (by assumption) | refine gt_odr (by first | assumption | (apply Ne.symm; assumption) | omega) ?_))
            have hFY : Fr ([43, 44, 45].map q) M' Y := by rw [← hY]; exact hF.pt (by simp)
            have hCY := hC0.dr hFY ⟨_, _, _, _, _, _, _, y43, y44, y45⟩
            have l0 := hCY.2.1
            have ln : ∀ j, 328 ≤ j → low S.1.1 k t j = S.1.1 j := fun j hj => low_n (by omega)
            have ebn : bn (low S.1.1 k t) = bn S.1.1 := by rw [bn, bn, ln 328 (by decide)]
            have hB : Bk Y (q 43) (q 44) (q 45) (low S.1.1 k t, S.1.2) := ⟨_, g2, by show gt Y (q 43) = some (bk (q 44) (q 45) (bn (low S.1.1 k t)) (low S.1.1 k t 329) (low S.1.1 k t 330) (low S.1.1 k t 331) (low S.1.1 k t 332)); rw [ebn, ln 329 (by decide), ln 330 (by decide), ln 331 (by decide), ln 332 (by decide)]; exact y43, y44, y45, by show Ar (bn (low S.1.1 k t)) _ (low S.1.1 k t); rw [ebn]; exact hf'.lw hk, fun z => by
              have z2 : low S.1.1 k t 329 = 2 := z
              rw [ln 329 (by decide)] at z2
              exact absurd z2 c8⟩
            refine Ev.ald0 dX5_less_66 ?_
            refine Ev.cvI (Yc := mX5_keepUnlessWorse) (ci := 5) dX5_less_67 lX5_90 vX5_keepUnlessWorse rfl (k_kuw hCY hS hB ((hS.1.1.low hk t1 t2).mono (by decide))) ?_ rfl rfl rfl rfl ?_
            · apply Exists.intro; repeat (first | assumption | (refine gt_upI ?_; (repeat (first | exact In_of (gt_nw (by assumption)) | (apply In_of; assumption) | refine In_up ?_ | refine In_nw ?_)); done) | refine gt_rd (by first | assumption | (apply Ne.symm; assumption) | (exact hj _ _ (by omega) (by omega) (by omega)) | omega) ?_ | exact gt_nw (by assumption) | refine gt_odr (by first | assumption | (apply Ne.symm; assumption) | omega) ?_)
            rintro x M3 hx
            have hFq := hFY.q (by decide)
            subst eo
            rw [sp_less]
            rcases hx with ⟨hw, rfl, hK⟩ | ⟨hw, rfl, hK⟩
            · rw [if_neg (fun z => z.2 hw)]
              refine Ev.if_eq (tgt := 77) dX5_less_70 (by decide) (fun c70 => ?_) (fun c70 => ?_)
              · refine Ev.iconst (v := -1) dX5_less_77 (by decide) ?_
                refine Ev.iret dX5_less_78 rfl rfl ?_
                exact ⟨_, rfl, rfl, KR.tr hFq hK⟩
              · exact absurd rfl c70
            · rw [if_pos ⟨hcond, hw⟩]
              refine Ev.if_eq (tgt := 77) dX5_less_70 (by decide) (fun c70 => ?_) (fun c70 => ?_)
              · exact absurd c70 (by decide)
              · refine Ev.ild3 dX5_less_73 ?_
                refine Ev.goto (tgt := 78) dX5_less_74 (by decide) ?_
                refine Ev.iret dX5_less_78 rfl rfl ?_
                exact ⟨_, rfl, hy2, KR.tr hFq hK⟩
          · exact no2 _ (fun z => c41 (lt_iff.mpr z.2.2))
      · exact absurd hy c19
    · rcases hy with ⟨k, hk, ho, h7, hy⟩ | ⟨hno, -⟩
      · rw [hy] at c19; exact absurd c19 (by decide)
      · exact no _ (fun z => st_ncch hS.1.1 gf hno z.1)
end TLD
