/-! gone, with -/
section GON
variable {G : GP} {M : Wd} {q : Nat → Nat} {na : Nat} {S : Sg}
set_option maxRecDepth 20000 in
theorem k_gone {o : Int32} (hC : CR q na S M) (hS : Sok S) : CtI G mX5_gone [.ref (q 0), .int o] M 0 0 (fun x M' => x = (sp_gone S o).1 ∧ KR q (sp_gone S o).2 M M') := by
  have hC0 := hC
  obtain ⟨⟨hj, hna⟩, h0, h1, h2, hA, ⟨f, g, g40, g41, g42, gf, gw⟩, n, ph, rf, lo, hi, f2, g2, d43, d44, d45⟩ := hC
  have hn := hS.1.1.2.1
  have no : ∀ a3, ¬ cch S.1.1 o → Ev G mX5_gone 22 [some (.ref (q 0)), some (.int o), a3] [] M 0 0 (fun v M' => ∃ x : Int32, v = some (.int x) ∧ x = (sp_gone S o).1 ∧ KR q (sp_gone S o).2 M M') := by
    intro a3 hno
    refine Ev.iconst (v := -1) dX5_gone_22 (by decide) ?_
    refine Ev.iret dX5_gone_23 rfl rfl ?_
    rw [sp_gone, if_neg (fun z => hno z.1)]
    exact ⟨_, rfl, rfl, q, na, hC0, SQ.rf, Fr.rf⟩
  refine Ct.of (ls := [some (.ref (q 0)), some (.int o), none]) (by decide) (by decide) rfl rfl rfl ?_
  refine Ev.ald0 dX5_gone_0 ?_
  apply Ev.getf dX5_gone_1 fX5_19
  · repeat (first | assumption | (refine gt_upI ?_; (repeat (first | exact In_of (gt_nw (by assumption)) | (apply In_of; assumption) | refine In_up ?_ | refine In_nw ?_)); done) | refine gt_rd (by first | assumption | (apply Ne.symm; assumption) | (exact hj _ _ (by omega) (by omega) (by omega)) | omega) ?_ | exact gt_nw (by assumption) | refine gt_odr (by first | assumption | (apply Ne.symm; assumption) | omega) ?_)
  · first | rfl | assumption
  apply Ev.getf dX5_gone_4 fX5_80
  · repeat (first | assumption | (refine gt_upI ?_; (repeat (first | exact In_of (gt_nw (by assumption)) | (apply In_of; assumption) | refine In_up ?_ | refine In_nw ?_)); done) | refine gt_rd (by first | assumption | (apply Ne.symm; assumption) | (exact hj _ _ (by omega) (by omega) (by omega)) | omega) ?_ | exact gt_nw (by assumption) | refine gt_odr (by first | assumption | (apply Ne.symm; assumption) | omega) ?_)
  · first | rfl | assumption
  refine Ev.iconst (v := 2) dX5_gone_7 (by decide) ?_
  refine Ev.icmp_eq (tgt := 22) dX5_gone_8 (by decide) (fun c8 => ?_) (fun c8 => ?_)
  · exact no _ (fun z => z.2.2 c8)
  · refine Ev.ald0 dX5_gone_11 ?_
    apply Ev.getf dX5_gone_12 fX5_19
    · repeat (first | assumption | (refine gt_upI ?_; (repeat (first | exact In_of (gt_nw (by assumption)) | (apply In_of; assumption) | refine In_up ?_ | refine In_nw ?_)); done) | refine gt_rd (by first | assumption | (apply Ne.symm; assumption) | (exact hj _ _ (by omega) (by omega) (by omega)) | omega) ?_ | exact gt_nw (by assumption) | refine gt_odr (by first | assumption | (apply Ne.symm; assumption) | omega) ?_)
    · first | rfl | assumption
    refine Ev.ild1 dX5_gone_15 ?_
    refine Ev.cvI (Yc := mX2_stands) (ci := 2) dX5_gone_16 lX5_93 vX2_stands rfl (c_stands g40 g41 (by omega)) ?_ rfl rfl rfl rfl ?_
    · apply Exists.intro; repeat (first | assumption | (refine gt_upI ?_; (repeat (first | exact In_of (gt_nw (by assumption)) | (apply In_of; assumption) | refine In_up ?_ | refine In_nw ?_)); done) | refine gt_rd (by first | assumption | (apply Ne.symm; assumption) | (exact hj _ _ (by omega) (by omega) (by omega)) | omega) ?_ | exact gt_nw (by assumption) | refine gt_odr (by first | assumption | (apply Ne.symm; assumption) | omega) ?_)
    rintro y M' ⟨rfl, hy⟩
    refine Ev.if_ne (tgt := 24) dX5_gone_19 (by decide) (fun c19 => ?_) (fun c19 => ?_)
    · rcases hy with ⟨k, hk, ho, h7, -⟩ | ⟨-, hy⟩
      · have hcc := st_cch hS.1.1 gf c8 hk ho h7
        have eo : o.toNatClampNeg = k := by rw [ho]; exact nI_clamp (by omega)
        refine Ev.ald0 dX5_gone_24 ?_
        apply Ev.getf dX5_gone_25 fX5_19
        · repeat (first | assumption | (refine gt_upI ?_; (repeat (first | exact In_of (gt_nw (by assumption)) | (apply In_of; assumption) | refine In_up ?_ | refine In_nw ?_)); done) | refine gt_rd (by first | assumption | (apply Ne.symm; assumption) | (exact hj _ _ (by omega) (by omega) (by omega)) | omega) ?_ | exact gt_nw (by assumption) | refine gt_odr (by first | assumption | (apply Ne.symm; assumption) | omega) ?_)
        · first | rfl | assumption
        refine Ev.ild1 dX5_gone_28 ?_
        refine Ev.iconst (v := 2) dX5_gone_29 (by decide) ?_
        refine Ev.cvI (Yc := mX2_get) (ci := 2) dX5_gone_30 lX5_97 vX2_get rfl (c_get k 2 ho rfl g40 g41 (by omega) (by omega)) ?_ rfl rfl rfl rfl ?_
        · apply Exists.intro; repeat (first | assumption | (refine gt_upI ?_; (repeat (first | exact In_of (gt_nw (by assumption)) | (apply In_of; assumption) | refine In_up ?_ | refine In_nw ?_)); done) | refine gt_rd (by first | assumption | (apply Ne.symm; assumption) | (exact hj _ _ (by omega) (by omega) (by omega)) | omega) ?_ | exact gt_nw (by assumption) | refine gt_odr (by first | assumption | (apply Ne.symm; assumption) | omega) ?_)
        rintro y2 M' ⟨hy2, rfl⟩
        rw [gf.at (i := 2) hk (by decide)] at hy2
        refine Ev.ist2 dX5_gone_33 rfl rfl ?_
        refine Ev.ald0 dX5_gone_34 ?_
        apply Ev.getf dX5_gone_35 fX5_23
        · repeat (first | assumption | (refine gt_upI ?_; (repeat (first | exact In_of (gt_nw (by assumption)) | (apply In_of; assumption) | refine In_up ?_ | refine In_nw ?_)); done) | refine gt_rd (by first | assumption | (apply Ne.symm; assumption) | (exact hj _ _ (by omega) (by omega) (by omega)) | omega) ?_ | exact gt_nw (by assumption) | refine gt_odr (by first | assumption | (apply Ne.symm; assumption) | omega) ?_)
        · first | rfl | assumption
        refine Ev.ald0 dX5_gone_38 ?_
        apply Ev.getf dX5_gone_39 fX5_19
        · repeat (first | assumption | (refine gt_upI ?_; (repeat (first | exact In_of (gt_nw (by assumption)) | (apply In_of; assumption) | refine In_up ?_ | refine In_nw ?_)); done) | refine gt_rd (by first | assumption | (apply Ne.symm; assumption) | (exact hj _ _ (by omega) (by omega) (by omega)) | omega) ?_ | exact gt_nw (by assumption) | refine gt_odr (by first | assumption | (apply Ne.symm; assumption) | omega) ?_)
        · first | rfl | assumption
        refine Ev.cvV (Yc := mX2_become) (ci := 2) dX5_gone_42 lX5_83 vX2_become rfl (k_become hC0 hS) ?_ rfl rfl rfl rfl ?_
        · apply Exists.intro; repeat (first | assumption | (refine gt_upI ?_; (repeat (first | exact In_of (gt_nw (by assumption)) | (apply In_of; assumption) | refine In_up ?_ | refine In_nw ?_)); done) | refine gt_rd (by first | assumption | (apply Ne.symm; assumption) | (exact hj _ _ (by omega) (by omega) (by omega)) | omega) ?_ | exact gt_nw (by assumption) | refine gt_odr (by first | assumption | (apply Ne.symm; assumption) | omega) ?_)
        rintro M1 ⟨f', hf', rfl⟩
        generalize hX : up (up M' (q 43) _) (q 44) _ = X
        have x43 : gt X (q 43) = some (bk (q 44) (q 45) (bn S.1.1) (S.1.1 329) (S.1.1 330) (S.1.1 331) (S.1.1 332)) := by rw [← hX]; exact (by repeat (first | assumption | (refine gt_upI ?_; (repeat (first | exact In_of (gt_nw (by assumption)) | (apply In_of; assumption) | refine In_up ?_ | refine In_nw ?_)); done) | refine gt_rd (by first | assumption | (apply Ne.symm; assumption) | (exact hj _ _ (by omega) (by omega) (by omega)) | omega) ?_ | exact gt_nw (by assumption) | refine gt_odr (by first | assumption | (apply Ne.symm; assumption) | omega) ?_))
        have x44 : gt X (q 44) = some (ia 0 328 f') := by rw [← hX]; exact (by repeat (first | assumption | (refine gt_upI ?_; (repeat (first | exact In_of (gt_nw (by assumption)) | (apply In_of; assumption) | refine In_up ?_ | refine In_nw ?_)); done) | refine gt_rd (by first | assumption | (apply Ne.symm; assumption) | (exact hj _ _ (by omega) (by omega) (by omega)) | omega) ?_ | exact gt_nw (by assumption) | refine gt_odr (by first | assumption | (apply Ne.symm; assumption) | omega) ?_))
        have x45 : gt X (q 45) = some (ia 0 320 g2) := by rw [← hX]; exact (by repeat (first | assumption | (refine gt_upI ?_; (repeat (first | exact In_of (gt_nw (by assumption)) | (apply In_of; assumption) | refine In_up ?_ | refine In_nw ?_)); done) | refine gt_rd (by first | assumption | (apply Ne.symm; assumption) | (exact hj _ _ (by omega) (by omega) (by omega)) | omega) ?_ | exact gt_nw (by assumption) | refine gt_odr (by first | assumption | (apply Ne.symm; assumption) | omega) ?_))
        have hF : Fr ([43, 44, 45].map q) M' X := by rw [← hX]; exact (Fr.rf.pt (by simp)).pt (by simp)
        have k0 := (hC0.dr hF ⟨_, _, _, _, _, _, _, x43, x44, x45⟩).2.1
        refine Ev.ald0 dX5_gone_45 ?_
        apply Ev.getf dX5_gone_46 fX5_23
        · repeat (first | assumption | (refine gt_upI ?_; (repeat (first | exact In_of (gt_nw (by assumption)) | (apply In_of; assumption) | refine In_up ?_ | refine In_nw ?_)); done) | refine gt_rd (by first | assumption | (apply Ne.symm; assumption) | (exact hj _ _ (by omega) (by omega) (by omega)) | omega) ?_ | exact gt_nw (by assumption) | refine gt_odr (by first | assumption | (apply Ne.symm; assumption) | omega) ?_)
        · first | rfl | assumption
        refine Ev.ild1 dX5_gone_49 ?_
        refine Ev.bipush (v := 7) dX5_gone_50 (by decide) ?_
        refine Ev.iconst (v := 1) dX5_gone_52 (by decide) ?_
        refine Ev.cvV (Yc := mX2_set) (ci := 2) dX5_gone_53 lX5_101 vX2_set rfl (c_set k 7 ho rfl x43 x44 (by omega) (by omega)) ?_ rfl rfl rfl rfl ?_
        · apply Exists.intro; repeat (first | assumption | (refine gt_upI ?_; (repeat (first | exact In_of (gt_nw (by assumption)) | (apply In_of; assumption) | refine In_up ?_ | refine In_nw ?_)); done) | refine gt_rd (by first | assumption | (apply Ne.symm; assumption) | (exact hj _ _ (by omega) (by omega) (by omega)) | omega) ?_ | exact gt_nw (by assumption) | refine gt_odr (by first | assumption | (apply Ne.symm; assumption) | omega) ?_)
        rintro M2 rfl
        generalize hY : up X (q 44) _ = Y
        have y43 : gt Y (q 43) = some (bk (q 44) (q 45) (bn S.1.1) (S.1.1 329) (S.1.1 330) (S.1.1 331) (S.1.1 332)) := by rw [← hY]; exact (by repeat (first | assumption | (refine gt_upI ?_; (repeat (first | exact In_of (gt_nw (by assumption)) | (apply In_of; assumption) | refine In_up ?_ | refine In_nw ?_)); done) | refine gt_rd (by first | assumption | (apply Ne.symm; assumption) | (exact hj _ _ (by omega) (by omega) (by omega)) | omega) ?_ | exact gt_nw (by assumption) | refine gt_odr (by first | assumption | (apply Ne.symm; assumption) | omega) ?_))
        have y44 : gt Y (q 44) = some (ia 0 328 (upd f' (8 * k + 7) 1)) := by rw [← hY]; exact (by repeat (first | assumption | (refine gt_upI ?_; (repeat (first | exact In_of (gt_nw (by assumption)) | (apply In_of; assumption) | refine In_up ?_ | refine In_nw ?_)); done) | refine gt_rd (by first | assumption | (apply Ne.symm; assumption) | (exact hj _ _ (by omega) (by omega) (by omega)) | omega) ?_ | exact gt_nw (by assumption) | refine gt_odr (by first | assumption | (apply Ne.symm; assumption) | omega) ?_))
        have y45 : gt Y (q 45) = some (ia 0 320 g2) := by rw [← hY]; exact (by repeat (first | assumption | (refine gt_upI ?_; (repeat (first | exact In_of (gt_nw (by assumption)) | (apply In_of; assumption) | refine In_up ?_ | refine In_nw ?_)); done) | refine gt_rd (by first | assumption | (apply Ne.symm; assumption) | (exact hj _ _ (by omega) (by omega) (by omega)) | omega) ?_ | exact gt_nw (by assumption) | refine gt_odr (by first | assumption | (apply Ne.symm; assumption) | omega) ?_))
        have hFY : Fr ([43, 44, 45].map q) M' Y := by rw [← hY]; exact hF.pt (by simp)
        have hCY := hC0.dr hFY ⟨_, _, _, _, _, _, _, y43, y44, y45⟩
        have l0 := hCY.2.1
        have ln : ∀ j, 328 ≤ j → upd S.1.1 (8 * k + 7) 1 j = S.1.1 j := fun j hj => pk_un (by omega)
        have ebn : bn (upd S.1.1 (8 * k + 7) 1) = bn S.1.1 := by rw [bn, bn, ln 328 (by decide)]
        have hB : Bk Y (q 43) (q 44) (q 45) (upd S.1.1 (8 * k + 7) 1, S.1.2) := ⟨_, g2, by show gt Y (q 43) = some (bk (q 44) (q 45) (bn (upd S.1.1 (8 * k + 7) 1)) (upd S.1.1 (8 * k + 7) 1 329) (upd S.1.1 (8 * k + 7) 1 330) (upd S.1.1 (8 * k + 7) 1 331) (upd S.1.1 (8 * k + 7) 1 332)); rw [ebn, ln 329 (by decide), ln 330 (by decide), ln 331 (by decide), ln 332 (by decide)]; exact y43, y44, y45, by show Ar (bn (upd S.1.1 (8 * k + 7) 1)) _ (upd S.1.1 (8 * k + 7) 1); rw [ebn]; exact hf'.up, fun z => by
          have z2 : upd S.1.1 (8 * k + 7) 1 329 = 2 := z
          rw [ln 329 (by decide)] at z2
          exact absurd z2 c8⟩
        refine Ev.ald0 dX5_gone_56 ?_
        refine Ev.cvI (Yc := mX5_keepUnlessWorse) (ci := 5) dX5_gone_57 lX5_90 vX5_keepUnlessWorse rfl (k_kuw hCY hS hB ((hS.1.1.gn hk).mono (by decide))) ?_ rfl rfl rfl rfl ?_
        · apply Exists.intro; repeat (first | assumption | (refine gt_upI ?_; (repeat (first | exact In_of (gt_nw (by assumption)) | (apply In_of; assumption) | refine In_up ?_ | refine In_nw ?_)); done) | refine gt_rd (by first | assumption | (apply Ne.symm; assumption) | (exact hj _ _ (by omega) (by omega) (by omega)) | omega) ?_ | exact gt_nw (by assumption) | refine gt_odr (by first | assumption | (apply Ne.symm; assumption) | omega) ?_)
        rintro x M3 hx
        have hFq := hFY.q (by decide)
        have hx2 : (S.1.1 329 = 1 ∧ ab (xR S.1.1 (-1)) < ab (xR S.1.1 o)) ∧ x = 0 ∧ KR q S Y M3 ∨ ¬ (S.1.1 329 = 1 ∧ ab (xR S.1.1 (-1)) < ab (xR S.1.1 o)) ∧ x = 1 ∧ KR q (psh S (upd S.1.1 (8 * k + 7) 1, S.1.2)) Y M3 := by
          have e := xR_gone hS.1.1 hk
          rw [← ho] at e
          rw [← e]
          exact hx
        clear hx
        subst eo
        rw [sp_gone]
        rcases hx2 with ⟨hw, rfl, hK⟩ | ⟨hw, rfl, hK⟩
        · rw [if_neg (fun z => z.2 hw)]
          refine Ev.if_eq (tgt := 67) dX5_gone_60 (by decide) (fun c60 => ?_) (fun c60 => ?_)
          · refine Ev.iconst (v := -1) dX5_gone_67 (by decide) ?_
            refine Ev.iret dX5_gone_68 rfl rfl ?_
            exact ⟨_, rfl, rfl, KR.tr hFq hK⟩
          · exact absurd rfl c60
        · rw [if_pos ⟨hcc, hw⟩]
          refine Ev.if_eq (tgt := 67) dX5_gone_60 (by decide) (fun c60 => ?_) (fun c60 => ?_)
          · exact absurd c60 (by decide)
          · refine Ev.ild2 dX5_gone_63 ?_
            refine Ev.goto (tgt := 68) dX5_gone_64 (by decide) ?_
            refine Ev.iret dX5_gone_68 rfl rfl ?_
            exact ⟨_, rfl, hy2, KR.tr hFq hK⟩
      · exact absurd hy c19
    · rcases hy with ⟨k, hk, ho, h7, hy⟩ | ⟨hno, -⟩
      · rw [hy] at c19; exact absurd c19 (by decide)
      · exact no _ (fun z => st_ncch hS.1.1 gf hno z)
set_option maxRecDepth 20000 in
theorem k_with {s k t p : Int32} (hC : CR q na S M) (hS : Sok S) : CtI G mX5_with [.ref (q 0), .int s, .int k, .int t, .int p] M 0 0 (fun x M' => x = an_with S s k t p ∧ KR q S M M') := by
  have hC0 := hC
  obtain ⟨⟨hj, hna⟩, h0, h1, h2, hA, ⟨f, g, g40, g41, g42, gf, gw⟩, n, ph, rf, lo, hi, f2, g2, d43, d44, d45⟩ := hC
  have hn := hS.1.1.2.1
  have no : ¬ (isT s k t p ∧ S.1.1 329 ≠ 2) → Ev G mX5_with 22 [some (.ref (q 0)), some (.int s), some (.int k), some (.int t), some (.int p)] [] M 0 0 (fun v M' => ∃ x : Int32, v = some (.int x) ∧ x = an_with S s k t p ∧ KR q S M M') := by
    intro hno
    refine Ev.bipush (v := -2) dX5_with_22 (by decide) ?_
    refine Ev.iret dX5_with_24 rfl rfl ?_
    rw [an_with, if_neg hno]
    exact ⟨_, rfl, rfl, q, na, hC0, SQ.rf, Fr.rf⟩
  refine Ct.of (ls := [some (.ref (q 0)), some (.int s), some (.int k), some (.int t), some (.int p)]) (by decide) (by decide) rfl rfl rfl ?_
  refine Ev.ald0 dX5_with_0 ?_
  apply Ev.getf dX5_with_1 fX5_19
  · repeat (first | assumption | (refine gt_upI ?_; (repeat (first | exact In_of (gt_nw (by assumption)) | (apply In_of; assumption) | refine In_up ?_ | refine In_nw ?_)); done) | refine gt_rd (by first | assumption | (apply Ne.symm; assumption) | (exact hj _ _ (by omega) (by omega) (by omega)) | omega) ?_ | exact gt_nw (by assumption) | refine gt_odr (by first | assumption | (apply Ne.symm; assumption) | omega) ?_)
  · first | rfl | assumption
  apply Ev.getf dX5_with_4 fX5_80
  · repeat (first | assumption | (refine gt_upI ?_; (repeat (first | exact In_of (gt_nw (by assumption)) | (apply In_of; assumption) | refine In_up ?_ | refine In_nw ?_)); done) | refine gt_rd (by first | assumption | (apply Ne.symm; assumption) | (exact hj _ _ (by omega) (by omega) (by omega)) | omega) ?_ | exact gt_nw (by assumption) | refine gt_odr (by first | assumption | (apply Ne.symm; assumption) | omega) ?_)
  · first | rfl | assumption
  refine Ev.iconst (v := 2) dX5_with_7 (by decide) ?_
  refine Ev.icmp_eq (tgt := 22) dX5_with_8 (by decide) (fun c8 => ?_) (fun c8 => ?_)
  · exact no (fun z => z.2 c8)
  · refine Ev.ild1 dX5_with_11 ?_
    refine Ev.ild2 dX5_with_12 ?_
    refine Ev.ild3 dX5_with_13 ?_
    refine Ev.ild4 dX5_with_14 ?_
    refine Ev.csI (Yc := mX5_canBe) dX5_with_16 lX5_72 vX5_canBe rfl k_canBe rfl rfl rfl ?_
    rintro y M' ⟨rfl, hy⟩
    refine Ev.if_ne (tgt := 25) dX5_with_19 (by decide) (fun c19 => ?_) (fun c19 => ?_)
    · rcases hy with ⟨t1, -⟩ | ⟨-, hy⟩
      · refine Ev.ald0 dX5_with_25 ?_
        apply Ev.getf dX5_with_26 fX5_23
        · repeat (first | assumption | (refine gt_upI ?_; (repeat (first | exact In_of (gt_nw (by assumption)) | (apply In_of; assumption) | refine In_up ?_ | refine In_nw ?_)); done) | refine gt_rd (by first | assumption | (apply Ne.symm; assumption) | (exact hj _ _ (by omega) (by omega) (by omega)) | omega) ?_ | exact gt_nw (by assumption) | refine gt_odr (by first | assumption | (apply Ne.symm; assumption) | omega) ?_)
        · first | rfl | assumption
        refine Ev.ald0 dX5_with_29 ?_
        apply Ev.getf dX5_with_30 fX5_19
        · repeat (first | assumption | (refine gt_upI ?_; (repeat (first | exact In_of (gt_nw (by assumption)) | (apply In_of; assumption) | refine In_up ?_ | refine In_nw ?_)); done) | refine gt_rd (by first | assumption | (apply Ne.symm; assumption) | (exact hj _ _ (by omega) (by omega) (by omega)) | omega) ?_ | exact gt_nw (by assumption) | refine gt_odr (by first | assumption | (apply Ne.symm; assumption) | omega) ?_)
        · first | rfl | assumption
        refine Ev.cvV (Yc := mX2_become) (ci := 2) dX5_with_33 lX5_83 vX2_become rfl (k_become hC0 hS) ?_ rfl rfl rfl rfl ?_
        · apply Exists.intro; repeat (first | assumption | (refine gt_upI ?_; (repeat (first | exact In_of (gt_nw (by assumption)) | (apply In_of; assumption) | refine In_up ?_ | refine In_nw ?_)); done) | refine gt_rd (by first | assumption | (apply Ne.symm; assumption) | (exact hj _ _ (by omega) (by omega) (by omega)) | omega) ?_ | exact gt_nw (by assumption) | refine gt_odr (by first | assumption | (apply Ne.symm; assumption) | omega) ?_)
        rintro M1 ⟨f', hf', rfl⟩
        generalize hX : up (up M' (q 43) _) (q 44) _ = X
        have x43 : gt X (q 43) = some (bk (q 44) (q 45) (bn S.1.1) (S.1.1 329) (S.1.1 330) (S.1.1 331) (S.1.1 332)) := by rw [← hX]; exact (by repeat (first | assumption | (refine gt_upI ?_; (repeat (first | exact In_of (gt_nw (by assumption)) | (apply In_of; assumption) | refine In_up ?_ | refine In_nw ?_)); done) | refine gt_rd (by first | assumption | (apply Ne.symm; assumption) | (exact hj _ _ (by omega) (by omega) (by omega)) | omega) ?_ | exact gt_nw (by assumption) | refine gt_odr (by first | assumption | (apply Ne.symm; assumption) | omega) ?_))
        have x44 : gt X (q 44) = some (ia 0 328 f') := by rw [← hX]; exact (by repeat (first | assumption | (refine gt_upI ?_; (repeat (first | exact In_of (gt_nw (by assumption)) | (apply In_of; assumption) | refine In_up ?_ | refine In_nw ?_)); done) | refine gt_rd (by first | assumption | (apply Ne.symm; assumption) | (exact hj _ _ (by omega) (by omega) (by omega)) | omega) ?_ | exact gt_nw (by assumption) | refine gt_odr (by first | assumption | (apply Ne.symm; assumption) | omega) ?_))
        have x45 : gt X (q 45) = some (ia 0 320 g2) := by rw [← hX]; exact (by repeat (first | assumption | (refine gt_upI ?_; (repeat (first | exact In_of (gt_nw (by assumption)) | (apply In_of; assumption) | refine In_up ?_ | refine In_nw ?_)); done) | refine gt_rd (by first | assumption | (apply Ne.symm; assumption) | (exact hj _ _ (by omega) (by omega) (by omega)) | omega) ?_ | exact gt_nw (by assumption) | refine gt_odr (by first | assumption | (apply Ne.symm; assumption) | omega) ?_))
        have hF : Fr ([43, 44, 45].map q) M' X := by rw [← hX]; exact (Fr.rf.pt (by simp)).pt (by simp)
        have k0 := (hC0.dr hF ⟨_, _, _, _, _, _, _, x43, x44, x45⟩).2.1
        refine Ev.ald0 dX5_with_36 ?_
        apply Ev.getf dX5_with_37 fX5_23
        · repeat (first | assumption | (refine gt_upI ?_; (repeat (first | exact In_of (gt_nw (by assumption)) | (apply In_of; assumption) | refine In_up ?_ | refine In_nw ?_)); done) | refine gt_rd (by first | assumption | (apply Ne.symm; assumption) | (exact hj _ _ (by omega) (by omega) (by omega)) | omega) ?_ | exact gt_nw (by assumption) | refine gt_odr (by first | assumption | (apply Ne.symm; assumption) | omega) ?_)
        · first | rfl | assumption
        refine Ev.ild1 dX5_with_40 ?_
        refine Ev.ild2 dX5_with_41 ?_
        refine Ev.ild3 dX5_with_42 ?_
        refine Ev.ild4 dX5_with_43 ?_
        refine Ev.ild3 dX5_with_45 ?_
        refine Ev.iconst (v := 0) dX5_with_46 (by decide) ?_
        refine Ev.iconst (v := 0) dX5_with_47 (by decide) ?_
        refine Ev.cvI (Yc := mX2_add) (ci := 2) dX5_with_48 lX5_86 vX2_add rfl (c_add x43 x44 (by omega) (hj _ _ (by decide) (by decide) (by decide))) ?_ rfl rfl rfl rfl ?_
        · apply Exists.intro; repeat (first | assumption | (refine gt_upI ?_; (repeat (first | exact In_of (gt_nw (by assumption)) | (apply In_of; assumption) | refine In_up ?_ | refine In_nw ?_)); done) | refine gt_rd (by first | assumption | (apply Ne.symm; assumption) | (exact hj _ _ (by omega) (by omega) (by omega)) | omega) ?_ | exact gt_nw (by assumption) | refine gt_odr (by first | assumption | (apply Ne.symm; assumption) | omega) ?_)
        rintro x M2 ⟨rfl, rfl⟩
        generalize hY : up (up X (q 43) _) (q 44) _ = Y
        have y43 : gt Y (q 43) = some (bk (q 44) (q 45) (bn S.1.1 + 1) (S.1.1 329) (S.1.1 330) (S.1.1 331) (S.1.1 332)) := by rw [← hY]; exact (by repeat (first | assumption | (refine gt_upI ?_; (repeat (first | exact In_of (gt_nw (by assumption)) | (apply In_of; assumption) | refine In_up ?_ | refine In_nw ?_)); done) | refine gt_rd (by first | assumption | (apply Ne.symm; assumption) | (exact hj _ _ (by omega) (by omega) (by omega)) | omega) ?_ | exact gt_nw (by assumption) | refine gt_odr (by first | assumption | (apply Ne.symm; assumption) | omega) ?_))
        have y44 : gt Y (q 44) = some (ia 0 328 (add8 f' (bn S.1.1) s k t p t 0 0)) := by rw [← hY]; exact (by repeat (first | assumption | (refine gt_upI ?_; (repeat (first | exact In_of (gt_nw (by assumption)) | (apply In_of; assumption) | refine In_up ?_ | refine In_nw ?_)); done) | refine gt_rd (by first | assumption | (apply Ne.symm; assumption) | (exact hj _ _ (by omega) (by omega) (by omega)) | omega) ?_ | exact gt_nw (by assumption) | refine gt_odr (by first | assumption | (apply Ne.symm; assumption) | omega) ?_))
        have y45 : gt Y (q 45) = some (ia 0 320 g2) := by rw [← hY]; exact (by repeat (first | assumption | (refine gt_upI ?_; (repeat (first | exact In_of (gt_nw (by assumption)) | (apply In_of; assumption) | refine In_up ?_ | refine In_nw ?_)); done) | refine gt_rd (by first | assumption | (apply Ne.symm; assumption) | (exact hj _ _ (by omega) (by omega) (by omega)) | omega) ?_ | exact gt_nw (by assumption) | refine gt_odr (by first | assumption | (apply Ne.symm; assumption) | omega) ?_))
        have hFY : Fr ([43, 44, 45].map q) M' Y := by rw [← hY]; exact (hF.pt (by simp)).pt (by simp)
        have hCY := hC0.dr hFY ⟨_, _, _, _, _, _, _, y43, y44, y45⟩
        have l0 := hCY.2.1
        have hAY := hCY.2.2.2.2.1
        obtain ⟨fsy, y13⟩ := hAY.ob
        have y13' : gt Y (q 13) = some (ob 0 fsy) := y13
        have ebn : bn (ad1 S.1.1 s k t p t 0 0) = bn S.1.1 + 1 := ad1_n hn
        have t0 : 0 ≤ t := Int32.le_trans (by decide) t1.2.2.1.1
        have hBW : BW 41 (ad1 S.1.1 s k t p t 0 0) := (hS.1.1.ad1 (sh := t) (le := 0) (ow := 0) t1 (Or.inr ⟨t1.2.2.1.1, Int32.le_refl _⟩) ⟨by decide, t0⟩ (by decide)).mono (by omega)
        have y43' : gt Y (q 43) = some (bk (q 44) (q 45) (bn (ad1 S.1.1 s k t p t 0 0)) (S.1.1 329) (ad1 S.1.1 s k t p t 0 0 330) (ad1 S.1.1 s k t p t 0 0 331) (ad1 S.1.1 s k t p t 0 0 332)) := by rw [ebn, ad1_hi hn (show 328 < 330 by decide), ad1_hi hn (show 328 < 331 by decide), ad1_hi hn (show 328 < 332 by decide)]; exact y43
        refine Ev.pop dX5_with_51 rfl ?_
        refine Ev.ald0 dX5_with_52 ?_
        apply Ev.getf dX5_with_53 fX5_31
        · repeat (first | assumption | (refine gt_upI ?_; (repeat (first | exact In_of (gt_nw (by assumption)) | (apply In_of; assumption) | refine In_up ?_ | refine In_nw ?_)); done) | refine gt_rd (by first | assumption | (apply Ne.symm; assumption) | (exact hj _ _ (by omega) (by omega) (by omega)) | omega) ?_ | exact gt_nw (by assumption) | refine gt_odr (by first | assumption | (apply Ne.symm; assumption) | omega) ?_)
        · first | rfl | assumption
        refine Ev.ald0 dX5_with_56 ?_
        apply Ev.getf dX5_with_57 fX5_23
        · repeat (first | assumption | (refine gt_upI ?_; (repeat (first | exact In_of (gt_nw (by assumption)) | (apply In_of; assumption) | refine In_up ?_ | refine In_nw ?_)); done) | refine gt_rd (by first | assumption | (apply Ne.symm; assumption) | (exact hj _ _ (by omega) (by omega) (by omega)) | omega) ?_ | exact gt_nw (by assumption) | refine gt_odr (by first | assumption | (apply Ne.symm; assumption) | omega) ?_)
        · first | rfl | assumption
        refine Ev.ald0 dX5_with_60 ?_
        apply Ev.getf dX5_with_61 fX5_23
        · repeat (first | assumption | (refine gt_upI ?_; (repeat (first | exact In_of (gt_nw (by assumption)) | (apply In_of; assumption) | refine In_up ?_ | refine In_nw ?_)); done) | refine gt_rd (by first | assumption | (apply Ne.symm; assumption) | (exact hj _ _ (by omega) (by omega) (by omega)) | omega) ?_ | exact gt_nw (by assumption) | refine gt_odr (by first | assumption | (apply Ne.symm; assumption) | omega) ?_)
        · first | rfl | assumption
        apply Ev.getr dX5_with_64 fX5_212
        · repeat (first | assumption | (refine gt_upI ?_; (repeat (first | exact In_of (gt_nw (by assumption)) | (apply In_of; assumption) | refine In_up ?_ | refine In_nw ?_)); done) | refine gt_rd (by first | assumption | (apply Ne.symm; assumption) | (exact hj _ _ (by omega) (by omega) (by omega)) | omega) ?_ | exact gt_nw (by assumption) | refine gt_odr (by first | assumption | (apply Ne.symm; assumption) | omega) ?_)
        · first | rfl | assumption
        refine Ev.cvV (Yc := mX0_hold) (ci := 0) dX5_with_67 lX5_215 vX0_hold rfl (k_hr (rr := q 44) (b := ad1 S.1.1 s k t p t 0 0) (hj.ad (by decide) (by decide) (by decide) (by decide) (by decide)) hBW y43' y44 (by omega) (by omega) (by rw [ebn]; exact hf'.ad1 hn) hAY) ?_ rfl rfl rfl rfl ?_
        · apply Exists.intro; repeat (first | assumption | (refine gt_upI ?_; (repeat (first | exact In_of (gt_nw (by assumption)) | (apply In_of; assumption) | refine In_up ?_ | refine In_nw ?_)); done) | refine gt_rd (by first | assumption | (apply Ne.symm; assumption) | (exact hj _ _ (by omega) (by omega) (by omega)) | omega) ?_ | exact gt_nw (by assumption) | refine gt_odr (by first | assumption | (apply Ne.symm; assumption) | omega) ?_)
        rintro M3 ⟨hF3, hA3, hrun3⟩
        have m0 := (hCY.au hF3 hA3).2.1
        obtain ⟨fs3, m13⟩ := hA3.ob
        have m13' : gt M3 (q 13) = some (ob 0 fs3) := m13
        refine Ev.ald0 dX5_with_70 ?_
        apply Ev.getf dX5_with_71 fX5_31
        · repeat (first | assumption | (refine gt_upI ?_; (repeat (first | exact In_of (gt_nw (by assumption)) | (apply In_of; assumption) | refine In_up ?_ | refine In_nw ?_)); done) | refine gt_rd (by first | assumption | (apply Ne.symm; assumption) | (exact hj _ _ (by omega) (by omega) (by omega)) | omega) ?_ | exact gt_nw (by assumption) | refine gt_odr (by first | assumption | (apply Ne.symm; assumption) | omega) ?_)
        · first | rfl | assumption
        refine Ev.iconst (v := -1) dX5_with_74 (by decide) ?_
        refine Ev.cvV (Yc := mX0_run) (ci := 0) dX5_with_75 lX5_241 vX0_run rfl (hrun3 (-1)) ?_ rfl rfl rfl rfl ?_
        · apply Exists.intro; repeat (first | assumption | (refine gt_upI ?_; (repeat (first | exact In_of (gt_nw (by assumption)) | (apply In_of; assumption) | refine In_up ?_ | refine In_nw ?_)); done) | refine gt_rd (by first | assumption | (apply Ne.symm; assumption) | (exact hj _ _ (by omega) (by omega) (by omega)) | omega) ?_ | exact gt_nw (by assumption) | refine gt_odr (by first | assumption | (apply Ne.symm; assumption) | omega) ?_)
        rintro M4 ⟨hF4, hA4, hX4⟩
        have hC4 := hCY.au hF4 hA4
        have n0 := hC4.2.1
        obtain ⟨g4, j1, j2, j3, j4, z13, z11, e0, -, -⟩ := hX4.pr
        have z11' : gt M4 (AD (aq q) (q 43) (q 44) 1) = some (cc g4) := z11
        refine Ev.ald0 dX5_with_78 ?_
        apply Ev.getf dX5_with_79 fX5_31
        · repeat (first | assumption | (refine gt_upI ?_; (repeat (first | exact In_of (gt_nw (by assumption)) | (apply In_of; assumption) | refine In_up ?_ | refine In_nw ?_)); done) | refine gt_rd (by first | assumption | (apply Ne.symm; assumption) | (exact hj _ _ (by omega) (by omega) (by omega)) | omega) ?_ | exact gt_nw (by assumption) | refine gt_odr (by first | assumption | (apply Ne.symm; assumption) | omega) ?_)
        · first | rfl | assumption
        apply Ev.getr dX5_with_82 fX5_128
        · repeat (first | assumption | (refine gt_upI ?_; (repeat (first | exact In_of (gt_nw (by assumption)) | (apply In_of; assumption) | refine In_up ?_ | refine In_nw ?_)); done) | refine gt_rd (by first | assumption | (apply Ne.symm; assumption) | (exact hj _ _ (by omega) (by omega) (by omega)) | omega) ?_ | exact gt_nw (by assumption) | refine gt_odr (by first | assumption | (apply Ne.symm; assumption) | omega) ?_)
        · first | rfl | assumption
        apply Ev.getf dX5_with_85 fX5_137
        · repeat (first | assumption | (refine gt_upI ?_; (repeat (first | exact In_of (gt_nw (by assumption)) | (apply In_of; assumption) | refine In_up ?_ | refine In_nw ?_)); done) | refine gt_rd (by first | assumption | (apply Ne.symm; assumption) | (exact hj _ _ (by omega) (by omega) (by omega)) | omega) ?_ | exact gt_nw (by assumption) | refine gt_odr (by first | assumption | (apply Ne.symm; assumption) | omega) ?_)
        · first | rfl | assumption
        refine Ev.iret dX5_with_88 rfl rfl ?_
        rw [an_with, if_pos ⟨t1, c8⟩]
        exact ⟨_, rfl, e0, q, na, hC4, SQ.rf, (hFY.q (by decide)).tr (Fr.q (js := afj) hF4 (by decide))⟩
      · exact absurd hy c19
    · rcases hy with ⟨-, hy⟩ | ⟨hno, -⟩
      · rw [hy] at c19; exact absurd c19 (by decide)
      · exact no (fun z => hno z.1)
end GON
