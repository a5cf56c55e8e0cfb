/-! collar, back, fill, without -/
section ASK
variable {G : GP} {M : Wd} {q : Nat → Nat} {na : Nat} {S : Sg}
set_option maxRecDepth 20000 in
theorem k_collar {l t : Int32} (hC : CR q na S M) (hS : Sok S) : CtI G mX5_collar [.ref (q 0), .int l, .int t] M 0 0 (fun x M' => x = (sp_collar S l t).1 ∧ KR q (sp_collar S l t).2 M M') := by
  have hC0 := hC
  obtain ⟨⟨hj, hna⟩, h0, h1, h2, hA, ⟨f, g, g40, g41, g42, gf, gw⟩, n, ph, rf, lo, hi, f2, g2, d43, d44, d45⟩ := hC
  have hn := hS.1.1.2.1
  have no : ¬ (S.1.1 329 = 0 ∧ (1 ≤ l ∧ l ≤ 999) ∧ (l ≤ t ∧ t ≤ 999)) → Ev G mX5_collar 29 [some (.ref (q 0)), some (.int l), some (.int t)] [] M 0 0 (fun v M' => ∃ x : Int32, v = some (.int x) ∧ x = (sp_collar S l t).1 ∧ KR q (sp_collar S l t).2 M M') := by
    intro hno
    refine Ev.iconst (v := 0) dX5_collar_29 (by decide) ?_
    refine Ev.iret dX5_collar_30 rfl rfl ?_
    rw [sp_collar, if_neg hno]
    exact ⟨_, rfl, rfl, q, na, hC0, SQ.rf, Fr.rf⟩
  refine Ct.of (ls := [some (.ref (q 0)), some (.int l), some (.int t)]) (by decide) (by decide) rfl rfl rfl ?_
  refine Ev.ald0 dX5_collar_0 ?_
  apply Ev.getf dX5_collar_1 fX5_19
  · repeat (first | assumption | (refine gt_upI ?_; (repeat (first | exact In_of (gt_nw (by assumption)) | (apply In_of; assumption) | refine In_up ?_ | refine In_nw ?_)); done) | refine gt_rd (by first | assumption | (apply Ne.symm; assumption) | (exact hj _ _ (by omega) (by omega) (by omega)) | omega) ?_ | exact gt_nw (by assumption) | refine gt_odr (by first | assumption | (apply Ne.symm; assumption) | omega) ?_)
  · first | rfl | assumption
  apply Ev.getf dX5_collar_4 fX5_80
  · repeat (first | assumption | (refine gt_upI ?_; (repeat (first | exact In_of (gt_nw (by assumption)) | (apply In_of; assumption) | refine In_up ?_ | refine In_nw ?_)); done) | refine gt_rd (by first | assumption | (apply Ne.symm; assumption) | (exact hj _ _ (by omega) (by omega) (by omega)) | omega) ?_ | exact gt_nw (by assumption) | refine gt_odr (by first | assumption | (apply Ne.symm; assumption) | omega) ?_)
  · first | rfl | assumption
  refine Ev.if_ne (tgt := 29) dX5_collar_7 (by decide) (fun c7 => ?_) (fun c7 => ?_)
  · exact no (fun z => c7 z.1)
  · refine Ev.ild1 dX5_collar_10 ?_
    refine Ev.csI (Yc := mX5_isPrice) dX5_collar_11 lX5_146 vX5_isPrice rfl k_isPrice rfl rfl rfl ?_
    rintro y M' ⟨hy, rfl⟩
    refine Ev.if_eq (tgt := 29) dX5_collar_14 (by decide) (fun c14 => ?_) (fun c14 => ?_)
    · exact no (fun z => if1_f hy c14 z.2.1)
    · refine Ev.ild2 dX5_collar_17 ?_
      refine Ev.csI (Yc := mX5_isPrice) dX5_collar_18 lX5_146 vX5_isPrice rfl k_isPrice rfl rfl rfl ?_
      rintro y2 M' ⟨hy2, rfl⟩
      refine Ev.if_eq (tgt := 29) dX5_collar_21 (by decide) (fun c21 => ?_) (fun c21 => ?_)
      · exact no (fun z => if1_f hy2 c21 ⟨Int32.le_trans z.2.1.1 z.2.2.1, z.2.2.2⟩)
      · refine Ev.ild1 dX5_collar_24 ?_
        refine Ev.ild2 dX5_collar_25 ?_
        refine Ev.icmp_le (tgt := 31) dX5_collar_26 (by decide) (fun c26 => ?_) (fun c26 => ?_)
        · refine Ev.ald0 dX5_collar_31 ?_
          apply Ev.getf dX5_collar_32 fX5_23
          · repeat (first | assumption | (refine gt_upI ?_; (repeat (first | exact In_of (gt_nw (by assumption)) | (apply In_of; assumption) | refine In_up ?_ | refine In_nw ?_)); done) | refine gt_rd (by first | assumption | (apply Ne.symm; assumption) | (exact hj _ _ (by omega) (by omega) (by omega)) | omega) ?_ | exact gt_nw (by assumption) | refine gt_odr (by first | assumption | (apply Ne.symm; assumption) | omega) ?_)
          · first | rfl | assumption
          refine Ev.ald0 dX5_collar_35 ?_
          apply Ev.getf dX5_collar_36 fX5_19
          · repeat (first | assumption | (refine gt_upI ?_; (repeat (first | exact In_of (gt_nw (by assumption)) | (apply In_of; assumption) | refine In_up ?_ | refine In_nw ?_)); done) | refine gt_rd (by first | assumption | (apply Ne.symm; assumption) | (exact hj _ _ (by omega) (by omega) (by omega)) | omega) ?_ | exact gt_nw (by assumption) | refine gt_odr (by first | assumption | (apply Ne.symm; assumption) | omega) ?_)
          · first | rfl | assumption
          refine Ev.cvV (Yc := mX2_become) (ci := 2) dX5_collar_39 lX5_83 vX2_become rfl (k_become hC0 hS) ?_ rfl rfl rfl rfl ?_
          · apply Exists.intro; repeat (first | assumption | (refine gt_upI ?_; (repeat (first | exact In_of (gt_nw (by assumption)) | (apply In_of; assumption) | refine In_up ?_ | refine In_nw ?_)); done) | refine gt_rd (by first | assumption | (apply Ne.symm; assumption) | (exact hj _ _ (by omega) (by omega) (by omega)) | omega) ?_ | exact gt_nw (by assumption) | refine gt_odr (by first | assumption | (apply Ne.symm; assumption) | omega) ?_)
          rintro M1 ⟨f', hf', rfl⟩
          refine Ev.ald0 dX5_collar_42 ?_
          apply Ev.getf dX5_collar_43 fX5_23
          · repeat (first | assumption | (refine gt_upI ?_; (repeat (first | exact In_of (gt_nw (by assumption)) | (apply In_of; assumption) | refine In_up ?_ | refine In_nw ?_)); done) | refine gt_rd (by first | assumption | (apply Ne.symm; assumption) | (exact hj _ _ (by omega) (by omega) (by omega)) | omega) ?_ | exact gt_nw (by assumption) | refine gt_odr (by first | assumption | (apply Ne.symm; assumption) | omega) ?_)
          · first | rfl | assumption
          refine Ev.ild1 dX5_collar_46 ?_
          apply Ev.put dX5_collar_47 fX5_149
          · repeat (first | assumption | (refine gt_upI ?_; (repeat (first | exact In_of (gt_nw (by assumption)) | (apply In_of; assumption) | refine In_up ?_ | refine In_nw ?_)); done) | refine gt_rd (by first | assumption | (apply Ne.symm; assumption) | (exact hj _ _ (by omega) (by omega) (by omega)) | omega) ?_ | exact gt_nw (by assumption) | refine gt_odr (by first | assumption | (apply Ne.symm; assumption) | omega) ?_)
          · rfl
          · rfl
          · rfl
          refine Ev.ald0 dX5_collar_50 ?_
          apply Ev.getf dX5_collar_51 fX5_23
          · repeat (first | assumption | (refine gt_upI ?_; (repeat (first | exact In_of (gt_nw (by assumption)) | (apply In_of; assumption) | refine In_up ?_ | refine In_nw ?_)); done) | refine gt_rd (by first | assumption | (apply Ne.symm; assumption) | (exact hj _ _ (by omega) (by omega) (by omega)) | omega) ?_ | exact gt_nw (by assumption) | refine gt_odr (by first | assumption | (apply Ne.symm; assumption) | omega) ?_)
          · first | rfl | assumption
          refine Ev.ild2 dX5_collar_54 ?_
          apply Ev.put dX5_collar_55 fX5_152
          · repeat (first | assumption | (refine gt_upI ?_; (repeat (first | exact In_of (gt_nw (by assumption)) | (apply In_of; assumption) | refine In_up ?_ | refine In_nw ?_)); done) | refine gt_rd (by first | assumption | (apply Ne.symm; assumption) | (exact hj _ _ (by omega) (by omega) (by omega)) | omega) ?_ | exact gt_nw (by assumption) | refine gt_odr (by first | assumption | (apply Ne.symm; assumption) | omega) ?_)
          · rfl
          · rfl
          · rfl
          generalize hX : up (up (up (up M' (q 43) _) (q 44) _) (q 43) _) (q 43) _ = X
          have x43 : gt X (q 43) = some (bk (q 44) (q 45) (bn S.1.1) (S.1.1 329) (S.1.1 330) l t) := by rw [← hX]; exact (by repeat (first | assumption | (refine gt_upI ?_; (repeat (first | exact In_of (gt_nw (by assumption)) | (apply In_of; assumption) | refine In_up ?_ | refine In_nw ?_)); done) | refine gt_rd (by first | assumption | (apply Ne.symm; assumption) | (exact hj _ _ (by omega) (by omega) (by omega)) | omega) ?_ | exact gt_nw (by assumption) | refine gt_odr (by first | assumption | (apply Ne.symm; assumption) | omega) ?_))
          have x44 : gt X (q 44) = some (ia 0 328 f') := by rw [← hX]; exact (by repeat (first | assumption | (refine gt_upI ?_; (repeat (first | exact In_of (gt_nw (by assumption)) | (apply In_of; assumption) | refine In_up ?_ | refine In_nw ?_)); done) | refine gt_rd (by first | assumption | (apply Ne.symm; assumption) | (exact hj _ _ (by omega) (by omega) (by omega)) | omega) ?_ | exact gt_nw (by assumption) | refine gt_odr (by first | assumption | (apply Ne.symm; assumption) | omega) ?_))
          have x45 : gt X (q 45) = some (ia 0 320 g2) := by rw [← hX]; exact (by repeat (first | assumption | (refine gt_upI ?_; (repeat (first | exact In_of (gt_nw (by assumption)) | (apply In_of; assumption) | refine In_up ?_ | refine In_nw ?_)); done) | refine gt_rd (by first | assumption | (apply Ne.symm; assumption) | (exact hj _ _ (by omega) (by omega) (by omega)) | omega) ?_ | exact gt_nw (by assumption) | refine gt_odr (by first | assumption | (apply Ne.symm; assumption) | omega) ?_))
          have hF : Fr ([43, 44, 45].map q) M' X := by rw [← hX]; exact (((Fr.rf.pt (by simp)).pt (by simp)).pt (by simp)).pt (by simp)
          have hCX : CR q na S X := hC0.dr hF ⟨_, _, _, _, _, _, _, x43, x44, x45⟩
          have k0 := hCX.2.1
          have e9 : upd (upd S.1.1 331 l) 332 t 329 = S.1.1 329 := by rw [pk_un (by decide), pk_un (by decide)]
          have e0 : upd (upd S.1.1 331 l) 332 t 330 = S.1.1 330 := by rw [pk_un (by decide), pk_un (by decide)]
          have e1 : upd (upd S.1.1 331 l) 332 t 331 = l := by rw [pk_un (by decide), pk_us]
          have e2 : upd (upd S.1.1 331 l) 332 t 332 = t := pk_us
          have eb : bn (upd (upd S.1.1 331 l) 332 t) = bn S.1.1 := by rw [bn_up (by decide), bn_up (by decide)]
          have hB : Bk X (q 43) (q 44) (q 45) (upd (upd S.1.1 331 l) 332 t, S.1.2) := ⟨f', g2, by show gt X (q 43) = some (bk (q 44) (q 45) (bn (upd (upd S.1.1 331 l) 332 t)) (upd (upd S.1.1 331 l) 332 t 329) (upd (upd S.1.1 331 l) 332 t 330) (upd (upd S.1.1 331 l) 332 t 331) (upd (upd S.1.1 331 l) 332 t 332)); rw [eb, e9, e0, e1, e2]; exact x43, x44, x45, by rw [eb]; exact (hf'.u (by omega)).u (by omega), fun z => by
            have z2 : upd (upd S.1.1 331 l) 332 t 329 = 2 := z
            rw [e9, c7] at z2
            exact absurd z2 (by decide)⟩
          refine Ev.ald0 dX5_collar_58 ?_
          refine Ev.cvV (Yc := mX5_keep) (ci := 5) dX5_collar_59 lX5_109 vX5_keep rfl (k_keep hCX hS.2.2.1 hB) ?_ rfl rfl rfl rfl ?_
          · apply Exists.intro; repeat (first | assumption | (refine gt_upI ?_; (repeat (first | exact In_of (gt_nw (by assumption)) | (apply In_of; assumption) | refine In_up ?_ | refine In_nw ?_)); done) | refine gt_rd (by first | assumption | (apply Ne.symm; assumption) | (exact hj _ _ (by omega) (by omega) (by omega)) | omega) ?_ | exact gt_nw (by assumption) | refine gt_odr (by first | assumption | (apply Ne.symm; assumption) | omega) ?_)
          rintro M2 ⟨hK, hF2⟩
          refine Ev.iconst (v := 1) dX5_collar_62 (by decide) ?_
          refine Ev.iret dX5_collar_63 rfl rfl ?_
          rw [sp_collar, if_pos ⟨c7, if1_t hy c14, c26, (if1_t hy2 c21).2⟩]
          exact ⟨_, rfl, rfl, kr_keep hna (hF.q (by decide)) hK hF2⟩
        · exact no (fun z => c26 z.2.2.1)
/-- a cross's cells -/
theorem CX5.get {b : Nat → Int32} {h rr : Nat} {x : Int32} (hX : CX5 q h rr b x M) : ∃ (f sa g fl : Nat → Int32) (z : Nat) (i4 i3 : Int32), gt M (q 13) = some (auc (AD (aq q) h rr) (nI (xC b x).2.2) (nI ((xC b x).2.2 - 1)) i3 i4) ∧ gt M (q 11) = some (cc g) ∧ gt M (q 12) = some (ia 0 41 fl) ∧ gt M (q 17) = some (ia 0 41 sa) ∧ gt M rr = some (ia 0 z f) ∧ 8 * bn b ≤ z ∧ z ≤ 100000 ∧ Ar (bn b) f b ∧ (g 0 = (xP b x).1 ∧ g 1 = xV b x ∧ g 2 = xR b x ∧ g 3 = (xP b x).2.1 ∧ g 4 = (xP b x).2.2) ∧ (∀ k, k < bn b → fl k = xF b x k) ∧ (∀ k, k < bn b → ((xC b x).2.1 k = 0 ↔ sa k ≠ 2)) ∧ ((xP b x).1 < 0 → xV b x = 0 ∧ (xP b x).2.1 = 0) := by
  obtain ⟨f, r, l0, l1, D, i3, tr, ⟨so, po, tc, cn, tu, s0, s1, hs, hO, hc, ⟨t, ov, hp, vo, re, p3, p0, p1, p2, p7, p17, p18⟩, -⟩, hCO, hRD, -, ⟨z, z1, z2, z3⟩, -⟩ := hX
  exact ⟨f, D.1, D.2.1, D.2.2.1, z, _, i3, p3, p1, p2, p7, z1, z2, z3, hO.ar, ⟨hRD.g0, hRD.g1, hRD.g2, hRD.g3, hRD.g4⟩, hRD.fl, hCO.2.1, hRD.neg⟩
set_option maxRecDepth 20000 in
theorem k_fill {o : Int32} (hC : CR q na S M) (hS : Sok S) : CtI G mX5_fill [.ref (q 0), .int o] M 0 0 (fun x M' => x = an_fill S o ∧ KR q S M M') := by
  have hC0 := hC
  obtain ⟨⟨hj, hna⟩, h0, h1, h2, hA, ⟨f, g, g40, g41, g42, gf, gw⟩, -⟩ := hC
  obtain ⟨cb1, cb2, cb3, cb4, cb5⟩ := hS.1.cb
  have hn := hS.1.1.2.1
  have e8 : S.1.1 328 = nI (bn S.1.1) := hS.1.1.1
  refine Ct.of (ls := [some (.ref (q 0)), some (.int o)]) (by decide) (by decide) rfl rfl rfl ?_
  refine Ev.ald0 dX5_fill_0 ?_
  apply Ev.getf dX5_fill_1 fX5_19
  · repeat (first | assumption | (refine gt_upI ?_; (repeat (first | exact In_of (gt_nw (by assumption)) | (apply In_of; assumption) | refine In_up ?_ | refine In_nw ?_)); done) | refine gt_rd (by first | assumption | (apply Ne.symm; assumption) | (exact hj _ _ (by omega) (by omega) (by omega)) | omega) ?_ | exact gt_nw (by assumption) | refine gt_odr (by first | assumption | (apply Ne.symm; assumption) | omega) ?_)
  · first | rfl | assumption
  refine Ev.ild1 dX5_fill_4 ?_
  refine Ev.cvI (Yc := mX2_has) (ci := 2) dX5_fill_5 lX5_155 vX2_has rfl (c_X2_has g40) ?_ rfl rfl rfl rfl ?_
  · apply Exists.intro; repeat (first | assumption | (refine gt_upI ?_; (repeat (first | exact In_of (gt_nw (by assumption)) | (apply In_of; assumption) | refine In_up ?_ | refine In_nw ?_)); done) | refine gt_rd (by first | assumption | (apply Ne.symm; assumption) | (exact hj _ _ (by omega) (by omega) (by omega)) | omega) ?_ | exact gt_nw (by assumption) | refine gt_odr (by first | assumption | (apply Ne.symm; assumption) | omega) ?_)
  rintro y M' ⟨hy, rfl⟩
  rw [← e8] at hy
  refine Ev.if_ne (tgt := 13) dX5_fill_8 (by decide) (fun c8 => ?_) (fun c8 => ?_)
  · have t1 := if1_t hy c8
    obtain ⟨o', ho, ho2⟩ : ∃ o', o' < bn S.1.1 ∧ o = nI o' := by
      have w := t1
      rw [e8] at w
      exact nI_in_of w.1 w.2 (by omega)
    refine Ev.ald0 dX5_fill_13 ?_
    refine Ev.cvV (Yc := mX5_runCross) (ci := 5) dX5_fill_14 lX5_112 vX5_runCross rfl (k_runCross hC0 hS) ?_ rfl rfl rfl rfl ?_
    · apply Exists.intro; repeat (first | assumption | (refine gt_upI ?_; (repeat (first | exact In_of (gt_nw (by assumption)) | (apply In_of; assumption) | refine In_up ?_ | refine In_nw ?_)); done) | refine gt_rd (by first | assumption | (apply Ne.symm; assumption) | (exact hj _ _ (by omega) (by omega) (by omega)) | omega) ?_ | exact gt_nw (by assumption) | refine gt_odr (by first | assumption | (apply Ne.symm; assumption) | omega) ?_)
    rintro M1 ⟨hF, hC1, hX⟩
    obtain ⟨f1, sa, g1, fl, z, i4, i3, x13, x11, x12, x17, xr, z1, z2, ar, -, hfl, hou, -⟩ := hX.get
    have k0 := hC1.2.1
    have hKR : KR q S M' M1 := ⟨q, na, hC1, SQ.rf, Fr.q (js := afj) hF (by decide)⟩
    have e7 : f1 (8 * o' + 7) = bas S (8 * o' + 7) := ar.at (by omega) (by decide)
    have hg := cb1.2.2.1.g01 (show o' < bn (bas S) by omega)
    have bo : vp_in o 41 := by rw [ho2]; exact vp_in_nI (by omega) (by omega)
    have eo : o.toNatClampNeg = o' := by rw [ho2]; exact nI_clamp (by omega)
    rw [an_fill, if_pos t1, eo, xf]
    refine Ev.ald0 dX5_fill_17 ?_
    apply Ev.getf dX5_fill_18 fX5_31
    · repeat (first | assumption | (refine gt_upI ?_; (repeat (first | exact In_of (gt_nw (by assumption)) | (apply In_of; assumption) | refine In_up ?_ | refine In_nw ?_)); done) | refine gt_rd (by first | assumption | (apply Ne.symm; assumption) | (exact hj _ _ (by omega) (by omega) (by omega)) | omega) ?_ | exact gt_nw (by assumption) | refine gt_odr (by first | assumption | (apply Ne.symm; assumption) | omega) ?_)
    · first | rfl | assumption
    refine Ev.ild1 dX5_fill_21 ?_
    refine Ev.cvI (Yc := mX0_isGone) (ci := 0) dX5_fill_22 lX5_203 vX0_isGone rfl (a_isGone o' ho2 x13 rfl xr (by omega) z2) ?_ rfl rfl rfl rfl ?_
    · apply Exists.intro; repeat (first | assumption | (refine gt_upI ?_; (repeat (first | exact In_of (gt_nw (by assumption)) | (apply In_of; assumption) | refine In_up ?_ | refine In_nw ?_)); done) | refine gt_rd (by first | assumption | (apply Ne.symm; assumption) | (exact hj _ _ (by omega) (by omega) (by omega)) | omega) ?_ | exact gt_nw (by assumption) | refine gt_odr (by first | assumption | (apply Ne.symm; assumption) | omega) ?_)
    rintro y2 M2 ⟨hy2, rfl⟩
    refine Ev.if_eq (tgt := 30) dX5_fill_25 (by decide) (fun c25 => ?_) (fun c25 => ?_)
    · have n7 : ¬ bas S (8 * o' + 7) = 1 := hg.mpr (by
        have := v10_t hy2 c25
        rw [e7] at this
        exact this)
      rw [if_neg n7]
      refine Ev.ald0 dX5_fill_30 ?_
      apply Ev.getf dX5_fill_31 fX5_31
      · repeat (first | assumption | (refine gt_upI ?_; (repeat (first | exact In_of (gt_nw (by assumption)) | (apply In_of; assumption) | refine In_up ?_ | refine In_nw ?_)); done) | refine gt_rd (by first | assumption | (apply Ne.symm; assumption) | (exact hj _ _ (by omega) (by omega) (by omega)) | omega) ?_ | exact gt_nw (by assumption) | refine gt_odr (by first | assumption | (apply Ne.symm; assumption) | omega) ?_)
      · first | rfl | assumption
      refine Ev.ild1 dX5_fill_34 ?_
      refine Ev.cvI (Yc := mX0_isOut) (ci := 0) dX5_fill_35 lX5_206 vX0_isOut rfl (a_isOut o' ho2 x13 rfl x17 (by omega) (by omega)) ?_ rfl rfl rfl rfl ?_
      · apply Exists.intro; repeat (first | assumption | (refine gt_upI ?_; (repeat (first | exact In_of (gt_nw (by assumption)) | (apply In_of; assumption) | refine In_up ?_ | refine In_nw ?_)); done) | refine gt_rd (by first | assumption | (apply Ne.symm; assumption) | (exact hj _ _ (by omega) (by omega) (by omega)) | omega) ?_ | exact gt_nw (by assumption) | refine gt_odr (by first | assumption | (apply Ne.symm; assumption) | omega) ?_)
      rintro y3 M3 ⟨hy3, rfl⟩
      refine Ev.if_eq (tgt := 46) dX5_fill_38 (by decide) (fun c38 => ?_) (fun c38 => ?_)
      · refine Ev.ald0 dX5_fill_46 ?_
        apply Ev.getf dX5_fill_47 fX5_31
        · repeat (first | assumption | (refine gt_upI ?_; (repeat (first | exact In_of (gt_nw (by assumption)) | (apply In_of; assumption) | refine In_up ?_ | refine In_nw ?_)); done) | refine gt_rd (by first | assumption | (apply Ne.symm; assumption) | (exact hj _ _ (by omega) (by omega) (by omega)) | omega) ?_ | exact gt_nw (by assumption) | refine gt_odr (by first | assumption | (apply Ne.symm; assumption) | omega) ?_)
        · first | rfl | assumption
        apply Ev.getr dX5_fill_50 fX5_118
        · repeat (first | assumption | (refine gt_upI ?_; (repeat (first | exact In_of (gt_nw (by assumption)) | (apply In_of; assumption) | refine In_up ?_ | refine In_nw ?_)); done) | refine gt_rd (by first | assumption | (apply Ne.symm; assumption) | (exact hj _ _ (by omega) (by omega) (by omega)) | omega) ?_ | exact gt_nw (by assumption) | refine gt_odr (by first | assumption | (apply Ne.symm; assumption) | omega) ?_)
        · first | rfl | assumption
        refine Ev.ild1 dX5_fill_53 ?_
        apply Ev.iald dX5_fill_54
        · repeat (first | assumption | (refine gt_upI ?_; (repeat (first | exact In_of (gt_nw (by assumption)) | (apply In_of; assumption) | refine In_up ?_ | refine In_nw ?_)); done) | refine gt_rd (by first | assumption | (apply Ne.symm; assumption) | (exact hj _ _ (by omega) (by omega) (by omega)) | omega) ?_ | exact gt_nw (by assumption) | refine gt_odr (by first | assumption | (apply Ne.symm; assumption) | omega) ?_)
        · assumption
        refine Ev.iret dX5_fill_55 rfl rfl ?_
        rw [if_pos ((hou o' (by omega)).mpr (if1_f hy3 c38)), eo]
        exact ⟨_, rfl, hfl o' (by omega), hKR⟩
      · refine Ev.bipush (v := -2) dX5_fill_41 (by decide) ?_
        refine Ev.goto (tgt := 55) dX5_fill_43 (by decide) ?_
        refine Ev.iret dX5_fill_55 rfl rfl ?_
        rw [if_neg (fun w => (hou o' (by omega)).mp w (if1_t hy3 c38))]
        exact ⟨_, rfl, rfl, hKR⟩
    · have n7 : bas S (8 * o' + 7) = 1 := Classical.not_not.mp (fun w => v10_f hy2 c25 (by rw [e7]; exact hg.mp w))
      rw [if_pos n7]
      refine Ev.iconst (v := -1) dX5_fill_28 (by decide) ?_
      refine Ev.iret dX5_fill_29 rfl rfl ?_
      exact ⟨_, rfl, rfl, hKR⟩
  · refine Ev.iconst (v := -1) dX5_fill_11 (by decide) ?_
    refine Ev.iret dX5_fill_12 rfl rfl ?_
    rw [an_fill, if_neg (if1_f hy c8)]
    exact ⟨_, rfl, rfl, q, na, hC0, SQ.rf, Fr.rf⟩
end ASK
