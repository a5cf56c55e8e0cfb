/-! trades asked -/
/-- a cross has been run and matched -/
def CX6 (q : Nat → Nat) (h rr : Nat) (b : Nat → Int32) (M : Wd) : Prop := ∃ (f sa g fl tr : Nat → Int32) (z : Nat) (i4 : Int32) (T : List (Nat × Nat × Nat)), gt M (q 13) = some (auc (AD (aq q) h rr) (nI (xC b (-1)).2.2) (nI ((xC b (-1)).2.2 - 1)) (nI T.length) i4) ∧ gt M (q 11) = some (cc g) ∧ gt M (q 12) = some (ia 0 41 fl) ∧ gt M (q 17) = some (ia 0 41 sa) ∧ gt M (q 16) = some (ia 0 246 tr) ∧ gt M rr = some (ia 0 z f) ∧ (8 * bn b ≤ z ∧ z ≤ 100000 ∧ Ar (bn b) f b) ∧ (g 0 = (xP b (-1)).1 ∧ g 1 = xV b (-1) ∧ g 2 = xR b (-1)) ∧ (∀ k, k < bn b → fl k = xF b (-1) k) ∧ TCl tr T.length T ∧ T.map gq = xT b ∧ T.length ≤ 82
section TRD
variable {G : GP} {M : Wd} {q : Nat → Nat} {na : Nat} {S : Sg}
theorem k_match {h rr : Nat} {b : Nat → Int32} (hX : CX5 q h rr b (-1) M) : CtV G mX0_match [.ref (q 13)] M 0 0 (fun M' => Fr (afr (aq q)) M M' ∧ AWc (aq q) M' ∧ CX6 q h rr b M') := by
  obtain ⟨f, r, l0, l1, D, i3, tr, hH, hCO, hRD, hj, ⟨z, z1, z2, z3⟩, -⟩ := hX
  refine (c_match (G := G) hj hH rfl rfl rfl (ou := (xC b (-1)).2.1) hCO hRD).imp ?_
  rintro M' ⟨⟨D', tr', T, e1, e2, e3, t1, t2, t3, hH'⟩, hF⟩
  refine ⟨hF, hH'.aw, ?_⟩
  obtain ⟨so, po, tc, cn, tu, s0, s1, hs, hO, hc, ⟨t, ov, hp, vo, re, p3, p0, p1, p2, p7, p17, p18⟩, q6, -⟩ := hH'
  have nb : ∀ i, i < 20 → i ∉ [0, 1, 2, 3, 6, 7, 10, 11, 15, 16, 17, 18] → AD (aq q) h rr i ∉ afr (aq q) := fun i hi hn => nin (js := [0, 1, 2, 3, 6, 7, 10, 11, 15, 16, 17, 18]) hj hi (by decide) hn
  rw [e2] at p1
  rw [e3] at p2
  exact ⟨f, D'.1, D.2.1, D.2.2.1, tr', z, _, T, p3, p1, p2, p7, q6, hF.rd (nb 14 (by decide) (by decide)) z1, ⟨z2, z3, hO.ar⟩, ⟨hRD.g0, hRD.g1, hRD.g2⟩, hRD.fl, t1, t2, t3⟩
theorem trq_at {tr : Nat → Int32} {b : Nat → Int32} {T : List (Nat × Nat × Nat)} (h : TCl tr T.length T) (e : T.map gq = xT b) {i k : Nat} (hi : i < T.length) (hk : k < 3) : tr (3 * i + k) = trq ((xT b)[i]?) (nI k) := by
  have hg : T[i]? = some T[i] := List.getElem?_eq_getElem hi
  obtain ⟨t0, t1, t2⟩ := h.2 i _ hg
  rw [← e, List.getElem?_map, hg]
  show _ = trq (some (gq T[i])) (nI k)
  rw [trq]
  have : k = 0 ∨ k = 1 ∨ k = 2 := by omega
  rcases this with rfl | rfl | rfl
  · rw [if_pos (by decide)]; exact t0
  · rw [if_neg (by decide), if_pos (by decide)]; exact t1
  · rw [if_neg (by decide), if_neg (by decide)]; exact t2
set_option maxRecDepth 20000 in
theorem k_trade {i k : Int32} (hC : CR q na S M) (hS : Sok S) : CtI G mX5_trade [.ref (q 0), .int i, .int k] M 0 0 (fun x M' => x = an_trade S i k ∧ KR q S M M') := by
  have hC0 := hC
  obtain ⟨⟨hj, hna⟩, h0, h1, h2, hA, -⟩ := hC
  refine Ct.of (ls := [some (.ref (q 0)), some (.int i), some (.int k)]) (by decide) (by decide) rfl rfl rfl ?_
  refine Ev.ild2 dX5_trade_0 ?_
  refine Ev.iconst (v := 0) dX5_trade_1 (by decide) ?_
  refine Ev.iconst (v := 2) dX5_trade_2 (by decide) ?_
  refine Ev.csI (Yc := mX5_within) dX5_trade_3 lX5_76 vX5_within rfl k_within rfl rfl rfl ?_
  rintro y M' ⟨hy, rfl⟩
  refine Ev.if_ne (tgt := 11) dX5_trade_6 (by decide) (fun c6 => ?_) (fun c6 => ?_)
  · have t1 := if1_t hy c6
    refine Ev.ald0 dX5_trade_11 ?_
    refine Ev.cvV (Yc := mX5_runCross) (ci := 5) dX5_trade_12 lX5_112 vX5_runCross rfl (k_runCross hC0 hS) ?_ rfl rfl rfl rfl ?_
    · apply Exists.intro; repeat (first | assumption | (refine gt_upI ?_; (repeat (first | exact In_of (gt_nw (by assumption)) | (apply In_of; assumption) | refine In_up ?_ | refine In_nw ?_)); done) | refine gt_rd (by first | assumption | (apply Ne.symm; assumption) | (exact hj _ _ (by omega) (by omega) (by omega)) | omega) ?_ | exact gt_nw (by assumption) | refine gt_odr (by first | assumption | (apply Ne.symm; assumption) | omega) ?_)
    rintro M1 ⟨hF, hC1, hX⟩
    have k0 := hC1.2.1
    obtain ⟨fs1, k13⟩ := hC1.2.2.2.2.1.ob
    have k13' : gt M1 (q 13) = some (ob 0 fs1) := k13
    refine Ev.ald0 dX5_trade_15 ?_
    apply Ev.getf dX5_trade_16 fX5_31
    · repeat (first | assumption | (refine gt_upI ?_; (repeat (first | exact In_of (gt_nw (by assumption)) | (apply In_of; assumption) | refine In_up ?_ | refine In_nw ?_)); done) | refine gt_rd (by first | assumption | (apply Ne.symm; assumption) | (exact hj _ _ (by omega) (by omega) (by omega)) | omega) ?_ | exact gt_nw (by assumption) | refine gt_odr (by first | assumption | (apply Ne.symm; assumption) | omega) ?_)
    · first | rfl | assumption
    refine Ev.cvV (Yc := mX0_match) (ci := 0) dX5_trade_19 lX5_115 vX0_match rfl (k_match hX) ?_ rfl rfl rfl rfl ?_
    · apply Exists.intro; repeat (first | assumption | (refine gt_upI ?_; (repeat (first | exact In_of (gt_nw (by assumption)) | (apply In_of; assumption) | refine In_up ?_ | refine In_nw ?_)); done) | refine gt_rd (by first | assumption | (apply Ne.symm; assumption) | (exact hj _ _ (by omega) (by omega) (by omega)) | omega) ?_ | exact gt_nw (by assumption) | refine gt_odr (by first | assumption | (apply Ne.symm; assumption) | omega) ?_)
    rintro M2 ⟨hF2, hA2, f, sa, g, fl, tr, z, i4, T, x13, x11, x12, x17, x16, xr, hz, hg, hfl, tT, eT, lT⟩
    have hC2 := hC1.au hF2 hA2
    have l0 := hC2.2.1
    have hKR : KR q S M' M2 := ⟨q, na, hC2, SQ.rf, (Fr.q (js := afj) hF (by decide)).tr (Fr.q (js := afj) hF2 (by decide))⟩
    have eL : (xT (bas S)).length = T.length := by rw [← eT, List.length_map]
    rw [an_trade, if_neg (fun w => w t1), eL]
    refine Ev.ild1 dX5_trade_22 ?_
    refine Ev.iconst (v := -1) dX5_trade_23 (by decide) ?_
    refine Ev.icmp_ne (tgt := 35) dX5_trade_24 (by decide) (fun c24 => ?_) (fun c24 => ?_)
    · rw [if_neg c24]
      refine Ev.ild1 dX5_trade_35 ?_
      refine Ev.iconst (v := 0) dX5_trade_36 (by decide) ?_
      refine Ev.ald0 dX5_trade_37 ?_
      apply Ev.getf dX5_trade_38 fX5_31
      · repeat (first | assumption | (refine gt_upI ?_; (repeat (first | exact In_of (gt_nw (by assumption)) | (apply In_of; assumption) | refine In_up ?_ | refine In_nw ?_)); done) | refine gt_rd (by first | assumption | (apply Ne.symm; assumption) | (exact hj _ _ (by omega) (by omega) (by omega)) | omega) ?_ | exact gt_nw (by assumption) | refine gt_odr (by first | assumption | (apply Ne.symm; assumption) | omega) ?_)
      · first | rfl | assumption
      apply Ev.getf dX5_trade_41 fX5_232
      · repeat (first | assumption | (refine gt_upI ?_; (repeat (first | exact In_of (gt_nw (by assumption)) | (apply In_of; assumption) | refine In_up ?_ | refine In_nw ?_)); done) | refine gt_rd (by first | assumption | (apply Ne.symm; assumption) | (exact hj _ _ (by omega) (by omega) (by omega)) | omega) ?_ | exact gt_nw (by assumption) | refine gt_odr (by first | assumption | (apply Ne.symm; assumption) | omega) ?_)
      · first | rfl | assumption
      refine Ev.iconst (v := 1) dX5_trade_44 (by decide) ?_
      refine Ev.isub dX5_trade_45 ?_
      refine Ev.csI (Yc := mX5_within) dX5_trade_46 lX5_76 vX5_within rfl k_within rfl rfl rfl ?_
      rintro y2 M3 ⟨hy2, rfl⟩
      refine Ev.if_eq (tgt := 64) dX5_trade_49 (by decide) (fun c49 => ?_) (fun c49 => ?_)
      · refine Ev.iconst (v := -1) dX5_trade_64 (by decide) ?_
        refine Ev.iret dX5_trade_65 rfl rfl ?_
        rw [if_neg (if1_f hy2 c49)]
        exact ⟨_, rfl, rfl, hKR⟩
      · have t2 := if1_t hy2 c49
        have hT1 : 1 ≤ T.length := by
          by_cases w : T.length = 0
          · rw [w] at t2
            have := Int32.le_trans t2.1 t2.2
            exact absurd this (by decide)
          · omega
        have em : nI T.length - 1 = nI (T.length - 1) := nI_subI (b := 1) hT1
        obtain ⟨i', hi, hi2⟩ : ∃ i', i' ≤ T.length - 1 ∧ i = nI i' := int_le (by omega) t2.1 (by rw [← em]; exact t2.2)
        obtain ⟨k', hk, hk2⟩ : ∃ k', k' ≤ 2 ∧ k = nI k' := int_le (c := 2) (by omega) t1.1 t1.2
        rw [if_pos t2]
        refine Ev.ald0 dX5_trade_52 ?_
        apply Ev.getf dX5_trade_53 fX5_31
        · repeat (first | assumption | (refine gt_upI ?_; (repeat (first | exact In_of (gt_nw (by assumption)) | (apply In_of; assumption) | refine In_up ?_ | refine In_nw ?_)); done) | refine gt_rd (by first | assumption | (apply Ne.symm; assumption) | (exact hj _ _ (by omega) (by omega) (by omega)) | omega) ?_ | exact gt_nw (by assumption) | refine gt_odr (by first | assumption | (apply Ne.symm; assumption) | omega) ?_)
        · first | rfl | assumption
        refine Ev.ild1 dX5_trade_56 ?_
        refine Ev.ild2 dX5_trade_57 ?_
        refine Ev.cvI (Yc := mX0_tradePart) (ci := 0) dX5_trade_58 lX5_235 vX0_tradePart rfl (a_tradePart (ad := AD (aq q) (q 40) (if S.1.1 329 = 2 then q 42 else q 41)) i' k' hi2 hk2 x13 x16 (by omega)) ?_ rfl rfl rfl rfl ?_
        · apply Exists.intro; repeat (first | assumption | (refine gt_upI ?_; (repeat (first | exact In_of (gt_nw (by assumption)) | (apply In_of; assumption) | refine In_up ?_ | refine In_nw ?_)); done) | refine gt_rd (by first | assumption | (apply Ne.symm; assumption) | (exact hj _ _ (by omega) (by omega) (by omega)) | omega) ?_ | exact gt_nw (by assumption) | refine gt_odr (by first | assumption | (apply Ne.symm; assumption) | omega) ?_)
        rintro y3 M4 ⟨hy3, rfl⟩
        refine Ev.goto (tgt := 65) dX5_trade_61 (by decide) ?_
        refine Ev.iret dX5_trade_65 rfl rfl ?_
        refine ⟨_, rfl, ?_, hKR⟩
        show y3 = trq ((xT (bas S))[i.toNatClampNeg]?) k
        rw [hy3, hi2, hk2, nI_clamp (by omega)]
        exact trq_at tT eT (by omega) (by omega)
    · rw [if_pos c24]
      refine Ev.ald0 dX5_trade_27 ?_
      apply Ev.getf dX5_trade_28 fX5_31
      · repeat (first | assumption | (refine gt_upI ?_; (repeat (first | exact In_of (gt_nw (by assumption)) | (apply In_of; assumption) | refine In_up ?_ | refine In_nw ?_)); done) | refine gt_rd (by first | assumption | (apply Ne.symm; assumption) | (exact hj _ _ (by omega) (by omega) (by omega)) | omega) ?_ | exact gt_nw (by assumption) | refine gt_odr (by first | assumption | (apply Ne.symm; assumption) | omega) ?_)
      · first | rfl | assumption
      apply Ev.getf dX5_trade_31 fX5_232
      · repeat (first | assumption | (refine gt_upI ?_; (repeat (first | exact In_of (gt_nw (by assumption)) | (apply In_of; assumption) | refine In_up ?_ | refine In_nw ?_)); done) | refine gt_rd (by first | assumption | (apply Ne.symm; assumption) | (exact hj _ _ (by omega) (by omega) (by omega)) | omega) ?_ | exact gt_nw (by assumption) | refine gt_odr (by first | assumption | (apply Ne.symm; assumption) | omega) ?_)
      · first | rfl | assumption
      refine Ev.iret dX5_trade_34 rfl rfl ?_
      exact ⟨_, rfl, rfl, hKR⟩
  · refine Ev.iconst (v := -1) dX5_trade_9 (by decide) ?_
    refine Ev.iret dX5_trade_10 rfl rfl ?_
    rw [an_trade, if_pos (if1_f hy c6)]
    exact ⟨_, rfl, rfl, q, na, hC0, SQ.rf, Fr.rf⟩
end TRD
