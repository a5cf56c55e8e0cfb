/-! gain -/
theorem gnd_gsm {f fl b : Nat → Int32} {pr : Int32} (hB : BW 41 b) (hf : Ar (bn b) f b) (hl : ∀ k, k < bn b → fl k = xF b (-1) k) : ∀ i, i ≤ bn b → gnd f fl pr i = gsm b pr i
  | 0, _ => rfl
  | i + 1, hi => by
    have hk : i < bn b := by omega
    rw [gnd, gsm, gnd_gsm hB hf hl i (by omega), hl i hk, xfl_F hB, hf.at (i := 1) hk (by decide), hf.at (i := 0) hk (by decide), hf.at (i := 3) hk (by decide)]
    by_cases c : b (8 * i + 1) = 0
    · rw [if_pos c, if_pos c]
    · rw [if_neg c, if_neg c, Int64.mul_comm]
      by_cases s : b (8 * i + 0) = 0
      · rw [if_pos s, if_pos s, Int32.neg_sub]
      · rw [if_neg s, if_neg s]
theorem gsm_0 {b : Nat → Int32} {pr : Int32} (h : ∀ k, xfl b k = 0) : ∀ i, gsm b pr i = 0
  | 0 => rfl
  | i + 1 => by
    rw [gsm, gsm_0 h i, h i]
    split
    · rfl
    · rw [show (0 : Int32).toInt64 = 0 from rfl, Int64.mul_zero]
      rfl
section GAI
variable {G : GP} {M : Wd} {q : Nat → Nat} {na : Nat} {S : Sg}
set_option maxRecDepth 20000 in
theorem k_gain (hC : CR q na S M) (hS : Sok S) : CtL G mX5_gain [.ref (q 0)] M 0 0 (fun x M' => x = an_gain S ∧ KR q S M M') := by
  have hC0 := hC
  obtain ⟨⟨hj, hna⟩, h0, -⟩ := hC
  obtain ⟨cb1, cb2, cb3, cb4, cb5⟩ := hS.1.cb
  have hb41 : BW 41 (bas S) := cb1.mono (by decide)
  have hn := cb1.2.1
  refine Ct.of (ls := [some (.ref (q 0))]) (by decide) (by decide) rfl rfl rfl ?_
  refine Ev.ald0 dX5_gain_0 ?_
  refine Ev.cvV (Yc := mX5_runCross) (ci := 5) dX5_gain_1 lX5_112 vX5_runCross rfl (k_runCross hC0 hS) ?_ rfl rfl rfl rfl ?_
  · apply Exists.intro; repeat (first | assumption | (refine gt_upI ?_; (repeat (first | exact In_of (gt_nw (by assumption)) | (apply In_of; assumption) | refine In_up ?_ | refine In_nw ?_)); done) | refine gt_rd (by first | assumption | (apply Ne.symm; assumption) | (exact hj _ _ (by omega) (by omega) (by omega)) | omega) ?_ | exact gt_nw (by assumption) | refine gt_odr (by first | assumption | (apply Ne.symm; assumption) | omega) ?_)
  rintro M1 ⟨hF, hC1, hX⟩
  have k0 := hC1.2.1
  obtain ⟨f1, sa, g1, fl, z, i4, i3, x13, x11, x12, x17, xr, z1, z2, ar, hg, hfl, -, -⟩ := hX.get
  obtain ⟨-, -, -, -, -, -, -, -, -, -, -, -, r, w, ph, hB⟩ := hX
  have hKR : KR q S M M1 := ⟨q, na, hC1, SQ.rf, Fr.q (js := afj) hF (by decide)⟩
  refine Ev.ald0 dX5_gain_4 ?_
  apply Ev.getf dX5_gain_5 fX5_31
  · repeat (first | assumption | (refine gt_upI ?_; (repeat (first | exact In_of (gt_nw (by assumption)) | (apply In_of; assumption) | refine In_up ?_ | refine In_nw ?_)); done) | refine gt_rd (by first | assumption | (apply Ne.symm; assumption) | (exact hj _ _ (by omega) (by omega) (by omega)) | omega) ?_ | exact gt_nw (by assumption) | refine gt_odr (by first | assumption | (apply Ne.symm; assumption) | omega) ?_)
  · first | rfl | assumption
  refine Ev.cvL (Yc := mX0_gained) (ci := 0) dX5_gain_8 lX5_269 vX0_gained rfl (a_gained (ad := AD (aq q) (q 40) (if S.1.1 329 = 2 then q 42 else q 41)) x13 x11 x12 hB xr (by omega) z1 z2) ?_ rfl rfl rfl rfl ?_
  · apply Exists.intro; repeat (first | assumption | (refine gt_upI ?_; (repeat (first | exact In_of (gt_nw (by assumption)) | (apply In_of; assumption) | refine In_up ?_ | refine In_nw ?_)); done) | refine gt_rd (by first | assumption | (apply Ne.symm; assumption) | (exact hj _ _ (by omega) (by omega) (by omega)) | omega) ?_ | exact gt_nw (by assumption) | refine gt_odr (by first | assumption | (apply Ne.symm; assumption) | omega) ?_)
  rintro y M2 ⟨hy, rfl⟩
  refine Ev.lret dX5_gain_11 rfl ?_
  refine ⟨_, rfl, ?_, hKR⟩
  rw [hy, gnd_gsm hb41 ar hfl _ (Nat.le_refl _), hg.1, an_gain, ← cb2]
  by_cases c : 0 < (xP (bas S) (-1)).1
  · rw [if_pos c]
  · rw [if_neg c]
    refine gsm_0 (fun k => ?_) _
    rw [xfl_F hb41]
    show rF _ _ _ _ _ _ k = 0
    rw [rF]
    have hneg : (rP (bas S) (xC (bas S) (-1)).1 (qt (bas S)) (bn (bas S)) (blo (bas S)) (bhi (bas S))).1 < 0 := by
      rcases rP_pr (m := bas S) (ct := (xC (bas S) (-1)).1) (my := qt (bas S)) (n := bn (bas S)) (lo := blo (bas S)) (hi := bhi (bas S)) with e | ⟨p, p1, p2, e⟩
      · rw [e]; decide
      · have l1 := cb1.2.2.2.2.2.1
        have l2 := cb1.2.2.2.2.2.2.2.1
        refine absurd ?_ c
        show 0 < (rP (bas S) (xC (bas S) (-1)).1 (qt (bas S)) (bn (bas S)) (blo (bas S)) (bhi (bas S))).1
        rw [e]
        exact (nI_ltI (a := 0) (by omega) (by omega)).mpr (by omega)
    rw [if_pos hneg]
end GAI
