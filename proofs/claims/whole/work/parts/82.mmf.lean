/-! questions: answers -/
/-- the rows that the cross is of -/
noncomputable def bas (S : Sg) : Nat → Int32 := if S.1.1 329 = 2 then S.1.2 else S.1.1
noncomputable def an_order (S : Sg) (o k : Int32) : Int32 := if (0 ≤ o ∧ o < S.1.1 328) ∧ (0 ≤ k ∧ k ≤ 7) then S.1.1 (8 * o.toNatClampNeg + k.toNatClampNeg) else -1
noncomputable def an_fill (S : Sg) (o : Int32) : Int32 := if 0 ≤ o ∧ o < S.1.1 328 then xf (bas S) o.toNatClampNeg else -1
noncomputable def an_without (S : Sg) (o : Int32) : Int32 := if cch S.1.1 o then (xP S.1.1 o).1 else -2
noncomputable def an_with (S : Sg) (s k q p : Int32) : Int32 := if isT s k q p ∧ S.1.1 329 ≠ 2 then (xP (ad1 S.1.1 s k q p q 0 0) (-1)).1 else -2
theorem bas_n {S : Sg} (h : Sok S) : bn (bas S) = bn S.1.1 := by
  rw [bas]
  split
  · rename_i z
    rw [bn, (h.1.2.2 z).2.1, bn]
  · rfl
section MMF
variable {G : GP} {a : Nat → Nat} {M0 M : Wd} {v : Nat → Int32} {L : Int64} {X : Nat → Nat → Int32} {S : Sg}
/-- lays, of a state -/
theorem m_lyS {v1 : Nat → Int32} (hS : Sok S) (hR : MR v X S) (hq : QT v v1 X X) (hZ : MZ a M0 v1 L X M) : CtV G mX6_lays [.ref (a 0)] M 0 0 (fun M' => ∃ (v' : Nat → Int32) (X' : Nat → Nat → Int32), MZ a M0 v' L X' M' ∧ v' 0 = v1 0 ∧ MR v' X' S ∧ Xof (X' 1) (bas S)) := by
  refine Ct.mono (m_lays hZ hR.1 hS.1.1) ?_
  rintro u M' ⟨rfl, v', X', h1, h2, h3, h4, h5⟩
  have hn : bn S.1.1 ≤ 40 := hS.1.1.2.1
  refine ⟨rfl, v', X', h1, h2 0 (by decide), hR.q (hq.tr ⟨h2 3 (by decide), h2 5 (by decide), h2 6 (by decide), h2 8 (by decide), h3 2 (by decide) (by decide), h3 4 (by decide) (by decide), h3 7 (by decide) (by decide)⟩) ⟨hR.1.1.same (fun j hj => h4 j (by omega)) (fun j _ h => h4 j (by omega)), fun z => ?_⟩, h5⟩
  rw [if_pos z] at h5
  exact h5
set_option maxRecDepth 20000 in
theorem m_fill {o : Int32} (hS : Sok S) (hR : MR v X S) (hZ : MZ a M0 v L X M) : CtI G mX6_fill [.ref (a 0), .int o] M 0 0 (fun x M' => x = an_fill S o ∧ ∃ (v' : Nat → Int32) (X' : Nat → Nat → Int32), MZ a M0 v' L X' M' ∧ MR v' X' S) := by
  have hB : BW 40 S.1.1 := hS.1.1
  have hn := hB.2.1
  by_cases hin : 0 ≤ o ∧ o < S.1.1 328
  · obtain ⟨k, hk, rfl⟩ := nI_in_of hin.1 (by rw [← hB.1]; exact hin.2) (by omega)
    rw [an_fill, if_pos hin, nI_clamp (by omega)]
    refine Ct.of (ls := [some (.ref (a 0)), some (.int (nI k))]) (by decide) (by decide) rfl rfl rfl ?_
    refine Ev.ald0 dX6_fill_0 ?_
    refine Ev.iconst (v := 0) dX6_fill_1 (by decide) ?_
    refine Ev.mput (kx := 0) dX6_fill_2 fX6_1 hZ rfl rfl (fun M hZ => ?_)
    refine Ev.ald0 dX6_fill_5 ?_
    refine Ev.cvV (Yc := mX6_lays) (ci := 6) dX6_fill_6 lX6_314 vX6_lays rfl (m_lyS hS hR QT.rf.t hZ) ⟨_, hZ.2.1.1⟩ rfl rfl rfl rfl ?_
    rintro M1 ⟨v1, X1, hZ, t0, hR1, hx⟩
    have xk := hx.2.2.2.2.2.2.1 k (by rw [bas_n hS]; exact hk)
    refine Ev.ald0 dX6_fill_9 ?_
    refine Ev.ild1 dX6_fill_10 ?_
    refine Ev.cvI (Yc := mX6_isOrder) (ci := 6) dX6_fill_11 lX6_305 vX6_isOrder rfl (m_isOrder hZ.2.1.1 hZ.2.1.g1) ⟨_, hZ.2.1.1⟩ rfl rfl rfl rfl ?_
    rintro y11 M9 ⟨hy11, rfl⟩
    rw [hR1.1.1.2.1, if_pos hin] at hy11
    refine Ev.if_eq (tgt := 30) dX6_fill_14 (by decide) (fun c14 => by first | exact absurd c14 (by rw [hy11]; decide) | exact absurd (by rw [hy11]; decide) c14) (fun c14 => ?_)
    refine Ev.ald0 dX6_fill_17 ?_
    refine Ev.mgr (kx := 1) dX6_fill_18 fX6_13 hZ rfl ?_
    refine Ev.sipush (v := 339) dX6_fill_21 (by decide) ?_
    refine Ev.ild1 dX6_fill_24 ?_
    refine Ev.iadd dX6_fill_25 ?_
    refine Ev.mld (j := (339 + k)) mq1 dX6_fill_26 hZ (by first | assumption | (simp only [nI, Int32.ofNat_add, Int32.ofNat_mul]; done) | (simp only [nI, Int32.ofNat_add, Int32.ofNat_mul]; rfl) | rfl) (by omega) ?_
    (try simp only [ux_s, ux_n, ne_eq, Nat.reduceEqDiff, Nat.succ_ne_self, not_false_eq_true])
    rw [xk]
    refine Ev.goto (tgt := 31) dX6_fill_27 (by decide) ?_
    refine Ev.iret dX6_fill_31 rfl rfl ?_
    exact ⟨_, rfl, rfl, _, _, hZ, hR1⟩
  · rw [an_fill, if_neg hin]
    refine Ct.of (ls := [some (.ref (a 0)), some (.int o)]) (by decide) (by decide) rfl rfl rfl ?_
    refine Ev.ald0 dX6_fill_0 ?_
    refine Ev.iconst (v := 0) dX6_fill_1 (by decide) ?_
    refine Ev.mput (kx := 0) dX6_fill_2 fX6_1 hZ rfl rfl (fun M hZ => ?_)
    refine Ev.ald0 dX6_fill_5 ?_
    refine Ev.cvV (Yc := mX6_lays) (ci := 6) dX6_fill_6 lX6_314 vX6_lays rfl (m_lyS hS hR QT.rf.t hZ) ⟨_, hZ.2.1.1⟩ rfl rfl rfl rfl ?_
    rintro M1 ⟨v1, X1, hZ, t0, hR1, hx⟩
    refine Ev.ald0 dX6_fill_9 ?_
    refine Ev.ild1 dX6_fill_10 ?_
    refine Ev.cvI (Yc := mX6_isOrder) (ci := 6) dX6_fill_11 lX6_305 vX6_isOrder rfl (m_isOrder hZ.2.1.1 hZ.2.1.g1) ⟨_, hZ.2.1.1⟩ rfl rfl rfl rfl ?_
    rintro y11 M9 ⟨hy11, rfl⟩
    rw [hR1.1.1.2.1, if_neg hin] at hy11
    refine Ev.if_eq (tgt := 30) dX6_fill_14 (by decide) (fun c14 => ?_) (fun c14 => by first | exact absurd hy11 c14 | exact absurd c14 hy11)
    refine Ev.iconst (v := -1) dX6_fill_30 (by decide) ?_
    refine Ev.iret dX6_fill_31 rfl rfl ?_
    exact ⟨_, rfl, rfl, _, _, hZ, hR1⟩
set_option maxRecDepth 20000 in
theorem m_order {o k : Int32} (hS : Sok S) (hR : MR v X S) (hZ : MZ a M0 v L X M) : CtI G mX6_order [.ref (a 0), .int o, .int k] M 0 0 (fun x M' => x = an_order S o k ∧ ∃ (v' : Nat → Int32) (X' : Nat → Nat → Int32), MZ a M0 v' L X' M' ∧ MR v' X' S) := by
  have hB : BW 40 S.1.1 := hS.1.1
  have hn := hB.2.1
  have hA := hR.1.1
  by_cases hin : (0 ≤ o ∧ o < S.1.1 328) ∧ (0 ≤ k ∧ k ≤ 7)
  · obtain ⟨i, hi, rfl⟩ := nI_in_of hin.1.1 (by rw [← hB.1]; exact hin.1.2) (by omega)
    obtain ⟨j, hj, rfl⟩ := int_le (c := 7) (by omega) hin.2.1 hin.2.2
    rw [an_order, if_pos hin, nI_clamp (by omega), nI_clamp (by omega)]
    refine Ct.of (ls := [some (.ref (a 0)), some (.int (nI i)), some (.int (nI j))]) (by decide) (by decide) rfl rfl rfl ?_
    refine Ev.ald0 dX6_order_0 ?_
    refine Ev.iconst (v := 0) dX6_order_1 (by decide) ?_
    refine Ev.mput (kx := 0) dX6_order_2 fX6_1 hZ rfl rfl (fun M hZ => ?_)
    refine Ev.ald0 dX6_order_5 ?_
    refine Ev.ild1 dX6_order_6 ?_
    refine Ev.cvI (Yc := mX6_isOrder) (ci := 6) dX6_order_7 lX6_305 vX6_isOrder rfl (m_isOrder hZ.2.1.1 hZ.2.1.g1) ⟨_, hZ.2.1.1⟩ rfl rfl rfl rfl ?_
    rintro y7 M9 ⟨hy7, rfl⟩
    rw [hA.2.1, if_pos hin.1] at hy7
    refine Ev.if_eq (tgt := 34) dX6_order_10 (by decide) (fun c10 => by first | exact absurd c10 (by rw [hy7]; decide) | exact absurd (by rw [hy7]; decide) c10) (fun c10 => ?_)
    refine Ev.ild2 dX6_order_13 ?_
    refine Ev.i2l dX6_order_14 ?_
    refine Ev.lconst (v := 0) dX6_order_15 (by decide) ?_
    refine Ev.ldc2 dX6_order_16 kX6_294 ?_
    refine Ev.csI (Yc := mX6_within) dX6_order_19 lX6_93 vX6_within rfl (m_wI (y := 0) (z := 7) (by decide) (by decide)) rfl rfl rfl ?_
    rintro y19 M9 ⟨hy19, rfl⟩
    rw [if_pos hin.2] at hy19
    refine Ev.if_eq (tgt := 34) dX6_order_22 (by decide) (fun c22 => by first | exact absurd c22 (by rw [hy19]; decide) | exact absurd (by rw [hy19]; decide) c22) (fun c22 => ?_)
    refine Ev.ald0 dX6_order_25 ?_
    refine Ev.ild1 dX6_order_26 ?_
    refine Ev.ild2 dX6_order_27 ?_
    refine Ev.cvI (Yc := mX6_of) (ci := 6) dX6_order_28 lX6_201 vX6_of rfl (m_of (i) (j) (by first | assumption | (simp only [nI, Int32.ofNat_add, Int32.ofNat_mul]; done) | (simp only [nI, Int32.ofNat_add, Int32.ofNat_mul]; rfl) | rfl) (by first | assumption | (simp only [nI, Int32.ofNat_add, Int32.ofNat_mul]; done) | (simp only [nI, Int32.ofNat_add, Int32.ofNat_mul]; rfl) | rfl) hZ.2.1.1 hZ.2.1.g1 (by omega)) ⟨_, hZ.2.1.1⟩ rfl rfl rfl rfl ?_
    rintro y28 M9 ⟨hy28, rfl⟩
    subst hy28
    refine Ev.goto (tgt := 35) dX6_order_31 (by decide) ?_
    refine Ev.iret dX6_order_35 rfl rfl ?_
    exact ⟨_, rfl, hA.1.at hi (by omega), _, _, hZ, hR.q QT.rf.t hR.1⟩
  · rw [an_order, if_neg hin]
    refine Ct.of (ls := [some (.ref (a 0)), some (.int o), some (.int k)]) (by decide) (by decide) rfl rfl rfl ?_
    refine Ev.ald0 dX6_order_0 ?_
    refine Ev.iconst (v := 0) dX6_order_1 (by decide) ?_
    refine Ev.mput (kx := 0) dX6_order_2 fX6_1 hZ rfl rfl (fun M hZ => ?_)
    refine Ev.ald0 dX6_order_5 ?_
    refine Ev.ild1 dX6_order_6 ?_
    refine Ev.cvI (Yc := mX6_isOrder) (ci := 6) dX6_order_7 lX6_305 vX6_isOrder rfl (m_isOrder hZ.2.1.1 hZ.2.1.g1) ⟨_, hZ.2.1.1⟩ rfl rfl rfl rfl ?_
    rintro y7 M9 ⟨hy7, rfl⟩
    rw [hA.2.1] at hy7
    refine Ev.if_eq (tgt := 34) dX6_order_10 (by decide) (fun c10 => ?_) (fun c10 => ?_)
    · refine Ev.iconst (v := -1) dX6_order_34 (by decide) ?_
      refine Ev.iret dX6_order_35 rfl rfl ?_
      exact ⟨_, rfl, rfl, _, _, hZ, hR.q QT.rf.t hR.1⟩
    · refine Ev.ild2 dX6_order_13 ?_
      refine Ev.i2l dX6_order_14 ?_
      refine Ev.lconst (v := 0) dX6_order_15 (by decide) ?_
      refine Ev.ldc2 dX6_order_16 kX6_294 ?_
      refine Ev.csI (Yc := mX6_within) dX6_order_19 lX6_93 vX6_within rfl (m_wI (y := 0) (z := 7) (by decide) (by decide)) rfl rfl rfl ?_
      rintro y19 M9 ⟨hy19, rfl⟩
      refine Ev.if_eq (tgt := 34) dX6_order_22 (by decide) (fun c22 => ?_) (fun c22 => ?_)
      · refine Ev.iconst (v := -1) dX6_order_34 (by decide) ?_
        refine Ev.iret dX6_order_35 rfl rfl ?_
        exact ⟨_, rfl, rfl, _, _, hZ, hR.q QT.rf.t hR.1⟩
      · exact absurd ⟨v01_t hy7 c10, v01_t hy19 c22⟩ hin
set_option maxRecDepth 20000 in
theorem m_priceWithout {b : Nat → Int32} {wo : Int32} (hZ : MZ a M0 v L X M) (hA : Ag (X 1) b) (hB : BW 41 b) (hwo : wo = -1 ∨ ∃ w, w < bn b ∧ wo = nI w) : CtI G mX6_priceWithout [.ref (a 0), .int wo] M 0 0 (fun x M' => x = (xP b wo).1 ∧ ∃ (v' : Nat → Int32) (X' : Nat → Nat → Int32), MZ a M0 v' L X' M' ∧ KP v v' X X') := by
  refine Ct.of (ls := [some (.ref (a 0)), some (.int wo)]) (by decide) (by decide) rfl rfl rfl ?_
  refine Ev.ald0 dX6_priceWithout_0 ?_
  refine Ev.ild1 dX6_priceWithout_1 ?_
  refine Ev.cvV (Yc := mX6_crosses) (ci := 6) dX6_priceWithout_2 lX6_278 vX6_crosses rfl (m_cross hZ hA hB hwo) ⟨_, hZ.2.1.1⟩ rfl rfl rfl rfl ?_
  rintro M1 ⟨v1, X1, hZ, hK, hC⟩
  refine Ev.ald0 dX6_priceWithout_5 ?_
  refine Ev.mgv (kx := 28) dX6_priceWithout_6 fX6_223 hZ rfl ?_
  refine Ev.iret dX6_priceWithout_9 rfl rfl ?_
  exact ⟨_, rfl, hC.2.2.2.2.1, v1, X1, hZ, hK⟩
set_option maxRecDepth 20000 in
theorem m_without {o : Int32} (hS : Sok S) (hR : MR v X S) (hZ : MZ a M0 v L X M) : CtI G mX6_without [.ref (a 0), .int o] M 0 0 (fun x M' => x = an_without S o ∧ ∃ (v' : Nat → Int32) (X' : Nat → Nat → Int32), MZ a M0 v' L X' M' ∧ MR v' X' S) := by
  have hB : BW 40 S.1.1 := hS.1.1
  have hn := hB.2.1
  have hA := hR.1.1
  refine Ct.of (ls := [some (.ref (a 0)), some (.int o)]) (by decide) (by decide) rfl rfl rfl ?_
  refine Ev.ald0 dX6_without_0 ?_
  refine Ev.iconst (v := 0) dX6_without_1 (by decide) ?_
  refine Ev.mput (kx := 0) dX6_without_2 fX6_1 hZ rfl rfl (fun M hZ => ?_)
  refine Ev.ald0 dX6_without_5 ?_
  refine Ev.ild1 dX6_without_6 ?_
  refine Ev.cvI (Yc := mX6_canChange) (ci := 6) dX6_without_7 lX6_308 vX6_canChange rfl (m_canChange hZ hA hB) ⟨_, hZ.2.1.1⟩ rfl rfl rfl rfl ?_
  rintro y7 M9 ⟨rfl, hy7⟩
  refine Ev.if_eq (tgt := 21) dX6_without_10 (by decide) (fun c10 => ?_) (fun c10 => ?_)
  · refine Ev.bipush (v := -2) dX6_without_21 (by decide) ?_
    refine Ev.iret dX6_without_23 rfl rfl ?_
    rw [an_without, if_neg (cch_no hB ((hy7.resolve_left (fun ⟨_, _, _, _, _, y⟩ => absurd (y.symm.trans c10) (by decide))).1))]
    exact ⟨_, rfl, rfl, _, _, hZ, hR.q QT.rf.t hR.1⟩
  · obtain ⟨k, k1, k2, k3, k4, k5⟩ := hy7.resolve_right (fun y => c10 y.2)
    refine Ev.ald0 dX6_without_13 ?_
    refine Ev.ild1 dX6_without_14 ?_
    refine Ev.cvI (Yc := mX6_priceWithout) (ci := 6) dX6_without_15 lX6_324 vX6_priceWithout rfl (m_priceWithout hZ hA (hB.mono (by omega)) (Or.inr ⟨k, k1, k2⟩)) ⟨_, hZ.2.1.1⟩ rfl rfl rfl rfl ?_
    rintro y15 M1 ⟨hy15, v1, X1, hZ, hK⟩
    refine Ev.goto (tgt := 23) dX6_without_18 (by decide) ?_
    refine Ev.iret dX6_without_23 rfl rfl ?_
    rw [an_without, if_pos (by rw [k2]; exact (cch_of hB k1).mpr ⟨k3, k4⟩)]
    exact ⟨_, rfl, hy15, _, _, hZ, hR.q (QT.rf.t.tr hK.q) (by rw [hK.1 1 (by decide)]; exact hR.1)⟩
end MMF
