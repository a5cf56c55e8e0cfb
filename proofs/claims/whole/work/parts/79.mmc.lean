theorem bn_up {b : Nat → Int32} {j : Nat} {x : Int32} (h : j ≠ 328) : bn (upd b j x) = bn b := by rw [bn, bn, pk_un (Ne.symm h)]
theorem Ag.up {m b : Nat → Int32} {j : Nat} {x : Int32} (hA : Ag m b) (hj : j ≠ 328) : Ag (upd m j x) (upd b j x) := by
  obtain ⟨g0, g1, g2, g3, g4, g5⟩ := hA
  have U : ∀ i, m i = b i → upd m j x i = upd b j x i := by
    intro i hi
    by_cases e : i = j
    · rw [e, pk_us, pk_us]
    · rw [pk_un e, pk_un e, hi]
  refine ⟨fun i hi => ?_, U _ g1, U _ g2, U _ g3, U _ g4, U _ g5⟩
  rw [bn_up hj] at hi
  exact U _ (g0 i hi)
theorem Ag.low {m b : Nat → Int32} {k : Nat} {q : Int32} (hA : Ag m b) (hk : k < bn b) (hn : bn b ≤ 40) : Ag (low m k q) (low b k q) := by
  rw [COpenCrossLaw_law_r5060_e2f5b9.low, COpenCrossLaw_law_r5060_e2f5b9.low, hA.1.at (i := 4) hk (by omega), hA.1.at (i := 5) hk (by omega)]
  exact ((hA.up (by omega)).up (by omega)).up (by omega)
theorem low_n {b : Nat → Int32} {k j : Nat} {q : Int32} (h : j < 8 * k ∨ 8 * k + 8 ≤ j) : low b k q j = b j := by
  rw [low, pk_un (by omega), pk_un (by omega), pk_un (by omega)]
theorem BW.cg {N : Nat} {b b' : Nat → Int32} (h : BW N b) (hr : ∀ j, 328 ≤ j → j ≤ 332 → j ≠ 329 → b' j = b j) (ho : OW b' (bn b)) : BW N b' := by
  obtain ⟨h1, h2, h3, h4, h5, h6, h7, h8, r, r1, r2, r3⟩ := h
  have e1 := hr 328 (by omega) (by omega) (by omega)
  have e2 := hr 331 (by omega) (by omega) (by omega)
  have e3 := hr 332 (by omega) (by omega) (by omega)
  have e4 := hr 330 (by omega) (by omega) (by omega)
  have en : bn b' = bn b := by rw [bn, e1, bn]
  have el : blo b' = blo b := by rw [blo, e2, blo]
  have eh : bhi b' = bhi b := by rw [bhi, e3, bhi]
  refine ⟨by rw [e1, en]; exact h1, by omega, by rw [en]; exact ho, by rw [e2, el]; exact h4, by rw [e3, eh]; exact h5, by omega, by omega, by omega, r, r1, r2, by rw [e4]; exact r3⟩
theorem OW.low {b : Nat → Int32} {n k q : Nat} (h : OW b n) (hk : k < n) (hq : ∃ q', b (8 * k + 2) = nI q' ∧ q ≤ q' ∧ q' ≤ 9999) (hg : 1 ≤ q ∨ b (8 * k + 7) = 1) : OW (low b k (nI q)) n := by
  intro i hi
  obtain ⟨s, kd, q0, pr, sh, le, ow, g, e0, e1, e2, e3, e4, e5, e6, e7, b0, b1, b2, b3, b4, b5, b6, b7, b8, b9, b10, b11⟩ := h i hi
  by_cases e : i = k
  · subst e
    obtain ⟨q', q1, q2, q3⟩ := hq
    have L : ∀ j, j ≠ 2 → j ≠ 4 → j ≠ 5 → j < 8 → COpenCrossLaw_law_r5060_e2f5b9.low b i (nI q) (8 * i + j) = b (8 * i + j) := fun j z1 z2 z3 z4 => by rw [COpenCrossLaw_law_r5060_e2f5b9.low, pk_un (by omega), pk_un (by omega), pk_un (by omega)]
    have L2 : COpenCrossLaw_law_r5060_e2f5b9.low b i (nI q) (8 * i + 2) = nI q := by rw [COpenCrossLaw_law_r5060_e2f5b9.low, pk_un (by omega), pk_un (by omega), pk_us]
    have L4 : COpenCrossLaw_law_r5060_e2f5b9.low b i (nI q) (8 * i + 4) = nI (min sh q) := by rw [COpenCrossLaw_law_r5060_e2f5b9.low, pk_un (by omega), pk_us, e4, mn_n (by omega) (by omega)]
    have L5 : COpenCrossLaw_law_r5060_e2f5b9.low b i (nI q) (8 * i + 5) = nI (min le q) := by rw [COpenCrossLaw_law_r5060_e2f5b9.low, pk_us, e5, mn_n (by omega) (by omega)]
    have hg1 : g = 0 → 1 ≤ q := by
      intro z
      rcases hg with y | y
      · exact y
      · rw [e7, z] at y
        exact absurd y (by decide)
    refine ⟨s, kd, q, pr, min sh q, min le q, ow, g, (L 0 (by omega) (by omega) (by omega) (by omega)).trans e0, (L 1 (by omega) (by omega) (by omega) (by omega)).trans e1, L2, (L 3 (by omega) (by omega) (by omega) (by omega)).trans e3, L4, L5, (L 6 (by omega) (by omega) (by omega) (by omega)).trans e6, (L 7 (by omega) (by omega) (by omega) (by omega)).trans e7, b0, b1, by omega, b3, b4, by omega, fun z => by rw [b6 z]; omega, by omega, b8, b9, hg1, fun z y => ?_⟩
    have := b11 z y
    have := hg1 z
    omega
  · have L : ∀ j, j < 8 → COpenCrossLaw_law_r5060_e2f5b9.low b k (nI q) (8 * i + j) = b (8 * i + j) := fun j z => low_n (by omega)
    exact ⟨s, kd, q0, pr, sh, le, ow, g, (L _ (by omega)).trans e0, (L _ (by omega)).trans e1, (L _ (by omega)).trans e2, (L _ (by omega)).trans e3, (L _ (by omega)).trans e4, (L _ (by omega)).trans e5, (L _ (by omega)).trans e6, (L _ (by omega)).trans e7, b0, b1, b2, b3, b4, b5, b6, b7, b8, b9, b10, b11⟩
theorem BW.low {b : Nat → Int32} {k : Nat} {q : Int32} (h : BW 40 b) (hk : k < bn b) (hq : 1 ≤ q) (hq2 : q ≤ b (8 * k + 2)) : BW 40 (low b k q) := by
  obtain ⟨s, kd, q0, pr, sh, le, ow, g, e0, e1, e2, e3, e4, e5, e6, e7, b0, b1, b2, -⟩ := h.2.2.1 k hk
  rw [e2] at hq2
  obtain ⟨q', q1, q3, rfl⟩ := int_le1 (by omega) hq hq2
  have hn := h.2.1
  exact h.cg (fun j h1 h2 _ => low_n (by omega)) (h.2.2.1.low hk ⟨q0, e2, q3, b2⟩ (Or.inl q1))
section MMC
variable {G : GP} {a : Nat → Nat} {M0 M : Wd} {v : Nat → Int32} {L : Int64} {X : Nat → Nat → Int32} {S : Sg}
theorem cch_of {b : Nat → Int32} {k : Nat} (hB : BW 40 b) (hk : k < bn b) : cch b (nI k) ↔ b (8 * k + 7) ≠ 1 ∧ b 329 ≠ 2 := by
  have hn := hB.2.1
  have : 0 ≤ nI k ∧ nI k < b 328 := ⟨nI_pos' (by omega), by rw [hB.1]; exact nI_lt hk (by omega)⟩
  rw [cch, nI_clamp (by omega)]
  exact ⟨fun h => h.2, fun h => ⟨this, h⟩⟩
theorem cch_no {b : Nat → Int32} {o : Int32} (hB : BW 40 b) (h : ∀ k, k < bn b → o = nI k → b (8 * k + 7) = 1 ∨ b 329 = 2) : ¬ cch b o := by
  rintro ⟨⟨h1, h2⟩, h3, h4⟩
  have hn := hB.2.1
  rw [hB.1] at h2
  obtain ⟨k, hk, rfl⟩ := nI_in_of h1 h2 (by omega)
  rw [nI_clamp (by omega)] at h3
  exact (h k hk rfl).elim h3 h4
set_option maxRecDepth 20000 in
theorem m_freeze (hS : Sok S) (hR : MR v X S) (hZ : MZ a M0 v L X M) : CtI G mX6_freeze [.ref (a 0)] M 0 0 (fun x M' => x = (sp_freeze S).1 ∧ ∃ (v' : Nat → Int32) (X' : Nat → Nat → Int32), MZ a M0 v' L X' M' ∧ MR v' X' (sp_freeze S).2) := by
  have e9 : X 1 329 = S.1.1 329 := hR.1.1.2.2.1
  refine Ct.of (ls := [some (.ref (a 0))]) (by decide) (by decide) rfl rfl rfl ?_
  refine Ev.ald0 dX6_freeze_0 ?_
  refine Ev.iconst (v := 0) dX6_freeze_1 (by decide) ?_
  refine Ev.mput (kx := 0) dX6_freeze_2 fX6_1 hZ rfl rfl (fun M hZ => ?_)
  refine Ev.ald0 dX6_freeze_5 ?_
  refine Ev.mgr (kx := 1) dX6_freeze_6 fX6_13 hZ rfl ?_
  refine Ev.sipush (v := 329) dX6_freeze_9 (by decide) ?_
  refine Ev.mld (j := 329) mq1 dX6_freeze_12 hZ (by first | assumption | (simp only [nI, Int32.ofNat_add, Int32.ofNat_mul]; done) | (simp only [nI, Int32.ofNat_add, Int32.ofNat_mul]; rfl) | rfl) (by omega) ?_
  (try simp only [ux_s, ux_n, ne_eq, Nat.reduceEqDiff, Nat.succ_ne_self, not_false_eq_true])
  rw [e9]
  refine Ev.if_eq (tgt := 18) dX6_freeze_13 (by decide) (fun c13 => ?_) (fun c13 => ?_)
  · refine Ev.ald0 dX6_freeze_18 ?_
    refine Ev.cvV (Yc := mX6_keepsBack) (ci := 6) dX6_freeze_19 lX6_302 vX6_keepsBack rfl (m_keep hS hR QT.rf.t hR.1 hZ) ⟨_, hZ.2.1.1⟩ rfl rfl rfl rfl ?_
    rintro M1 ⟨v3, X3, hZ, y1, y2, y3, y4⟩
    refine Ev.ald0 dX6_freeze_22 ?_
    refine Ev.mgr (kx := 1) dX6_freeze_23 fX6_13 hZ rfl ?_
    refine Ev.sipush (v := 329) dX6_freeze_26 (by decide) ?_
    refine Ev.iconst (v := 1) dX6_freeze_29 (by decide) ?_
    refine Ev.mst (j := 329) mq1 dX6_freeze_30 hZ (by first | assumption | (simp only [nI, Int32.ofNat_add, Int32.ofNat_mul]; done) | (simp only [nI, Int32.ofNat_add, Int32.ofNat_mul]; rfl) | rfl) (by omega) (fun M hZ => ?_)
    (try simp only [ux_u, ux_s, ux_n, ne_eq, Nat.reduceEqDiff, Nat.succ_ne_self, not_false_eq_true] at hZ)
    refine Ev.iconst (v := 1) dX6_freeze_31 (by decide) ?_
    refine Ev.iret dX6_freeze_32 rfl rfl ?_
    rw [sp_freeze, if_pos c13]
    refine ⟨_, rfl, rfl, _, _, hZ, y4 _ _ _ QT.rf.m ⟨?_, fun z => absurd z ?_⟩⟩
    · rw [ux_s, y1]
      exact hR.1.1.up (by decide)
    · show ¬ upd S.1.1 329 1 329 = 2
      rw [pk_us]
      decide
  · refine Ev.iconst (v := 0) dX6_freeze_16 (by decide) ?_
    refine Ev.iret dX6_freeze_17 rfl rfl ?_
    rw [sp_freeze, if_neg c13]
    exact ⟨_, rfl, rfl, _, _, hZ, hR.q QT.rf.t hR.1⟩
set_option maxRecDepth 20000 in
theorem m_reference {p : Int32} (hS : Sok S) (hR : MR v X S) (hZ : MZ a M0 v L X M) : CtI G mX6_reference_ [.ref (a 0), .int p] M 0 0 (fun x M' => x = (sp_reference S p).1 ∧ ∃ (v' : Nat → Int32) (X' : Nat → Nat → Int32), MZ a M0 v' L X' M' ∧ MR v' X' (sp_reference S p).2) := by
  have e9 : X 1 329 = S.1.1 329 := hR.1.1.2.2.1
  have e30 : X 1 330 = S.1.1 330 := hR.1.1.2.2.2.1
  refine Ct.of (ls := [some (.ref (a 0)), some (.int p), none]) (by decide) (by decide) rfl rfl rfl ?_
  refine Ev.ald0 dX6_reference__0 ?_
  refine Ev.iconst (v := 0) dX6_reference__1 (by decide) ?_
  refine Ev.mput (kx := 0) dX6_reference__2 fX6_1 hZ rfl rfl (fun M hZ => ?_)
  refine Ev.ald0 dX6_reference__5 ?_
  refine Ev.mgr (kx := 1) dX6_reference__6 fX6_13 hZ rfl ?_
  refine Ev.sipush (v := 329) dX6_reference__9 (by decide) ?_
  refine Ev.mld (j := 329) mq1 dX6_reference__12 hZ (by first | assumption | (simp only [nI, Int32.ofNat_add, Int32.ofNat_mul]; done) | (simp only [nI, Int32.ofNat_add, Int32.ofNat_mul]; rfl) | rfl) (by omega) ?_
  (try simp only [ux_s, ux_n, ne_eq, Nat.reduceEqDiff, Nat.succ_ne_self, not_false_eq_true])
  rw [e9]
  refine Ev.if_ne (tgt := 28) dX6_reference__13 (by decide) (fun c13 => ?_) (fun c13 => ?_)
  · refine Ev.iconst (v := -1) dX6_reference__28 (by decide) ?_
    refine Ev.iret dX6_reference__29 rfl rfl ?_
    rw [sp_reference, if_neg (fun z => c13 z.1)]
    exact ⟨_, rfl, rfl, _, _, hZ, hR.q QT.rf.t hR.1⟩
  · refine Ev.ild1 dX6_reference__16 ?_
    refine Ev.i2l dX6_reference__17 ?_
    refine Ev.lconst (v := 1) dX6_reference__18 (by decide) ?_
    refine Ev.ldc2 dX6_reference__19 kX6_288 ?_
    refine Ev.csI (Yc := mX6_within) dX6_reference__22 lX6_93 vX6_within rfl (m_wI (y := 1) (z := 999) (by decide) (by decide)) rfl rfl rfl ?_
    rintro y22 M9 ⟨hy22, rfl⟩
    refine Ev.if_ne (tgt := 30) dX6_reference__25 (by decide) (fun c25 => ?_) (fun c25 => ?_)
    · refine Ev.ald0 dX6_reference__30 ?_
      refine Ev.cvV (Yc := mX6_keepsBack) (ci := 6) dX6_reference__31 lX6_302 vX6_keepsBack rfl (m_keep hS hR QT.rf.t hR.1 hZ) ⟨_, hZ.2.1.1⟩ rfl rfl rfl rfl ?_
      rintro M1 ⟨v3, X3, hZ, y1, y2, y3, y4⟩
      refine Ev.ald0 dX6_reference__34 ?_
      refine Ev.mgr (kx := 1) dX6_reference__35 fX6_13 hZ rfl ?_
      refine Ev.sipush (v := 330) dX6_reference__38 (by decide) ?_
      refine Ev.mld (j := 330) mq1 dX6_reference__41 hZ (by first | assumption | (simp only [nI, Int32.ofNat_add, Int32.ofNat_mul]; done) | (simp only [nI, Int32.ofNat_add, Int32.ofNat_mul]; rfl) | rfl) (by omega) ?_
      (try simp only [ux_s, ux_n, ne_eq, Nat.reduceEqDiff, Nat.succ_ne_self, not_false_eq_true])
      rw [y1, e30]
      refine Ev.ist2 dX6_reference__42 rfl rfl ?_
      refine Ev.ald0 dX6_reference__43 ?_
      refine Ev.mgr (kx := 1) dX6_reference__44 fX6_13 hZ rfl ?_
      refine Ev.sipush (v := 330) dX6_reference__47 (by decide) ?_
      refine Ev.ild1 dX6_reference__50 ?_
      refine Ev.mst (j := 330) mq1 dX6_reference__51 hZ (by first | assumption | (simp only [nI, Int32.ofNat_add, Int32.ofNat_mul]; done) | (simp only [nI, Int32.ofNat_add, Int32.ofNat_mul]; rfl) | rfl) (by omega) (fun M hZ => ?_)
      (try simp only [ux_u, ux_s, ux_n, ne_eq, Nat.reduceEqDiff, Nat.succ_ne_self, not_false_eq_true] at hZ)
      refine Ev.ild2 dX6_reference__52 ?_
      refine Ev.iret dX6_reference__53 rfl rfl ?_
      rw [sp_reference, if_pos ⟨c13, v01_t hy22 c25⟩]
      refine ⟨_, rfl, rfl, _, _, hZ, y4 _ _ _ QT.rf.m ⟨?_, fun z => absurd z ?_⟩⟩
      · rw [ux_s, y1]
        exact hR.1.1.up (by decide)
      · show ¬ upd S.1.1 330 p 329 = 2
        rw [pk_un (by decide), c13]
        decide
    · refine Ev.iconst (v := -1) dX6_reference__28 (by decide) ?_
      refine Ev.iret dX6_reference__29 rfl rfl ?_
      rw [sp_reference, if_neg (fun z => v01_f hy22 c25 z.2)]
      exact ⟨_, rfl, rfl, _, _, hZ, hR.q QT.rf.t hR.1⟩
set_option maxRecDepth 20000 in
theorem m_collar {p q : Int32} (hS : Sok S) (hR : MR v X S) (hZ : MZ a M0 v L X M) : CtI G mX6_collar [.ref (a 0), .int p, .int q] M 0 0 (fun x M' => x = (sp_collar S p q).1 ∧ ∃ (v' : Nat → Int32) (X' : Nat → Nat → Int32), MZ a M0 v' L X' M' ∧ MR v' X' (sp_collar S p q).2) := by
  have e9 : X 1 329 = S.1.1 329 := hR.1.1.2.2.1
  refine Ct.of (ls := [some (.ref (a 0)), some (.int p), some (.int q)]) (by decide) (by decide) rfl rfl rfl ?_
  refine Ev.ald0 dX6_collar_0 ?_
  refine Ev.iconst (v := 0) dX6_collar_1 (by decide) ?_
  refine Ev.mput (kx := 0) dX6_collar_2 fX6_1 hZ rfl rfl (fun M hZ => ?_)
  refine Ev.ald0 dX6_collar_5 ?_
  refine Ev.mgr (kx := 1) dX6_collar_6 fX6_13 hZ rfl ?_
  refine Ev.sipush (v := 329) dX6_collar_9 (by decide) ?_
  refine Ev.mld (j := 329) mq1 dX6_collar_12 hZ (by first | assumption | (simp only [nI, Int32.ofNat_add, Int32.ofNat_mul]; done) | (simp only [nI, Int32.ofNat_add, Int32.ofNat_mul]; rfl) | rfl) (by omega) ?_
  (try simp only [ux_s, ux_n, ne_eq, Nat.reduceEqDiff, Nat.succ_ne_self, not_false_eq_true])
  rw [e9]
  refine Ev.if_ne (tgt := 41) dX6_collar_13 (by decide) (fun c13 => ?_) (fun c13 => ?_)
  · refine Ev.iconst (v := 0) dX6_collar_41 (by decide) ?_
    refine Ev.iret dX6_collar_42 rfl rfl ?_
    rw [sp_collar, if_neg (fun z => c13 z.1)]
    exact ⟨_, rfl, rfl, _, _, hZ, hR.q QT.rf.t hR.1⟩
  · refine Ev.ild1 dX6_collar_16 ?_
    refine Ev.i2l dX6_collar_17 ?_
    refine Ev.lconst (v := 1) dX6_collar_18 (by decide) ?_
    refine Ev.ldc2 dX6_collar_19 kX6_288 ?_
    refine Ev.csI (Yc := mX6_within) dX6_collar_22 lX6_93 vX6_within rfl (m_wI (y := 1) (z := 999) (by decide) (by decide)) rfl rfl rfl ?_
    rintro y22 M9 ⟨hy22, rfl⟩
    refine Ev.if_eq (tgt := 41) dX6_collar_25 (by decide) (fun c25 => ?_) (fun c25 => ?_)
    · refine Ev.iconst (v := 0) dX6_collar_41 (by decide) ?_
      refine Ev.iret dX6_collar_42 rfl rfl ?_
      rw [sp_collar, if_neg (fun z => v01_f hy22 c25 z.2.1)]
      exact ⟨_, rfl, rfl, _, _, hZ, hR.q QT.rf.t hR.1⟩
    · refine Ev.ild2 dX6_collar_28 ?_
      refine Ev.i2l dX6_collar_29 ?_
      refine Ev.ild1 dX6_collar_30 ?_
      refine Ev.i2l dX6_collar_31 ?_
      refine Ev.ldc2 dX6_collar_32 kX6_288 ?_
      refine Ev.csI (Yc := mX6_within) dX6_collar_35 lX6_93 vX6_within rfl (m_wI (y := p) (z := 999) rfl (by decide)) rfl rfl rfl ?_
      rintro y35 M9 ⟨hy35, rfl⟩
      refine Ev.if_ne (tgt := 43) dX6_collar_38 (by decide) (fun c38 => ?_) (fun c38 => ?_)
      · refine Ev.ald0 dX6_collar_43 ?_
        refine Ev.cvV (Yc := mX6_keepsBack) (ci := 6) dX6_collar_44 lX6_302 vX6_keepsBack rfl (m_keep hS hR QT.rf.t hR.1 hZ) ⟨_, hZ.2.1.1⟩ rfl rfl rfl rfl ?_
        rintro M1 ⟨v3, X3, hZ, y1, y2, y3, y4⟩
        refine Ev.ald0 dX6_collar_47 ?_
        refine Ev.mgr (kx := 1) dX6_collar_48 fX6_13 hZ rfl ?_
        refine Ev.sipush (v := 331) dX6_collar_51 (by decide) ?_
        refine Ev.ild1 dX6_collar_54 ?_
        refine Ev.mst (j := 331) mq1 dX6_collar_55 hZ (by first | assumption | (simp only [nI, Int32.ofNat_add, Int32.ofNat_mul]; done) | (simp only [nI, Int32.ofNat_add, Int32.ofNat_mul]; rfl) | rfl) (by omega) (fun M hZ => ?_)
        (try simp only [ux_u, ux_s, ux_n, ne_eq, Nat.reduceEqDiff, Nat.succ_ne_self, not_false_eq_true] at hZ)
        refine Ev.ald0 dX6_collar_56 ?_
        refine Ev.mgr (kx := 1) dX6_collar_57 fX6_13 hZ rfl ?_
        refine Ev.sipush (v := 332) dX6_collar_60 (by decide) ?_
        refine Ev.ild2 dX6_collar_63 ?_
        refine Ev.mst (j := 332) mq1 dX6_collar_64 hZ (by first | assumption | (simp only [nI, Int32.ofNat_add, Int32.ofNat_mul]; done) | (simp only [nI, Int32.ofNat_add, Int32.ofNat_mul]; rfl) | rfl) (by omega) (fun M hZ => ?_)
        (try simp only [ux_u, ux_s, ux_n, ne_eq, Nat.reduceEqDiff, Nat.succ_ne_self, not_false_eq_true] at hZ)
        refine Ev.iconst (v := 1) dX6_collar_65 (by decide) ?_
        refine Ev.iret dX6_collar_66 rfl rfl ?_
        rw [sp_collar, if_pos ⟨c13, v01_t hy22 c25, v01_t hy35 c38⟩]
        refine ⟨_, rfl, rfl, _, _, hZ, y4 _ _ _ QT.rf.m ⟨?_, fun z => absurd z ?_⟩⟩
        · rw [ux_s, y1]
          exact (hR.1.1.up (by decide)).up (by decide)
        · show ¬ upd (upd S.1.1 331 p) 332 q 329 = 2
          rw [pk_un (by decide), pk_un (by decide), c13]
          decide
      · refine Ev.iconst (v := 0) dX6_collar_41 (by decide) ?_
        refine Ev.iret dX6_collar_42 rfl rfl ?_
        rw [sp_collar, if_neg (fun z => v01_f hy35 c38 z.2.2)]
        exact ⟨_, rfl, rfl, _, _, hZ, hR.q QT.rf.t hR.1⟩
theorem m_back (hS : Sok S) (hR : MR v X S) (hZ : MZ a M0 v L X M) : CtI G mX6_back [.ref (a 0)] M 0 0 (fun x M' => x = (sp_back S).1 ∧ ∃ (v' : Nat → Int32) (X' : Nat → Nat → Int32), MZ a M0 v' L X' M' ∧ MR v' X' (sp_back S).2) := by
  have hl := hS.2.2.1
  by_cases h0 : S.2.1.length = 0
  · refine Ct.mono (m_back0 (by rw [hR.2.1.1, h0]; exact nI_0) hZ) ?_
    rintro u M' ⟨x, rfl, rfl, hZ2⟩
    rw [sp_back, if_pos h0]
    exact ⟨_, rfl, rfl, _, _, hZ2, hR.q QT.rf.t hR.1⟩
  · obtain ⟨k, hk⟩ : ∃ k, S.2.1.length = k + 1 := ⟨S.2.1.length - 1, by omega⟩
    refine Ct.mono (m_back1 (k := k) (by omega) (by rw [hR.2.1.1, hk]) hZ) ?_
    rintro u M' ⟨x, rfl, rfl, hZ2⟩
    rw [sp_back, if_neg h0]
    have hlast : S.2.1[k]? = some ((S.2.1[S.2.1.length - 1]?).getD S.1) := by
      rw [show S.2.1.length - 1 = k by omega, List.getElem?_eq_getElem (l := S.2.1) (i := k) (by omega)]
      rfl
    refine ⟨_, rfl, rfl, _, _, hZ2, ?_, ⟨?_, fun i q hi => ?_⟩, ⟨?_, fun j hj => ?_⟩, ?_, ?_, fun j hj => ?_⟩
    · rw [ux_s]
      exact RB.cg (hS.2.1 _ (List.mem_of_getElem? hlast)) (hR.2.1.2 k _ hlast) (fun j hj => by rw [if_pos hj])
    · rw [pk_us]
      show _ = nI (S.2.1.dropLast.length)
      rw [List.length_dropLast, hk]
      rfl
    · rw [ux_n (by decide)]
      refine hR.2.1.2 i q ?_
      have hi2 := (List.getElem?_eq_some_iff.mp hi).1
      rw [List.length_dropLast] at hi2
      rw [← hi, List.getElem?_dropLast, if_pos (by omega)]
    · exact hR.2.2.1.1
    · rw [ux_n (by decide)]; exact hR.2.2.1.2 j hj
    · exact hR.2.2.2.1
    · exact hR.2.2.2.2.1
    · rw [ux_n (by decide)]; exact hR.2.2.2.2.2 j hj
set_option maxRecDepth 20000 in
theorem m_gone {o : Int32} (hS : Sok S) (hR : MR v X S) (hZ : MZ a M0 v L X M) : CtI G mX6_gone [.ref (a 0), .int o] M 0 0 (fun x M' => x = (sp_gone S o).1 ∧ ∃ (v' : Nat → Int32) (X' : Nat → Nat → Int32), MZ a M0 v' L X' M' ∧ MR v' X' (sp_gone S o).2) := by
  obtain ⟨hA, hX⟩ := hR.1
  have hB : BW 40 S.1.1 := hS.1.1
  have hn := hB.2.1
  have e9 : X 1 329 = S.1.1 329 := hA.2.2.1
  have hno : ∀ {M v1 X1}, ¬ (cch S.1.1 o ∧ ¬ (S.1.1 329 = 1 ∧ ab (xR S.1.1 (-1)) < ab (xR S.1.1 o))) → MZ a M0 v1 L X1 M → QT v v1 X X1 → RB (X1 1) S.1.1 S.1.2 → (∃ x, some (Value.int (-1)) = some (.int x) ∧ x = (sp_gone S o).1 ∧ ∃ (v' : Nat → Int32) (X' : Nat → Nat → Int32), MZ a M0 v' L X' M ∧ MR v' X' (sp_gone S o).2) := by
    intro M v1 X1 hc hZ hq hr
    rw [sp_gone, if_neg hc]
    exact ⟨_, rfl, rfl, v1, X1, hZ, hR.q hq hr⟩
  by_cases hc : ∃ k, k < bn S.1.1 ∧ o = nI k
  · obtain ⟨k, hk, rfl⟩ := hc
    have hcl : (nI k).toNatClampNeg = k := nI_clamp (by omega)
    have hyes : ∀ {M : Wd} {v1 : Nat → Int32} {X1 : Nat → Nat → Int32} (a2 : Option Value), cch S.1.1 (nI k) → ¬ (S.1.1 329 = 1 ∧ ab (xR S.1.1 (-1)) < ab (xR S.1.1 (nI k))) → MZ a M0 v1 L X1 M → QT v v1 X X1 → X1 1 = X 1 → Ev G mX6_gone 50 [some (.ref (a 0)), some (.int (nI k)), a2] [] M 0 0 (fun u M' => ∃ x, u = some (.int x) ∧ x = (sp_gone S (nI k)).1 ∧ ∃ (v' : Nat → Int32) (X' : Nat → Nat → Int32), MZ a M0 v' L X' M' ∧ MR v' X' (sp_gone S (nI k)).2) := by
      intro M v1 X1 a2 hc1 hc2 hZ hq x1
      have hc3 := (cch_of hB hk).mp hc1
      have e2 := hA.1.at (i := 2) hk (by omega)
      refine Ev.ald0 dX6_gone_50 ?_
      refine Ev.cvV (Yc := mX6_keepsBack) (ci := 6) dX6_gone_51 lX6_302 vX6_keepsBack rfl (m_keep hS hR hq (by rw [x1]; exact hR.1) hZ) ⟨_, hZ.2.1.1⟩ rfl rfl rfl rfl ?_
      rintro M1 ⟨v3, X3, hZ, y1, y2, y3, y4⟩
      refine Ev.ald0 dX6_gone_54 ?_
      refine Ev.mgr (kx := 1) dX6_gone_55 fX6_13 hZ rfl ?_
      refine Ev.bipush (v := 8) dX6_gone_58 (by decide) ?_
      refine Ev.ild1 dX6_gone_60 ?_
      refine Ev.imul dX6_gone_61 ?_
      refine Ev.bipush (v := 7) dX6_gone_62 (by decide) ?_
      refine Ev.iadd dX6_gone_64 ?_
      refine Ev.iconst (v := 1) dX6_gone_65 (by decide) ?_
      refine Ev.mst (j := ((8 * k) + 7)) mq1 dX6_gone_66 hZ (by first | assumption | (simp only [nI, Int32.ofNat_add, Int32.ofNat_mul]; done) | (simp only [nI, Int32.ofNat_add, Int32.ofNat_mul]; rfl) | rfl) (by omega) (fun M hZ => ?_)
      (try simp only [ux_u, ux_s, ux_n, ne_eq, Nat.reduceEqDiff, Nat.succ_ne_self, not_false_eq_true] at hZ)
      refine Ev.ald0 dX6_gone_67 ?_
      refine Ev.ild1 dX6_gone_68 ?_
      refine Ev.iconst (v := 2) dX6_gone_69 (by decide) ?_
      refine Ev.cvI (Yc := mX6_of) (ci := 6) dX6_gone_70 lX6_201 vX6_of rfl (m_of (k) (2) (by first | assumption | (simp only [nI, Int32.ofNat_add, Int32.ofNat_mul]; done) | (simp only [nI, Int32.ofNat_add, Int32.ofNat_mul]; rfl) | rfl) (by first | assumption | (simp only [nI, Int32.ofNat_add, Int32.ofNat_mul]; done) | (simp only [nI, Int32.ofNat_add, Int32.ofNat_mul]; rfl) | rfl) hZ.2.1.1 hZ.2.1.g1 (by omega)) ⟨_, hZ.2.1.1⟩ rfl rfl rfl rfl ?_
      rintro y70 M9 ⟨hy70, rfl⟩
      subst hy70
      rw [ux_s, pk_un (by omega), y1, x1, e2]
      refine Ev.iret dX6_gone_73 rfl rfl ?_
      rw [sp_gone, if_pos ⟨hc1, hc2⟩, hcl]
      refine ⟨_, rfl, rfl, _, _, hZ, y4 _ _ _ QT.rf.m ⟨?_, fun z => absurd z ?_⟩⟩
      · rw [ux_s, y1, x1]
        exact hA.up (by omega)
      · show ¬ upd S.1.1 (8 * k + 7) 1 329 = 2
        rw [pk_un (by omega)]
        exact hc3.2
    have uq : ∀ j, j < bn S.1.1 → nI k = nI j → j = k := fun j hj q => ((nI_eq (by omega) (by omega)).mp q).symm
    refine Ct.of (ls := [some (.ref (a 0)), some (.int (nI k)), none]) (by decide) (by decide) rfl rfl rfl ?_
    refine Ev.ald0 dX6_gone_0 ?_
    refine Ev.iconst (v := 0) dX6_gone_1 (by decide) ?_
    refine Ev.mput (kx := 0) dX6_gone_2 fX6_1 hZ rfl rfl (fun M hZ => ?_)
    refine Ev.ald0 dX6_gone_5 ?_
    refine Ev.ild1 dX6_gone_6 ?_
    refine Ev.cvI (Yc := mX6_canChange) (ci := 6) dX6_gone_7 lX6_308 vX6_canChange rfl (m_canChange hZ hA hB) ⟨_, hZ.2.1.1⟩ rfl rfl rfl rfl ?_
    rintro y7 M9 ⟨rfl, hy7⟩
    refine Ev.if_ne (tgt := 15) dX6_gone_10 (by decide) (fun c10 => ?_) (fun c10 => ?_)
    · have hch : cch S.1.1 (nI k) := by
        rcases hy7 with ⟨j, j1, j2, j3, j4, j5⟩ | ⟨_, j5⟩
        · rw [uq j j1 j2] at j3
          exact (cch_of hB hk).mpr ⟨j3, j4⟩
        · exact absurd j5 c10
      refine Ev.ald0 dX6_gone_15 ?_
      refine Ev.mgr (kx := 1) dX6_gone_16 fX6_13 hZ rfl ?_
      refine Ev.sipush (v := 329) dX6_gone_19 (by decide) ?_
      refine Ev.mld (j := 329) mq1 dX6_gone_22 hZ (by first | assumption | (simp only [nI, Int32.ofNat_add, Int32.ofNat_mul]; done) | (simp only [nI, Int32.ofNat_add, Int32.ofNat_mul]; rfl) | rfl) (by omega) ?_
      (try simp only [ux_s, ux_n, ne_eq, Nat.reduceEqDiff, Nat.succ_ne_self, not_false_eq_true])
      rw [e9]
      refine Ev.iconst (v := 1) dX6_gone_23 (by decide) ?_
      refine Ev.icmp_ne (tgt := 50) dX6_gone_24 (by decide) (fun c24 => ?_) (fun c24 => ?_)
      · exact hyes _ hch (fun z => c24 z.1) hZ QT.rf.t rfl
      · refine Ev.ald0 dX6_gone_27 ?_
        refine Ev.cvI (Yc := mX6_restNow) (ci := 6) dX6_gone_28 lX6_296 vX6_restNow rfl (m_restNow hZ hA (hB.mono (by omega))) ⟨_, hZ.2.1.1⟩ rfl rfl rfl rfl ?_
        rintro y28 M3 ⟨hy28, v3, X3, hZ, hK3⟩
        have x3 : X3 1 = X 1 := hK3.1 1 (by decide)
        refine Ev.ist2 dX6_gone_31 rfl rfl ?_
        refine Ev.ald0 dX6_gone_32 ?_
        refine Ev.ild1 dX6_gone_33 ?_
        refine Ev.cvV (Yc := mX6_crosses) (ci := 6) dX6_gone_34 lX6_278 vX6_crosses rfl (m_cross hZ (by rw [x3]; exact hA) (hB.mono (by omega)) (Or.inr ⟨k, hk, rfl⟩)) ⟨_, hZ.2.1.1⟩ rfl rfl rfl rfl ?_
        rintro M4 ⟨v4, X4, hZ, hK4, hC4⟩
        have x4 : X4 1 = X 1 := (hK4.1 1 (by decide)).trans x3
        have r4 := hC4.2.2.2.2.2.2.2.2.2
        refine Ev.ald0 dX6_gone_37 ?_
        refine Ev.mgv (kx := 38) dX6_gone_38 fX6_269 hZ rfl ?_
        rw [r4]
        refine Ev.csI (Yc := mX6_size) dX6_gone_41 lX6_236 vX6_size rfl m_size rfl rfl rfl ?_
        rintro y41 M9 ⟨hy41, rfl⟩
        subst hy41
        refine Ev.ild2 dX6_gone_44 ?_
        refine Ev.icmp_le (tgt := 50) dX6_gone_45 (by decide) (fun c45 => ?_) (fun c45 => ?_)
        · exact hyes _ hch (fun z => absurd z.2 (Int32.not_lt.mpr (by rw [← hy28]; exact c45))) hZ ((QT.rf.t.tr hK3.q).tr hK4.q) x4
        · refine Ev.iconst (v := -1) dX6_gone_48 (by decide) ?_
          refine Ev.iret dX6_gone_49 rfl rfl ?_
          exact hno (fun z => z.2 ⟨c24, by rw [← hy28]; exact Int32.not_le.mp c45⟩) hZ ((QT.rf.t.tr hK3.q).tr hK4.q) (by rw [x4]; exact hR.1)
    · refine Ev.iconst (v := -1) dX6_gone_13 (by decide) ?_
      refine Ev.iret dX6_gone_14 rfl rfl ?_
      exact hno (fun z => cch_no hB ((hy7.resolve_left (fun ⟨_, _, _, _, _, y⟩ => absurd (y.symm.trans c10) (by decide))).1) z.1) hZ QT.rf.t hR.1
  · have hcn : ¬ cch S.1.1 o := cch_no hB (fun k hk q => absurd ⟨k, hk, q⟩ hc)
    refine Ct.of (ls := [some (.ref (a 0)), some (.int o), none]) (by decide) (by decide) rfl rfl rfl ?_
    refine Ev.ald0 dX6_gone_0 ?_
    refine Ev.iconst (v := 0) dX6_gone_1 (by decide) ?_
    refine Ev.mput (kx := 0) dX6_gone_2 fX6_1 hZ rfl rfl (fun M hZ => ?_)
    refine Ev.ald0 dX6_gone_5 ?_
    refine Ev.ild1 dX6_gone_6 ?_
    refine Ev.cvI (Yc := mX6_canChange) (ci := 6) dX6_gone_7 lX6_308 vX6_canChange rfl (m_canChange hZ hA hB) ⟨_, hZ.2.1.1⟩ rfl rfl rfl rfl ?_
    rintro y7 M9 ⟨rfl, hy7⟩
    have hy0 : y7 = 0 := (hy7.resolve_left (fun ⟨k, h1, h2, _⟩ => hc ⟨k, h1, h2⟩)).2
    refine Ev.if_ne (tgt := 15) dX6_gone_10 (by decide) (fun c10 => by first | exact absurd c10 hy0 | exact absurd hy0 c10) (fun c10 => ?_)
    refine Ev.iconst (v := -1) dX6_gone_13 (by decide) ?_
    refine Ev.iret dX6_gone_14 rfl rfl ?_
    exact hno (fun z => hcn z.1) hZ QT.rf.t hR.1
set_option maxRecDepth 20000 in
theorem m_less {o q : Int32} (hS : Sok S) (hR : MR v X S) (hZ : MZ a M0 v L X M) : CtI G mX6_less [.ref (a 0), .int o, .int q] M 0 0 (fun x M' => x = (sp_less S o q).1 ∧ ∃ (v' : Nat → Int32) (X' : Nat → Nat → Int32), MZ a M0 v' L X' M' ∧ MR v' X' (sp_less S o q).2) := by
  obtain ⟨hA, hX⟩ := hR.1
  have hB : BW 40 S.1.1 := hS.1.1
  have hn := hB.2.1
  have e9 : X 1 329 = S.1.1 329 := hA.2.2.1
  have hno : ∀ {M v1 X1}, ¬ ((cch S.1.1 o ∧ (1 ≤ q ∧ q ≤ S.1.1 (8 * o.toNatClampNeg + 2) - 1)) ∧ ¬ (S.1.1 329 = 1 ∧ ab (xR S.1.1 (-1)) < ab (xR (low S.1.1 o.toNatClampNeg q) (-1)))) → MZ a M0 v1 L X1 M → QT v v1 X X1 → RB (X1 1) S.1.1 S.1.2 → (∃ x, some (Value.int (-1)) = some (.int x) ∧ x = (sp_less S o q).1 ∧ ∃ (v' : Nat → Int32) (X' : Nat → Nat → Int32), MZ a M0 v' L X' M ∧ MR v' X' (sp_less S o q).2) := by
    intro M v1 X1 hc hZ hq hr
    rw [sp_less, if_neg hc]
    exact ⟨_, rfl, rfl, v1, X1, hZ, hR.q hq hr⟩
  by_cases hc : ∃ k, k < bn S.1.1 ∧ o = nI k
  · obtain ⟨k, hk, rfl⟩ := hc
    have hcl : (nI k).toNatClampNeg = k := nI_clamp (by omega)
    have e2 := hA.1.at (i := 2) hk (by omega)
    have uq : ∀ j, j < bn S.1.1 → nI k = nI j → j = k := fun j hj q => ((nI_eq (by omega) (by omega)).mp q).symm
    obtain ⟨s, kd, q0, pr, sh, le, ow, g, f0, f1, f2, f3, f4, f5, f6, f7, g0, g1, g2, g3, g4, g5, g6, g7, g8, g9, g10, g11⟩ := hB.2.2.1 k hk
    have hsub : S.1.1 (8 * k + 7) ≠ 1 → S.1.1 (8 * k + 2) - 1 ≤ S.1.1 (8 * k + 2) := by
      intro h
      rw [f7] at h
      have hg : g = 0 := by
        have h1 : g ≠ 1 := fun z => h (by rw [z]; rfl)
        omega
      have hq1 := g10 hg
      rw [f2, show (1 : Int32) = nI 1 from rfl, nI_subI hq1]
      exact nI_le (by omega) (by omega)
    -- from the second rest on
    have J : ∀ (wo : Int32) (v2 : Nat → Int32) (X2 : Nat → Nat → Int32) (M : Wd) (a7 : Int32) (a8 : Option Value), cch S.1.1 (nI k) → 1 ≤ q ∧ q ≤ S.1.1 (8 * k + 2) - 1 → (wo = 1 ∧ (S.1.1 329 = 1 ∧ ab (xR S.1.1 (-1)) < ab (xR (low S.1.1 k q) (-1))) ∨ wo = 0 ∧ ¬ (S.1.1 329 = 1 ∧ ab (xR S.1.1 (-1)) < ab (xR (low S.1.1 k q) (-1)))) → MZ a M0 v2 L X2 M → QT v v2 X X2 → X2 1 = low (X 1) k q → Ev G mX6_less 106 [some (.ref (a 0)), some (.int (nI k)), some (.int q), some (.int (8 * nI k)), some (.int (X 1 (8 * k + 2))), some (.int (X 1 (8 * k + 4))), some (.int (X 1 (8 * k + 5))), some (.int a7), a8] [.int wo] M 0 0 (fun u M' => ∃ x, u = some (.int x) ∧ x = (sp_less S (nI k) q).1 ∧ ∃ (v' : Nat → Int32) (X' : Nat → Nat → Int32), MZ a M0 v' L X' M' ∧ MR v' X' (sp_less S (nI k) q).2) := by
      intro wo v2 X2 M a7 a8 hc1 hc2 hwo hZ hq x2
      have hc3 := (cch_of hB hk).mp hc1
      have eb : upd (upd (upd (low (X 1) k q) (8 * k + 2) (X 1 (8 * k + 2))) (8 * k + 4) (X 1 (8 * k + 4))) (8 * k + 5) (X 1 (8 * k + 5)) = X 1 := by
        funext j
        rw [low]
        by_cases j5 : j = 8 * k + 5
        · rw [j5, pk_us]
        · rw [pk_un j5]
          by_cases j4 : j = 8 * k + 4
          · rw [j4, pk_us]
          · rw [pk_un j4]
            by_cases j2 : j = 8 * k + 2
            · rw [j2, pk_us]
            · rw [pk_un j2, pk_un j5, pk_un j4, pk_un j2]
      refine Ev.ist8 dX6_less_106 rfl rfl ?_
      refine Ev.ald0 dX6_less_108 ?_
      refine Ev.mgr (kx := 1) dX6_less_109 fX6_13 hZ rfl ?_
      refine Ev.ild3 dX6_less_112 ?_
      refine Ev.iconst (v := 2) dX6_less_113 (by decide) ?_
      refine Ev.iadd dX6_less_114 ?_
      refine Ev.ild4 dX6_less_115 ?_
      refine Ev.mst (j := (8 * k + 2)) mq1 dX6_less_117 hZ (by first | assumption | (simp only [nI, Int32.ofNat_add, Int32.ofNat_mul]; done) | (simp only [nI, Int32.ofNat_add, Int32.ofNat_mul]; rfl) | rfl) (by omega) (fun M hZ => ?_)
      (try simp only [ux_u, ux_s, ux_n, ne_eq, Nat.reduceEqDiff, Nat.succ_ne_self, not_false_eq_true] at hZ)
      refine Ev.ald0 dX6_less_118 ?_
      refine Ev.mgr (kx := 1) dX6_less_119 fX6_13 hZ rfl ?_
      refine Ev.ild3 dX6_less_122 ?_
      refine Ev.iconst (v := 4) dX6_less_123 (by decide) ?_
      refine Ev.iadd dX6_less_124 ?_
      refine Ev.ild5 dX6_less_125 ?_
      refine Ev.mst (j := (8 * k + 4)) mq1 dX6_less_127 hZ (by first | assumption | (simp only [nI, Int32.ofNat_add, Int32.ofNat_mul]; done) | (simp only [nI, Int32.ofNat_add, Int32.ofNat_mul]; rfl) | rfl) (by omega) (fun M hZ => ?_)
      (try simp only [ux_u, ux_s, ux_n, ne_eq, Nat.reduceEqDiff, Nat.succ_ne_self, not_false_eq_true] at hZ)
      refine Ev.ald0 dX6_less_128 ?_
      refine Ev.mgr (kx := 1) dX6_less_129 fX6_13 hZ rfl ?_
      refine Ev.ild3 dX6_less_132 ?_
      refine Ev.iconst (v := 5) dX6_less_133 (by decide) ?_
      refine Ev.iadd dX6_less_134 ?_
      refine Ev.ild6 dX6_less_135 ?_
      refine Ev.mst (j := (8 * k + 5)) mq1 dX6_less_137 hZ (by first | assumption | (simp only [nI, Int32.ofNat_add, Int32.ofNat_mul]; done) | (simp only [nI, Int32.ofNat_add, Int32.ofNat_mul]; rfl) | rfl) (by omega) (fun M hZ => ?_)
      (try simp only [ux_u, ux_s, ux_n, ne_eq, Nat.reduceEqDiff, Nat.succ_ne_self, not_false_eq_true] at hZ)
      rw [x2, eb] at hZ
      refine Ev.ild8 dX6_less_138 ?_
      refine Ev.if_eq (tgt := 145) dX6_less_140 (by decide) (fun c140 => ?_) (fun c140 => ?_)
      · refine Ev.ald0 dX6_less_145 ?_
        refine Ev.cvV (Yc := mX6_keepsBack) (ci := 6) dX6_less_146 lX6_302 vX6_keepsBack rfl (m_keep hS hR hq.m (by rw [ux_s]; exact hR.1) hZ) ⟨_, hZ.2.1.1⟩ rfl rfl rfl rfl ?_
        rintro M1 ⟨v3, X3, hZ, y1, y2, y3, y4⟩
        rw [ux_s] at y1
        refine Ev.ald0 dX6_less_149 ?_
        refine Ev.ild1 dX6_less_150 ?_
        refine Ev.ild2 dX6_less_151 ?_
        refine Ev.cvV (Yc := mX6_lessens) (ci := 6) dX6_less_152 lX6_311 vX6_lessens rfl (m_lessens k rfl (by omega) hZ) ⟨_, hZ.2.1.1⟩ rfl rfl rfl rfl ?_
        rintro M2 hZ
        refine Ev.ild4 dX6_less_155 ?_
        refine Ev.iret dX6_less_157 rfl rfl ?_
        have hyes : (cch S.1.1 (nI k) ∧ (1 ≤ q ∧ q ≤ S.1.1 (8 * k + 2) - 1)) ∧ ¬ (S.1.1 329 = 1 ∧ ab (xR S.1.1 (-1)) < ab (xR (low S.1.1 k q) (-1))) := ⟨⟨hc1, hc2⟩, (hwo.resolve_left (fun y => absurd (y.1.symm.trans c140) (by decide))).2⟩
        have hyes2 : (cch S.1.1 (nI k) ∧ (1 ≤ q ∧ q ≤ S.1.1 (8 * (nI k).toNatClampNeg + 2) - 1)) ∧ ¬ (S.1.1 329 = 1 ∧ ab (xR S.1.1 (-1)) < ab (xR (low S.1.1 (nI k).toNatClampNeg q) (-1))) := by rw [hcl]; exact hyes
        rw [sp_less, if_pos hyes2, hcl]
        refine ⟨_, rfl, e2, _, _, hZ, y4 _ _ _ QT.rf.m ⟨?_, fun z => absurd z ?_⟩⟩
        · rw [ux_s, y1]
          exact hA.low hk hn
        · show ¬ low S.1.1 k q 329 = 2
          rw [low_n (by omega)]
          exact hc3.2
      · refine Ev.iconst (v := -1) dX6_less_143 (by decide) ?_
        refine Ev.iret dX6_less_144 rfl rfl ?_
        exact hno (fun z => z.2 (by rw [hcl]; exact (hwo.resolve_right (fun y => c140 y.1)).2)) hZ hq.m (by rw [ux_s]; exact hR.1)
    refine Ct.of (ls := [some (.ref (a 0)), some (.int (nI k)), some (.int q), none, none, none, none, none, none]) (by decide) (by decide) rfl rfl rfl ?_
    refine Ev.ald0 dX6_less_0 ?_
    refine Ev.iconst (v := 0) dX6_less_1 (by decide) ?_
    refine Ev.mput (kx := 0) dX6_less_2 fX6_1 hZ rfl rfl (fun M hZ => ?_)
    refine Ev.ald0 dX6_less_5 ?_
    refine Ev.ild1 dX6_less_6 ?_
    refine Ev.cvI (Yc := mX6_canChange) (ci := 6) dX6_less_7 lX6_308 vX6_canChange rfl (m_canChange hZ hA hB) ⟨_, hZ.2.1.1⟩ rfl rfl rfl rfl ?_
    rintro y7 M9 ⟨rfl, hy7⟩
    refine Ev.if_eq (tgt := 31) dX6_less_10 (by decide) (fun c10 => ?_) (fun c10 => ?_)
    · refine Ev.iconst (v := -1) dX6_less_31 (by decide) ?_
      refine Ev.iret dX6_less_32 rfl rfl ?_
      exact hno (fun z => cch_no hB ((hy7.resolve_left (fun ⟨_, _, _, _, _, y⟩ => absurd (y.symm.trans c10) (by decide))).1) z.1.1) hZ QT.rf.t hR.1
    · refine Ev.ild2 dX6_less_13 ?_
      refine Ev.i2l dX6_less_14 ?_
      refine Ev.lconst (v := 1) dX6_less_15 (by decide) ?_
      refine Ev.ald0 dX6_less_16 ?_
      refine Ev.ild1 dX6_less_17 ?_
      refine Ev.iconst (v := 2) dX6_less_18 (by decide) ?_
      refine Ev.cvI (Yc := mX6_of) (ci := 6) dX6_less_19 lX6_201 vX6_of rfl (m_of (k) (2) (by first | assumption | (simp only [nI, Int32.ofNat_add, Int32.ofNat_mul]; done) | (simp only [nI, Int32.ofNat_add, Int32.ofNat_mul]; rfl) | rfl) (by first | assumption | (simp only [nI, Int32.ofNat_add, Int32.ofNat_mul]; done) | (simp only [nI, Int32.ofNat_add, Int32.ofNat_mul]; rfl) | rfl) hZ.2.1.1 hZ.2.1.g1 (by omega)) ⟨_, hZ.2.1.1⟩ rfl rfl rfl rfl ?_
      rintro y19 M9 ⟨hy19, rfl⟩
      subst hy19
      rw [e2]
      refine Ev.iconst (v := 1) dX6_less_22 (by decide) ?_
      refine Ev.isub dX6_less_23 ?_
      refine Ev.i2l dX6_less_24 ?_
      refine Ev.csI (Yc := mX6_within) dX6_less_25 lX6_93 vX6_within rfl (m_wI (y := 1) (z := S.1.1 (8 * k + 2) - 1) (by decide) rfl) rfl rfl rfl ?_
      rintro y25 M9 ⟨hy25, rfl⟩
      refine Ev.if_ne (tgt := 33) dX6_less_28 (by decide) (fun c28 => ?_) (fun c28 => ?_)
      · have hch : cch S.1.1 (nI k) := by
          rcases hy7 with ⟨j, j1, j2, j3, j4, j5⟩ | ⟨_, j5⟩
          · rw [uq j j1 j2] at j3
            exact (cch_of hB hk).mpr ⟨j3, j4⟩
          · exact absurd j5 c10
        have hqq := v01_t hy25 c28
        have hBl : BW 40 (low S.1.1 k q) := hB.low hk hqq.1 (Int32.le_trans hqq.2 (hsub ((cch_of hB hk).mp hch).1))
        refine Ev.bipush (v := 8) dX6_less_33 (by decide) ?_
        refine Ev.ild1 dX6_less_35 ?_
        refine Ev.imul dX6_less_36 ?_
        refine Ev.ist3 dX6_less_37 rfl rfl ?_
        refine Ev.ald0 dX6_less_38 ?_
        refine Ev.mgr (kx := 1) dX6_less_39 fX6_13 hZ rfl ?_
        refine Ev.ild3 dX6_less_42 ?_
        refine Ev.iconst (v := 2) dX6_less_43 (by decide) ?_
        refine Ev.iadd dX6_less_44 ?_
        refine Ev.mld (j := ((8 * k) + 2)) mq1 dX6_less_45 hZ (by first | assumption | (simp only [nI, Int32.ofNat_add, Int32.ofNat_mul]; done) | (simp only [nI, Int32.ofNat_add, Int32.ofNat_mul]; rfl) | rfl) (by omega) ?_
        (try simp only [ux_s, ux_n, ne_eq, Nat.reduceEqDiff, Nat.succ_ne_self, not_false_eq_true])
        refine Ev.ist4 dX6_less_46 rfl rfl ?_
        refine Ev.ald0 dX6_less_48 ?_
        refine Ev.mgr (kx := 1) dX6_less_49 fX6_13 hZ rfl ?_
        refine Ev.ild3 dX6_less_52 ?_
        refine Ev.iconst (v := 4) dX6_less_53 (by decide) ?_
        refine Ev.iadd dX6_less_54 ?_
        refine Ev.mld (j := ((8 * k) + 4)) mq1 dX6_less_55 hZ (by first | assumption | (simp only [nI, Int32.ofNat_add, Int32.ofNat_mul]; done) | (simp only [nI, Int32.ofNat_add, Int32.ofNat_mul]; rfl) | rfl) (by omega) ?_
        (try simp only [ux_s, ux_n, ne_eq, Nat.reduceEqDiff, Nat.succ_ne_self, not_false_eq_true])
        refine Ev.ist5 dX6_less_56 rfl rfl ?_
        refine Ev.ald0 dX6_less_58 ?_
        refine Ev.mgr (kx := 1) dX6_less_59 fX6_13 hZ rfl ?_
        refine Ev.ild3 dX6_less_62 ?_
        refine Ev.iconst (v := 5) dX6_less_63 (by decide) ?_
        refine Ev.iadd dX6_less_64 ?_
        refine Ev.mld (j := ((8 * k) + 5)) mq1 dX6_less_65 hZ (by first | assumption | (simp only [nI, Int32.ofNat_add, Int32.ofNat_mul]; done) | (simp only [nI, Int32.ofNat_add, Int32.ofNat_mul]; rfl) | rfl) (by omega) ?_
        (try simp only [ux_s, ux_n, ne_eq, Nat.reduceEqDiff, Nat.succ_ne_self, not_false_eq_true])
        refine Ev.ist6 dX6_less_66 rfl rfl ?_
        refine Ev.ald0 dX6_less_68 ?_
        refine Ev.cvI (Yc := mX6_restNow) (ci := 6) dX6_less_69 lX6_296 vX6_restNow rfl (m_restNow hZ hA (hB.mono (by omega))) ⟨_, hZ.2.1.1⟩ rfl rfl rfl rfl ?_
        rintro y69 M3 ⟨hy69, v3, X3, hZ, hK3⟩
        have x3 : X3 1 = X 1 := hK3.1 1 (by decide)
        refine Ev.ist7 dX6_less_72 rfl rfl ?_
        refine Ev.ald0 dX6_less_74 ?_
        refine Ev.ild1 dX6_less_75 ?_
        refine Ev.ild2 dX6_less_76 ?_
        refine Ev.cvV (Yc := mX6_lessens) (ci := 6) dX6_less_77 lX6_311 vX6_lessens rfl (m_lessens k rfl (by omega) hZ) ⟨_, hZ.2.1.1⟩ rfl rfl rfl rfl ?_
        rintro M2 hZ
        rw [x3] at hZ
        refine Ev.ald0 dX6_less_80 ?_
        refine Ev.mgr (kx := 1) dX6_less_81 fX6_13 hZ rfl ?_
        refine Ev.sipush (v := 329) dX6_less_84 (by decide) ?_
        refine Ev.mld (j := 329) mq1 dX6_less_87 hZ (by first | assumption | (simp only [nI, Int32.ofNat_add, Int32.ofNat_mul]; done) | (simp only [nI, Int32.ofNat_add, Int32.ofNat_mul]; rfl) | rfl) (by omega) ?_
        (try simp only [ux_s, ux_n, ne_eq, Nat.reduceEqDiff, Nat.succ_ne_self, not_false_eq_true])
        rw [low_n (by omega), e9]
        refine Ev.iconst (v := 1) dX6_less_88 (by decide) ?_
        refine Ev.icmp_ne (tgt := 105) dX6_less_89 (by decide) (fun c89 => ?_) (fun c89 => ?_)
        · refine Ev.iconst (v := 0) dX6_less_105 (by decide) ?_
          exact J 0 _ _ _ _ _ hch hqq (Or.inr ⟨rfl, fun z => c89 z.1⟩) hZ ((QT.rf.t.tr hK3.q).m) ux_s
        · refine Ev.ald0 dX6_less_92 ?_
          refine Ev.cvI (Yc := mX6_restNow) (ci := 6) dX6_less_93 lX6_296 vX6_restNow rfl (m_restNow hZ (by rw [ux_s]; exact hA.low hk hn) (hBl.mono (by omega))) ⟨_, hZ.2.1.1⟩ rfl rfl rfl rfl ?_
          rintro y93 M4 ⟨hy93, v4, X4, hZ, hK4⟩
          have x4 : X4 1 = low (X 1) k q := (hK4.1 1 (by decide)).trans ux_s
          refine Ev.ild7 dX6_less_96 ?_
          refine Ev.icmp_le (tgt := 105) dX6_less_98 (by decide) (fun c98 => ?_) (fun c98 => ?_)
          · refine Ev.iconst (v := 0) dX6_less_105 (by decide) ?_
            exact J 0 _ _ _ _ _ hch hqq (Or.inr ⟨rfl, fun z => absurd z.2 (Int32.not_lt.mpr (by rw [← hy69, ← hy93]; exact c98))⟩) hZ (((QT.rf.t.tr hK3.q).m).tr hK4.q) x4
          · refine Ev.iconst (v := 1) dX6_less_101 (by decide) ?_
            refine Ev.goto (tgt := 106) dX6_less_102 (by decide) ?_
            exact J 1 _ _ _ _ _ hch hqq (Or.inl ⟨rfl, c89, by rw [← hy69, ← hy93]; exact Int32.not_le.mp c98⟩) hZ (((QT.rf.t.tr hK3.q).m).tr hK4.q) x4
      · refine Ev.iconst (v := -1) dX6_less_31 (by decide) ?_
        refine Ev.iret dX6_less_32 rfl rfl ?_
        exact hno (fun z => v01_f hy25 c28 (by have := z.1.2; rw [hcl] at this; exact this)) hZ QT.rf.t hR.1
  · have hcn : ¬ cch S.1.1 o := cch_no hB (fun k hk q => absurd ⟨k, hk, q⟩ hc)
    refine Ct.of (ls := [some (.ref (a 0)), some (.int o), some (.int q), none, none, none, none, none, none]) (by decide) (by decide) rfl rfl rfl ?_
    refine Ev.ald0 dX6_less_0 ?_
    refine Ev.iconst (v := 0) dX6_less_1 (by decide) ?_
    refine Ev.mput (kx := 0) dX6_less_2 fX6_1 hZ rfl rfl (fun M hZ => ?_)
    refine Ev.ald0 dX6_less_5 ?_
    refine Ev.ild1 dX6_less_6 ?_
    refine Ev.cvI (Yc := mX6_canChange) (ci := 6) dX6_less_7 lX6_308 vX6_canChange rfl (m_canChange hZ hA hB) ⟨_, hZ.2.1.1⟩ rfl rfl rfl rfl ?_
    rintro y7 M9 ⟨rfl, hy7⟩
    have hy0 : y7 = 0 := (hy7.resolve_left (fun ⟨k, h1, h2, _⟩ => hc ⟨k, h1, h2⟩)).2
    refine Ev.if_eq (tgt := 31) dX6_less_10 (by decide) (fun c10 => ?_) (fun c10 => by first | exact absurd hy0 c10 | exact absurd c10 hy0)
    refine Ev.iconst (v := -1) dX6_less_31 (by decide) ?_
    refine Ev.iret dX6_less_32 rfl rfl ?_
    exact hno (fun z => hcn z.1.1) hZ QT.rf.t hR.1
end MMC
