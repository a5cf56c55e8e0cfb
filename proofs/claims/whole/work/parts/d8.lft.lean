/-! left -/
noncomputable def s2o (w : Nat → Int32) : Nat → Int32 := fun k => if (xC w (-1)).2.1 k = 0 then 0 else 2
/-- the book that is left -/
noncomputable def lfb (w : Nat → Int32) : Nat → Int32 := lvf w (xF w (-1)) (s2o w) (bn w)
theorem s2o_2 {w : Nat → Int32} {k : Nat} : s2o w k = 2 ↔ ¬ (xC w (-1)).2.1 k = 0 := by
  rw [s2o]
  by_cases c : (xC w (-1)).2.1 k = 0
  · rw [if_pos c]; exact ⟨fun z => absurd z (by decide), fun z => absurd c z⟩
  · rw [if_neg c]; exact ⟨fun _ => c, fun _ => rfl⟩
theorem lfb_hi {w : Nat → Int32} (hn : bn w ≤ 40) {j : Nat} (hj : 328 ≤ j) : lfb w j = w j := lvf_hi _ _ (by omega)
theorem lfb_bw {w : Nat → Int32} (hB : BW 40 w) : BW 40 (lfb w) := by
  have hn := hB.2.1
  have hO := hB.2.2.1
  refine hB.cg (fun j h1 _ _ => lfb_hi hn h1) (fun k hk => ?_)
  obtain ⟨y, q0, q9, y2, y3, y4⟩ := hO.rFq (ct := (xC w (-1)).1) (lo := blo w) (hi := bhi w) (by omega) hk
  have eF : xF w (-1) k = nI y := y4
  obtain ⟨s, kd, q, pr, sh, le, ow, g, e0, e1, e2, e3, e4, e5, e6, e7, b0, b1, b2, b3, b4, b5, b6, b7, b8, b9, b10, b11⟩ := hO k hk
  obtain ⟨a0, a1, a3, a6, aT, aF⟩ := lv2_at (f := w) (fl := xF w (-1)) (sa := s2o w) (k := k)
  have R : ∀ i, i < 8 → lfb w (8 * k + i) = lv2 w (xF w (-1)) (s2o w) k (8 * k + i) := fun i hi => lvf_row _ hk i hi
  rw [R 0 (by decide), R 1 (by decide), R 2 (by decide), R 3 (by decide), R 4 (by decide), R 5 (by decide), R 6 (by decide), R 7 (by decide), a0, a1, a3, a6]
  by_cases c : w (8 * k + 7) = 0
  · have g0 : g = 0 := by
      rw [e7] at c
      exact (nI_eq (b := 0) (by omega) (by omega)).mp c
    have hq : q0 = q := by
      rw [e2] at y2
      exact ((nI_eq (by omega) (by omega)).mp y2).symm
    subst hq
    obtain ⟨t2, t4, t5, t7⟩ := aT c
    have em : nI q0 - nI y = nI (q0 - y) := nI_subI y3
    rw [e2, eF, em] at t2 t4 t7
    rw [e4, mn_n (by omega) (by omega)] at t4
    rw [t2, t4, t5, t7, e1]
    by_cases d : s2o w k = 2 ∨ nI (q0 - y) = 0 ∨ nI kd = 0 ∨ nI kd = 4
    · rw [if_pos d]
      exact ⟨s, kd, q0 - y, pr, min sh (q0 - y), 0, ow, 1, e0, rfl, rfl, e3, rfl, rfl, e6, rfl, b0, b1, by omega, b3, b4, by omega, fun z => by have := b6 z; omega, by omega, b8, by omega, by omega, by omega⟩
    · rw [if_neg d]
      have hp : q0 - y ≠ 0 := fun z => d (Or.inr (Or.inl (by rw [z]; rfl)))
      exact ⟨s, kd, q0 - y, pr, min sh (q0 - y), 0, ow, 0, e0, rfl, rfl, e3, rfl, rfl, e6, rfl, b0, b1, by omega, b3, b4, by omega, fun z => by have := b6 z; omega, by omega, b8, by omega, by omega, fun z z3 => by have := b11 g0 z3; omega⟩
  · obtain ⟨t2, t4, t5, t7⟩ := aF c
    have g1 : g = 1 := by
      by_cases z : g = 0
      · exact absurd (by rw [e7, z]; rfl) c
      · omega
    subst g1
    rw [t2, t4, t5, t7]
    refine ⟨s, kd, q, pr, sh, le, ow, 1, e0, e1, e2, e3, e4, e5, e6, ?_, b0, b1, b2, b3, b4, b5, b6, b7, b8, b9, b10, b11⟩
    split
    · rfl
    · exact e7
/-- who still counts in what is left -/
theorem lfb_ct {w : Nat → Int32} (hB : BW 40 w) {k : Nat} (hk : k < bn w) : (ct0 (lfb w) (-1) k ≠ 0 → w (8 * k + 7) = 0 ∧ lfb w (8 * k + 5) = 0) ∧ (ct0 (lfb w) (-1) k ≠ 0 ↔ (0 ≤ xf w k ∧ w (8 * k + 1) ≠ 0 ∧ w (8 * k + 1) ≠ 4) ∧ ¬ w (8 * k + 2) - xf w k = 0) ∧ (ct0 (lfb w) (-1) k ≠ 0 → lfb w (8 * k + 2) = w (8 * k + 2) - xf w k) := by
  have hn := hB.2.1
  have hO := hB.2.2.1
  have hg := hO.g01 hk
  obtain ⟨y, q0, q9, y2, y3, y4⟩ := hO.rFq (ct := (xC w (-1)).1) (lo := blo w) (hi := bhi w) (by omega) hk
  have eF : xF w (-1) k = nI y := y4
  obtain ⟨a0, a1, a3, a6, aT, aF⟩ := lv2_at (f := w) (fl := xF w (-1)) (sa := s2o w) (k := k)
  have R : ∀ i, i < 8 → lfb w (8 * k + i) = lv2 w (xF w (-1)) (s2o w) k (8 * k + i) := fun i hi => lvf_row _ hk i hi
  have hc : ct0 (lfb w) (-1) k ≠ 0 ↔ ¬ lfb w (8 * k + 7) = 1 := by
    rw [ct0]
    by_cases z : lfb w (8 * k + 7) = 1
    · rw [if_pos (Or.inl z)]
      exact ⟨fun w => absurd rfl w, fun w => absurd z w⟩
    · rw [if_neg (fun w => w.elim z (nI_n1 (by omega)))]
      exact ⟨fun _ => z, fun _ => by decide⟩
  rw [hc, R 7 (by decide), R 5 (by decide), R 2 (by decide)]
  by_cases c : w (8 * k + 7) = 0
  · obtain ⟨t2, t4, t5, t7⟩ := aT c
    have n1 : ¬ w (8 * k + 7) = 1 := by rw [c]; decide
    rw [t7, t5, t2]
    by_cases o : (xC w (-1)).2.1 k = 0
    · have ex : xf w k = xF w (-1) k := by rw [xf, if_neg n1, if_pos o]
      have ns : ¬ s2o w k = 2 := fun z => s2o_2.mp z o
      rw [ex]
      have p0 : (0 : Int32) ≤ xF w (-1) k := by rw [eF]; exact nI_pos' (by omega)
      refine ⟨fun _ => ⟨c, rfl⟩, ?_, fun _ => rfl⟩
      by_cases d : w (8 * k + 2) - xF w (-1) k = 0 ∨ w (8 * k + 1) = 0 ∨ w (8 * k + 1) = 4
      · rw [if_pos (Or.inr d)]
        refine ⟨fun z => absurd rfl z, fun ⟨⟨_, z1, z2⟩, z3⟩ => ?_⟩
        rcases d with d | d | d
        · exact absurd d z3
        · exact absurd d z1
        · exact absurd d z2
      · rw [if_neg (fun z => z.elim ns d)]
        exact ⟨fun _ => ⟨⟨p0, fun z => d (Or.inr (Or.inl z)), fun z => d (Or.inr (Or.inr z))⟩, fun z => d (Or.inl z)⟩, fun _ => by decide⟩
    · have ex : xf w k = -2 := by rw [xf, if_neg n1, if_neg o]
      rw [ex, if_pos (Or.inl (s2o_2.mpr o))]
      exact ⟨fun z => absurd rfl z, ⟨fun z => absurd rfl z, fun z => absurd z.1.1 (by decide)⟩, fun z => absurd rfl z⟩
  · obtain ⟨t2, t4, t5, t7⟩ := aF c
    have e1 : w (8 * k + 7) = 1 := Classical.not_not.mp (fun z => c (hg.mp z))
    have ex : xf w k = -1 := by rw [xf, if_pos e1]
    have e7 : lv2 w (xF w (-1)) (s2o w) k (8 * k + 7) = 1 := by
      rw [t7]
      split
      · rfl
      · exact e1
    rw [ex, e7]
    exact ⟨fun z => absurd rfl z, ⟨fun z => absurd rfl z, fun z => absurd z.1.1 (by decide)⟩, fun z => absurd rfl z⟩
theorem ct0_z {m : Nat → Int32} {x : Int32} {k : Nat} (h : ct0 m x k ≠ 0) : ¬ m (8 * k + 7) = 1 ∧ ¬ nI k = x := by
  rw [ct0] at h
  refine ⟨fun z => h (by rw [if_pos (Or.inl z)]), fun z => h (by rw [if_pos (Or.inr z)])⟩
theorem unh_no {m ct fl : Nat → Int32} : ∀ i, (∀ k, k < i → ct k ≠ 0 → m (8 * k + 5) = 0) → unh m ct fl i = -1
  | 0, _ => rfl
  | i + 1, h => by
    rw [unh, if_neg, unh_no i (fun k hk => h k (by omega))]
    rintro ⟨z1, z2, z3⟩
    rw [h i (by omega) z1] at z3
    exact Int32.lt_irrefl (Int32.lt_trans z2 z3)
theorem xC_no {b : Nat → Int32} {x : Int32} (h : ∀ k, k < bn b → ct0 b x k ≠ 0 → b (8 * k + 5) = 0) : xC b x = (ct0 b x, (fun _ => 0), 1) := by
  rw [xC, crs_s, if_pos]
  rw [unh_no _ h]
  decide
theorem lfb_sum {w : Nat → Int32} (hB : BW 40 w) {p : Int32} : ∀ i, i ≤ bn w → bs4 (lfb w) (ct0 (lfb w) (-1)) (qt (lfb w)) p i = (lfo w 0 p i, lfo w 1 p i, 0, 0)
  | 0, _ => rfl
  | i + 1, hi => by
    have hk : i < bn w := by omega
    obtain ⟨-, h2, h3⟩ := lfb_ct hB hk
    obtain ⟨a0, a1, a3, -⟩ := lv2_at (f := w) (fl := xF w (-1)) (sa := s2o w) (k := i)
    have R : ∀ j, j < 8 → lfb w (8 * i + j) = lv2 w (xF w (-1)) (s2o w) i (8 * i + j) := fun j hj => lvf_row _ hk j hj
    have s01 := hB.2.2.1.sd hk
    rw [bs4, lfo, lfo, lfb_sum hB i (by omega), R 0 (by decide), R 1 (by decide), R 3 (by decide), a0, a1, a3]
    by_cases c : ct0 (lfb w) (-1) i ≠ 0
    · have hq := h3 c
      obtain ⟨⟨c1, c2, c3⟩, c4⟩ := h2.mp c
      have eq : qt (lfb w) i = w (8 * i + 2) - xf w i := hq
      rw [eq]
      rcases s01 with s0 | s0
      · have n1 : ¬ lfc w 1 p i := fun z => by
          have := z.1.2.2.2
          rw [s0] at this
          exact absurd this (by decide)
        rw [if_neg n1]
        by_cases cp : p ≤ w (8 * i + 3)
        · rw [if_pos ⟨c, Or.inr (Or.inl ⟨s0, cp⟩)⟩, if_pos ⟨⟨c1, c2, c3, s0⟩, Or.inl ⟨rfl, cp⟩⟩, ad4, if_pos s0, if_neg c3, if_neg c3, Int32.add_zero, Int32.add_zero]
        · rw [if_neg (fun z => by
            rcases z.2 with z | z | z
            · exact c2 z
            · exact cp z.2
            · exact z.1 s0), if_neg (fun z => by
            rcases z.2 with z | z
            · exact cp z.2
            · exact z.1 rfl), Int32.add_zero, Int32.add_zero]
      · have ns0 : ¬ w (8 * i + 0) = 0 := by rw [s0]; decide
        have n1 : ¬ lfc w 0 p i := fun z => ns0 z.1.2.2.2
        rw [if_neg n1]
        by_cases cp : w (8 * i + 3) ≤ p
        · rw [if_pos ⟨c, Or.inr (Or.inr ⟨ns0, cp⟩)⟩, if_pos ⟨⟨c1, c2, c3, s0⟩, Or.inr ⟨by decide, cp⟩⟩, ad4, if_neg ns0, if_neg c3, if_neg c3, Int32.add_zero, Int32.add_zero]
        · rw [if_neg (fun z => by
            rcases z.2 with z | z | z
            · exact c2 z
            · exact ns0 z.1
            · exact cp z.2), if_neg (fun z => by
            rcases z.2 with z | z
            · exact absurd z.1 (by decide)
            · exact cp z.2), Int32.add_zero, Int32.add_zero]
    · rw [if_neg (fun z => c z.1)]
      have key : ∀ sd, (if lfc w sd p i then w (8 * i + 2) - xf w i else 0) = 0 := by
        intro sd
        by_cases z : lfc w sd p i
        · rw [if_pos z]
          exact Classical.not_not.mp (fun y => c (h2.mpr ⟨⟨z.1.1, z.1.2.1, z.1.2.2.1⟩, y⟩))
        · rw [if_neg z]
      rw [key 0, key 1, Int32.add_zero, Int32.add_zero]
theorem lmx_mxv {w : Nat → Int32} {n lo : Nat} {V : Nat → Int32} (h : ∀ p, V p = mn (lfo w 0 (nI p) n) (lfo w 1 (nI p) n)) : ∀ d, mxv V lo d = lmx w n lo d
  | 0 => rfl
  | d + 1 => by rw [mxv, lmx, lmx_mxv h d, h]
theorem left_sp {w : Nat → Int32} (hB : BW 40 w) : xV (lfb w) (-1) = lmx w (bn w) (blo w) (bhi w + 1 - blo w) := by
  have hn := hB.2.1
  have hL := lfb_bw hB
  have e8 : bn (lfb w) = bn w := by rw [bn, bn, lfb_hi hn (by decide)]
  have el : blo (lfb w) = blo w := by rw [blo, blo, lfb_hi hn (by decide)]
  have eh : bhi (lfb w) = bhi w := by rw [bhi, bhi, lfb_hi hn (by decide)]
  have hO := hL.2.2.1
  rw [e8] at hO
  have hB9 := hB
  obtain ⟨-, -, -, -, -, b1, b2, b3, r, r1, r2, r0⟩ := hB9
  have hC : (xC (lfb w) (-1)).1 = ct0 (lfb w) (-1) := by
    rw [xC_no]
    intro k hk z
    rw [e8] at hk
    exact ((lfb_ct hB hk).1 z).2
  rw [xV, hC, e8, el, eh, rV_mx (r := r) hO (by omega) (by rw [lfb_hi hn (by decide)]; exact r0) (by omega) b1 b2 b3 (fun k hk z => by
    have := (ct0_z z).1
    exact (hO.g01 hk).mp this)]
  refine lmx_mxv (fun p => ?_) _
  have hs := lfb_sum hB (p := nI p) (bn w) (Nat.le_refl _)
  have hN := hO.num (ct := ct0 (lfb w) (-1)) (p := nI p)
  have u1 := hO.sums (ct := ct0 (lfb w) (-1)) (p := nI p) (by omega) 0 0
  have u2 := hO.sums (ct := ct0 (lfb w) (-1)) (p := nI p) (by omega) 1 0
  have u3 := hO.sums (ct := ct0 (lfb w) (-1)) (p := nI p) (by omega) 0 1
  have u4 := hO.sums (ct := ct0 (lfb w) (-1)) (p := nI p) (by omega) 1 1
  rw [hN] at hs
  rw [hN]
  generalize sN (wt (lfb w) (ct0 (lfb w) (-1)) (qt (lfb w)) (nI p) 0 0) (bn w) = B at *
  generalize sN (wt (lfb w) (ct0 (lfb w) (-1)) (qt (lfb w)) (nI p) 1 0) (bn w) = S at *
  generalize sN (wt (lfb w) (ct0 (lfb w) (-1)) (qt (lfb w)) (nI p) 0 1) (bn w) = EB at *
  generalize sN (wt (lfb w) (ct0 (lfb w) (-1)) (qt (lfb w)) (nI p) 1 1) (bn w) = ES at *
  obtain ⟨v1, v2, v3, v4⟩ : nI B = lfo w 0 (nI p) (bn w) ∧ nI S = lfo w 1 (nI p) (bn w) ∧ nI EB = 0 ∧ nI ES = 0 := by
    have q1 := congrArg (fun t : T4 => t.1) hs
    have q2 := congrArg (fun t : T4 => t.2.1) hs
    have q3 := congrArg (fun t : T4 => t.2.2.1) hs
    have q4 := congrArg (fun t : T4 => t.2.2.2) hs
    exact ⟨q1, q2, q3, q4⟩
  have x3 : EB = 0 := (nI_eq (b := 0) (by omega) (by omega)).mp v3
  have x4 : ES = 0 := (nI_eq (b := 0) (by omega) (by omega)).mp v4
  rw [vof_n u1 u2 u3 u4, ← v1, ← v2, mn_n (by omega) (by omega), voN, hpN, x3, x4, Nat.zero_min, Nat.zero_min]
  congr 1
  split <;> omega
section LFT
variable {G : GP} {M : Wd} {q : Nat → Nat} {na : Nat} {S : Sg}
set_option maxRecDepth 20000 in
theorem k_left (hC : CR q na S M) (hS : Sok S) : CtI G mX5_left [.ref (q 0)] M 0 0 (fun x M' => x = an_left S ∧ KR q S M M') := by
  have hC0 := hC
  obtain ⟨⟨hj, hna⟩, h0, -⟩ := hC
  obtain ⟨cb1, cb2, cb3, cb4, cb5⟩ := hS.1.cb
  have hn := hS.1.1.2.1
  have hn2 := cb1.2.1
  refine Ct.of (ls := [some (.ref (q 0))]) (by decide) (by decide) rfl rfl rfl ?_
  refine Ev.ald0 dX5_left_0 ?_
  refine Ev.cvV (Yc := mX5_runCross) (ci := 5) dX5_left_1 lX5_112 vX5_runCross rfl (k_runCross hC0 hS) ?_ rfl rfl rfl rfl ?_
  · apply Exists.intro; repeat (first | assumption | (refine gt_upI ?_; (repeat (first | exact In_of (gt_nw (by assumption)) | (apply In_of; assumption) | refine In_up ?_ | refine In_nw ?_)); done) | refine gt_rd (by first | assumption | (apply Ne.symm; assumption) | (exact hj _ _ (by omega) (by omega) (by omega)) | omega) ?_ | exact gt_nw (by assumption) | refine gt_odr (by first | assumption | (apply Ne.symm; assumption) | omega) ?_)
  rintro M1 ⟨hF, hC1, hX⟩
  have k0 := hC1.2.1
  obtain ⟨f1, g1, k40, k41, k42, kf, kw⟩ := hC1.2.2.2.2.2.1
  obtain ⟨n9, p9, r9, lo9, hi9, f9, g9, d43, d44, d45⟩ := hC1.2.2.2.2.2.2
  obtain ⟨f2, sa, g2, fl, z, i4, i3, x13, x11, x12, x17, xr, z1, z2, ar, hg, hfl, hou, -⟩ := hX.get
  refine Ev.ald0 dX5_left_4 ?_
  apply Ev.getf dX5_left_5 fX5_23
  · repeat (first | assumption | (refine gt_upI ?_; (repeat (first | exact In_of (gt_nw (by assumption)) | (apply In_of; assumption) | refine In_up ?_ | refine In_nw ?_)); done) | refine gt_rd (by first | assumption | (apply Ne.symm; assumption) | (exact hj _ _ (by omega) (by omega) (by omega)) | omega) ?_ | exact gt_nw (by assumption) | refine gt_odr (by first | assumption | (apply Ne.symm; assumption) | omega) ?_)
  · first | rfl | assumption
  refine Ev.ald0 dX5_left_8 ?_
  apply Ev.getf dX5_left_9 fX5_19
  · repeat (first | assumption | (refine gt_upI ?_; (repeat (first | exact In_of (gt_nw (by assumption)) | (apply In_of; assumption) | refine In_up ?_ | refine In_nw ?_)); done) | refine gt_rd (by first | assumption | (apply Ne.symm; assumption) | (exact hj _ _ (by omega) (by omega) (by omega)) | omega) ?_ | exact gt_nw (by assumption) | refine gt_odr (by first | assumption | (apply Ne.symm; assumption) | omega) ?_)
  · first | rfl | assumption
  refine Ev.cvV (Yc := mX2_become) (ci := 2) dX5_left_12 lX5_83 vX2_become rfl (k_become hC1 hS) ?_ rfl rfl rfl rfl ?_
  · apply Exists.intro; repeat (first | assumption | (refine gt_upI ?_; (repeat (first | exact In_of (gt_nw (by assumption)) | (apply In_of; assumption) | refine In_up ?_ | refine In_nw ?_)); done) | refine gt_rd (by first | assumption | (apply Ne.symm; assumption) | (exact hj _ _ (by omega) (by omega) (by omega)) | omega) ?_ | exact gt_nw (by assumption) | refine gt_odr (by first | assumption | (apply Ne.symm; assumption) | omega) ?_)
  rintro M2 ⟨f', hf', rfl⟩
  generalize hXX : up (up M1 (q 43) _) (q 44) _ = X
  have y43 : gt X (q 43) = some (bk (q 44) (q 45) (bn S.1.1) (S.1.1 329) (S.1.1 330) (S.1.1 331) (S.1.1 332)) := by rw [← hXX]; exact (by repeat (first | assumption | (refine gt_upI ?_; (repeat (first | exact In_of (gt_nw (by assumption)) | (apply In_of; assumption) | refine In_up ?_ | refine In_nw ?_)); done) | refine gt_rd (by first | assumption | (apply Ne.symm; assumption) | (exact hj _ _ (by omega) (by omega) (by omega)) | omega) ?_ | exact gt_nw (by assumption) | refine gt_odr (by first | assumption | (apply Ne.symm; assumption) | omega) ?_))
  have y44 : gt X (q 44) = some (ia 0 328 f') := by rw [← hXX]; exact (by repeat (first | assumption | (refine gt_upI ?_; (repeat (first | exact In_of (gt_nw (by assumption)) | (apply In_of; assumption) | refine In_up ?_ | refine In_nw ?_)); done) | refine gt_rd (by first | assumption | (apply Ne.symm; assumption) | (exact hj _ _ (by omega) (by omega) (by omega)) | omega) ?_ | exact gt_nw (by assumption) | refine gt_odr (by first | assumption | (apply Ne.symm; assumption) | omega) ?_))
  have y45 : gt X (q 45) = some (ia 0 320 g9) := by rw [← hXX]; exact (by repeat (first | assumption | (refine gt_upI ?_; (repeat (first | exact In_of (gt_nw (by assumption)) | (apply In_of; assumption) | refine In_up ?_ | refine In_nw ?_)); done) | refine gt_rd (by first | assumption | (apply Ne.symm; assumption) | (exact hj _ _ (by omega) (by omega) (by omega)) | omega) ?_ | exact gt_nw (by assumption) | refine gt_odr (by first | assumption | (apply Ne.symm; assumption) | omega) ?_))
  have hFX : Fr ([43, 44, 45].map q) M1 X := by rw [← hXX]; exact (Fr.rf.pt (by simp)).pt (by simp)
  have N : ∀ i, i < 82 → i ∉ [43, 44, 45] → q i ∉ [43, 44, 45].map q := fun i h1 h2 => ninQ hj h1 (by decide) h2
  have l0 := (hC1.dr hFX ⟨_, _, _, _, _, _, _, y43, y44, y45⟩).2.1
  have y13 := hFX.rd (N 13 (by decide) (by decide)) x13
  have y12 := hFX.rd (N 12 (by decide) (by decide)) x12
  have y17 := hFX.rd (N 17 (by decide) (by decide)) x17
  have yr : gt X (if S.1.1 329 = 2 then q 42 else q 41) = some (ia 0 z f2) := by
    refine hFX.rd ?_ xr
    split
    · exact N 42 (by decide) (by decide)
    · exact N 41 (by decide) (by decide)
  refine Ev.ald0 dX5_left_15 ?_
  apply Ev.getf dX5_left_16 fX5_23
  · repeat (first | assumption | (refine gt_upI ?_; (repeat (first | exact In_of (gt_nw (by assumption)) | (apply In_of; assumption) | refine In_up ?_ | refine In_nw ?_)); done) | refine gt_rd (by first | assumption | (apply Ne.symm; assumption) | (exact hj _ _ (by omega) (by omega) (by omega)) | omega) ?_ | exact gt_nw (by assumption) | refine gt_odr (by first | assumption | (apply Ne.symm; assumption) | omega) ?_)
  · first | rfl | assumption
  refine Ev.ald0 dX5_left_19 ?_
  apply Ev.getf dX5_left_20 fX5_31
  · repeat (first | assumption | (refine gt_upI ?_; (repeat (first | exact In_of (gt_nw (by assumption)) | (apply In_of; assumption) | refine In_up ?_ | refine In_nw ?_)); done) | refine gt_rd (by first | assumption | (apply Ne.symm; assumption) | (exact hj _ _ (by omega) (by omega) (by omega)) | omega) ?_ | exact gt_nw (by assumption) | refine gt_odr (by first | assumption | (apply Ne.symm; assumption) | omega) ?_)
  · first | rfl | assumption
  refine Ev.cvV (Yc := mX2_leaveOf) (ci := 2) dX5_left_23 lX5_273 vX2_leaveOf rfl (c_leaveOf (rr := if S.1.1 329 = 2 then q 42 else q 41) (hf := q 12) (hs := q 17) y43 y44 y13 rfl rfl rfl yr (by omega) z2 y12 y17 hn (hj _ _ (by decide) (by decide) (by decide)) (hj _ _ (by decide) (by decide) (by decide)) (hj _ _ (by decide) (by decide) (by decide)) (hj _ _ (by decide) (by decide) (by decide))) ?_ rfl rfl rfl rfl ?_
  · apply Exists.intro; repeat (first | assumption | (refine gt_upI ?_; (repeat (first | exact In_of (gt_nw (by assumption)) | (apply In_of; assumption) | refine In_up ?_ | refine In_nw ?_)); done) | refine gt_rd (by first | assumption | (apply Ne.symm; assumption) | (exact hj _ _ (by omega) (by omega) (by omega)) | omega) ?_ | exact gt_nw (by assumption) | refine gt_odr (by first | assumption | (apply Ne.symm; assumption) | omega) ?_)
  rintro M3 rfl
  generalize hYY : up X (q 44) _ = Y
  have w43 : gt Y (q 43) = some (bk (q 44) (q 45) (bn S.1.1) (S.1.1 329) (S.1.1 330) (S.1.1 331) (S.1.1 332)) := by rw [← hYY]; exact (by repeat (first | assumption | (refine gt_upI ?_; (repeat (first | exact In_of (gt_nw (by assumption)) | (apply In_of; assumption) | refine In_up ?_ | refine In_nw ?_)); done) | refine gt_rd (by first | assumption | (apply Ne.symm; assumption) | (exact hj _ _ (by omega) (by omega) (by omega)) | omega) ?_ | exact gt_nw (by assumption) | refine gt_odr (by first | assumption | (apply Ne.symm; assumption) | omega) ?_))
  have w44 : gt Y (q 44) = some (ia 0 328 (lvf (va_cpy f2 f' 0 0 (8 * bn S.1.1)) fl sa (bn S.1.1))) := by rw [← hYY]; exact (by repeat (first | assumption | (refine gt_upI ?_; (repeat (first | exact In_of (gt_nw (by assumption)) | (apply In_of; assumption) | refine In_up ?_ | refine In_nw ?_)); done) | refine gt_rd (by first | assumption | (apply Ne.symm; assumption) | (exact hj _ _ (by omega) (by omega) (by omega)) | omega) ?_ | exact gt_nw (by assumption) | refine gt_odr (by first | assumption | (apply Ne.symm; assumption) | omega) ?_))
  have w45 : gt Y (q 45) = some (ia 0 320 g9) := by rw [← hYY]; exact (by repeat (first | assumption | (refine gt_upI ?_; (repeat (first | exact In_of (gt_nw (by assumption)) | (apply In_of; assumption) | refine In_up ?_ | refine In_nw ?_)); done) | refine gt_rd (by first | assumption | (apply Ne.symm; assumption) | (exact hj _ _ (by omega) (by omega) (by omega)) | omega) ?_ | exact gt_nw (by assumption) | refine gt_odr (by first | assumption | (apply Ne.symm; assumption) | omega) ?_))
  have hFY : Fr ([43, 44, 45].map q) M1 Y := by rw [← hYY]; exact hFX.pt (by simp)
  have hCY := hC1.dr hFY ⟨_, _, _, _, _, _, _, w43, w44, w45⟩
  have m0 := hCY.2.1
  have hAY := hCY.2.2.2.2.1
  obtain ⟨fsy, w13⟩ := hAY.ob
  have w13' : gt Y (q 13) = some (ob 0 fsy) := w13
  have e8 : bn (lfb (bas S)) = bn S.1.1 := by rw [← cb2, bn, bn, lfb_hi hn2 (by decide)]
  have w43' : gt Y (q 43) = some (bk (q 44) (q 45) (bn (lfb (bas S))) (S.1.1 329) (lfb (bas S) 330) (lfb (bas S) 331) (lfb (bas S) 332)) := by rw [e8, lfb_hi hn2 (by decide), lfb_hi hn2 (by decide), lfb_hi hn2 (by decide), cb3, cb4, cb5]; exact w43
  have hAr : Ar (bn (lfb (bas S))) (lvf (va_cpy f2 f' 0 0 (8 * bn S.1.1)) fl sa (bn S.1.1)) (lfb (bas S)) := by
    rw [e8, ← cb2]
    exact lvf_cm ar.cpy hfl (fun k hk => by
      rw [s2o_2]
      have := hou k hk
      exact ⟨fun z w => (this.mp w) z, fun z => Classical.not_not.mp (fun w => z (this.mpr w))⟩)
  refine Ev.ald0 dX5_left_26 ?_
  apply Ev.getf dX5_left_27 fX5_31
  · repeat (first | assumption | (refine gt_upI ?_; (repeat (first | exact In_of (gt_nw (by assumption)) | (apply In_of; assumption) | refine In_up ?_ | refine In_nw ?_)); done) | refine gt_rd (by first | assumption | (apply Ne.symm; assumption) | (exact hj _ _ (by omega) (by omega) (by omega)) | omega) ?_ | exact gt_nw (by assumption) | refine gt_odr (by first | assumption | (apply Ne.symm; assumption) | omega) ?_)
  · first | rfl | assumption
  refine Ev.ald0 dX5_left_30 ?_
  apply Ev.getf dX5_left_31 fX5_23
  · repeat (first | assumption | (refine gt_upI ?_; (repeat (first | exact In_of (gt_nw (by assumption)) | (apply In_of; assumption) | refine In_up ?_ | refine In_nw ?_)); done) | refine gt_rd (by first | assumption | (apply Ne.symm; assumption) | (exact hj _ _ (by omega) (by omega) (by omega)) | omega) ?_ | exact gt_nw (by assumption) | refine gt_odr (by first | assumption | (apply Ne.symm; assumption) | omega) ?_)
  · first | rfl | assumption
  refine Ev.ald0 dX5_left_34 ?_
  apply Ev.getf dX5_left_35 fX5_23
  · repeat (first | assumption | (refine gt_upI ?_; (repeat (first | exact In_of (gt_nw (by assumption)) | (apply In_of; assumption) | refine In_up ?_ | refine In_nw ?_)); done) | refine gt_rd (by first | assumption | (apply Ne.symm; assumption) | (exact hj _ _ (by omega) (by omega) (by omega)) | omega) ?_ | exact gt_nw (by assumption) | refine gt_odr (by first | assumption | (apply Ne.symm; assumption) | omega) ?_)
  · first | rfl | assumption
  apply Ev.getr dX5_left_38 fX5_212
  · repeat (first | assumption | (refine gt_upI ?_; (repeat (first | exact In_of (gt_nw (by assumption)) | (apply In_of; assumption) | refine In_up ?_ | refine In_nw ?_)); done) | refine gt_rd (by first | assumption | (apply Ne.symm; assumption) | (exact hj _ _ (by omega) (by omega) (by omega)) | omega) ?_ | exact gt_nw (by assumption) | refine gt_odr (by first | assumption | (apply Ne.symm; assumption) | omega) ?_)
  · first | rfl | assumption
  refine Ev.cvV (Yc := mX0_hold) (ci := 0) dX5_left_41 lX5_215 vX0_hold rfl (k_hr (rr := q 44) (b := lfb (bas S)) (hj.ad (by decide) (by decide) (by decide) (by decide) (by decide)) ((lfb_bw cb1).mono (by decide)) w43' w44 (by omega) (by omega) hAr hAY) ?_ rfl rfl rfl rfl ?_
  · apply Exists.intro; repeat (first | assumption | (refine gt_upI ?_; (repeat (first | exact In_of (gt_nw (by assumption)) | (apply In_of; assumption) | refine In_up ?_ | refine In_nw ?_)); done) | refine gt_rd (by first | assumption | (apply Ne.symm; assumption) | (exact hj _ _ (by omega) (by omega) (by omega)) | omega) ?_ | exact gt_nw (by assumption) | refine gt_odr (by first | assumption | (apply Ne.symm; assumption) | omega) ?_)
  rintro M4 ⟨hF4, hA4, hrun⟩
  have hC4 := hCY.au hF4 hA4
  have n0 := hC4.2.1
  obtain ⟨fs4, n13⟩ := hA4.ob
  have n13' : gt M4 (q 13) = some (ob 0 fs4) := n13
  refine Ev.ald0 dX5_left_44 ?_
  apply Ev.getf dX5_left_45 fX5_31
  · repeat (first | assumption | (refine gt_upI ?_; (repeat (first | exact In_of (gt_nw (by assumption)) | (apply In_of; assumption) | refine In_up ?_ | refine In_nw ?_)); done) | refine gt_rd (by first | assumption | (apply Ne.symm; assumption) | (exact hj _ _ (by omega) (by omega) (by omega)) | omega) ?_ | exact gt_nw (by assumption) | refine gt_odr (by first | assumption | (apply Ne.symm; assumption) | omega) ?_)
  · first | rfl | assumption
  refine Ev.iconst (v := -1) dX5_left_48 (by decide) ?_
  refine Ev.cvV (Yc := mX0_run) (ci := 0) dX5_left_49 lX5_241 vX0_run rfl (hrun (-1)) ?_ rfl rfl rfl rfl ?_
  · apply Exists.intro; repeat (first | assumption | (refine gt_upI ?_; (repeat (first | exact In_of (gt_nw (by assumption)) | (apply In_of; assumption) | refine In_up ?_ | refine In_nw ?_)); done) | refine gt_rd (by first | assumption | (apply Ne.symm; assumption) | (exact hj _ _ (by omega) (by omega) (by omega)) | omega) ?_ | exact gt_nw (by assumption) | refine gt_odr (by first | assumption | (apply Ne.symm; assumption) | omega) ?_)
  rintro M5 ⟨hF5, hA5, hX5⟩
  have hC5 := hCY.au hF5 hA5
  have o0 := hC5.2.1
  obtain ⟨g5, j1, j2, j3, j4, o13, o11, -, e1, -⟩ := hX5.pr
  have o11' : gt M5 (AD (aq q) (q 43) (q 44) 1) = some (cc g5) := o11
  refine Ev.ald0 dX5_left_52 ?_
  apply Ev.getf dX5_left_53 fX5_31
  · repeat (first | assumption | (refine gt_upI ?_; (repeat (first | exact In_of (gt_nw (by assumption)) | (apply In_of; assumption) | refine In_up ?_ | refine In_nw ?_)); done) | refine gt_rd (by first | assumption | (apply Ne.symm; assumption) | (exact hj _ _ (by omega) (by omega) (by omega)) | omega) ?_ | exact gt_nw (by assumption) | refine gt_odr (by first | assumption | (apply Ne.symm; assumption) | omega) ?_)
  · first | rfl | assumption
  apply Ev.getr dX5_left_56 fX5_128
  · repeat (first | assumption | (refine gt_upI ?_; (repeat (first | exact In_of (gt_nw (by assumption)) | (apply In_of; assumption) | refine In_up ?_ | refine In_nw ?_)); done) | refine gt_rd (by first | assumption | (apply Ne.symm; assumption) | (exact hj _ _ (by omega) (by omega) (by omega)) | omega) ?_ | exact gt_nw (by assumption) | refine gt_odr (by first | assumption | (apply Ne.symm; assumption) | omega) ?_)
  · first | rfl | assumption
  apply Ev.getf dX5_left_59 fX5_132
  · repeat (first | assumption | (refine gt_upI ?_; (repeat (first | exact In_of (gt_nw (by assumption)) | (apply In_of; assumption) | refine In_up ?_ | refine In_nw ?_)); done) | refine gt_rd (by first | assumption | (apply Ne.symm; assumption) | (exact hj _ _ (by omega) (by omega) (by omega)) | omega) ?_ | exact gt_nw (by assumption) | refine gt_odr (by first | assumption | (apply Ne.symm; assumption) | omega) ?_)
  · first | rfl | assumption
  refine Ev.iret dX5_left_62 rfl rfl ?_
  refine ⟨_, rfl, ?_, q, na, hC5, SQ.rf, ((Fr.q (js := afj) hF (by decide)).tr (hFY.q (by decide))).tr (Fr.q (js := afj) hF5 (by decide))⟩
  rw [e1, left_sp cb1, an_left, cb2]
  rw [show blo (bas S) = blo S.1.1 by rw [blo, blo, cb4], show bhi (bas S) = bhi S.1.1 by rw [bhi, bhi, cb5]]
end LFT
