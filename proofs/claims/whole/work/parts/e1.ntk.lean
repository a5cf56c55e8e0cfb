/-! notice -/
def zq (f : Nat → Int32) : Nat → Int32 := fun j => if (j < 328 ∧ j % 8 = 2) ∧ f (j - 1) = 2 then 1 else f j
theorem zq_2 {f : Nat → Int32} {k : Nat} (hk : k < 41) : zq f (8 * k + 2) = if f (8 * k + 1) = 2 then 1 else f (8 * k + 2) := by
  rw [zq, show 8 * k + 2 - 1 = 8 * k + 1 by omega]
  by_cases c : f (8 * k + 1) = 2
  · rw [if_pos ⟨⟨by omega, by omega⟩, c⟩, if_pos c]
  · rw [if_neg (fun z => c z.2), if_neg c]
theorem zq_o {f : Nat → Int32} {j : Nat} (h : 328 ≤ j ∨ j % 8 ≠ 2) : zq f j = f j := by rw [zq, if_neg (fun z => by omega)]
theorem ksh_o {f : Nat → Int32} : ∀ i j, (8 * i ≤ j ∨ (j % 8 ≠ 2 ∧ j % 8 ≠ 5)) → ksh f i j = f j
  | 0, _, _ => rfl
  | i + 1, j, h => by rw [ksh, pk_un (by omega), pk_un (by omega), ksh_o i j (by omega)]
theorem shw_cg {f g : Nat → Int32} {k : Nat} (h1 : f (8 * k + 1) = g (8 * k + 1)) (h4 : f (8 * k + 4) = g (8 * k + 4)) (h2 : f (8 * k + 2) = g (8 * k + 2)) : shw f k = shw g k := by rw [shw, shw, h1, h4, h2]
theorem ksh_at {f : Nat → Int32} {k : Nat} : ∀ i, k < i → ksh f i (8 * k + 2) = shw f k ∧ ksh f i (8 * k + 5) = 0
  | 0, h => absurd h (by omega)
  | i + 1, h => by
    rw [ksh]
    by_cases e : k = i
    · subst e
      rw [pk_us, pk_un (show 8 * k + 5 ≠ 8 * k + 2 by omega), pk_us]
      refine ⟨shw_cg ?_ ?_ ?_, rfl⟩
      · rw [pk_un (by omega), ksh_o k _ (Or.inl (by omega))]
      · rw [pk_un (by omega), ksh_o k _ (Or.inl (by omega))]
      · rw [pk_un (by omega), ksh_o k _ (Or.inl (by omega))]
    · rw [pk_un (show 8 * k + 2 ≠ 8 * i + 2 by omega), pk_un (show 8 * k + 5 ≠ 8 * i + 2 by omega), pk_un (show 8 * k + 2 ≠ 8 * i + 5 by omega), pk_un (show 8 * k + 5 ≠ 8 * i + 5 by omega)]
      exact ksh_at i (by omega)
theorem ksh_cm {f g : Nat → Int32} {n : Nat} (h : Ar n f g) : Ar n (ksh f n) (ksh g n) := by
  intro j hj
  have e : j = 8 * (j / 8) + j % 8 := by omega
  have k1 : j / 8 < n := by omega
  by_cases c2 : j % 8 = 2
  · rw [e, c2, (ksh_at n k1).1, (ksh_at n k1).1]
    exact shw_cg (h.at k1 (by decide)) (h.at k1 (by decide)) (h.at k1 (by decide))
  · by_cases c5 : j % 8 = 5
    · rw [e, c5, (ksh_at n k1).2, (ksh_at n k1).2]
    · rw [ksh_o n j (Or.inr ⟨c2, c5⟩), ksh_o n j (Or.inr ⟨c2, c5⟩)]
      exact h j hj
theorem zq_cm {f g : Nat → Int32} {n : Nat} (hn : n ≤ 41) (h : Ar n f g) : Ar n (zq f) (zq g) := by
  intro j hj
  have e : j = 8 * (j / 8) + j % 8 := by omega
  have k1 : j / 8 < n := by omega
  by_cases c2 : j % 8 = 2
  · rw [e, c2, zq_2 (by omega), zq_2 (by omega), h.at k1 (by decide), h.at k1 (by decide)]
  · rw [zq_o (Or.inr c2), zq_o (Or.inr c2)]
    exact h j hj
/-- the book as it is shown -/
noncomputable def shb (b : Nat → Int32) : Nat → Int32 := zq (ksh b (bn b))
theorem shb_hi {b : Nat → Int32} {j : Nat} (hn : bn b ≤ 40) (hj : 328 ≤ j) : shb b j = b j := by rw [shb, zq_o (Or.inl hj), ksh_o _ _ (Or.inl (by omega))]
theorem shb_row {b : Nat → Int32} {k : Nat} (hn : bn b ≤ 40) (hk : k < bn b) : (∀ i, i < 8 → i ≠ 2 → i ≠ 5 → shb b (8 * k + i) = b (8 * k + i)) ∧ shb b (8 * k + 5) = 0 ∧ shb b (8 * k + 2) = (if b (8 * k + 1) = 2 then 1 else shw b k) := by
  refine ⟨fun i hi h2 h5 => ?_, ?_, ?_⟩
  · rw [shb, zq_o (Or.inr (by omega)), ksh_o _ _ (Or.inr ⟨by omega, by omega⟩)]
  · rw [shb, zq_o (Or.inr (by omega)), (ksh_at _ hk).2]
  · rw [shb, zq_2 (by omega), (ksh_at _ hk).1, ksh_o _ _ (Or.inr ⟨by omega, by omega⟩)]
theorem shb_bw {b : Nat → Int32} (hB : BW 40 b) : BW 40 (shb b) := by
  have hn := hB.2.1
  have hO := hB.2.2.1
  refine hB.cg (fun j h1 h2 h3 => shb_hi hn h1) (fun k hk => ?_)
  obtain ⟨s, kd, q, pr, sh, le, ow, g, e0, e1, e2, e3, e4, e5, e6, e7, b0, b1, b2, b3, b4, b5, b6, b7, b8, b9, b10, b11⟩ := hO k hk
  obtain ⟨R, R5, R2⟩ := shb_row hn hk
  rw [R 0 (by decide) (by decide) (by decide), R 1 (by decide) (by decide) (by decide), R2, R 3 (by decide) (by decide) (by decide), R 4 (by decide) (by decide) (by decide), R5, R 6 (by decide) (by decide) (by decide), R 7 (by decide) (by decide) (by decide), shw, e1, e2, e4]
  have k2 : nI kd = 2 ↔ kd = 2 := nI_eq (b := 2) (by omega) (by omega)
  have k3 : nI kd = 3 ↔ kd = 3 := nI_eq (b := 3) (by omega) (by omega)
  by_cases c2 : kd = 2
  · rw [if_pos (k2.mpr c2)]
    exact ⟨s, kd, 1, pr, sh, 0, ow, g, e0, rfl, rfl, e3, rfl, rfl, e6, e7, b0, b1, by omega, b3, b4, by have := b6 (by omega); omega, b6, by omega, b8, b9, fun _ => Nat.le_refl _, b11⟩
  · rw [if_neg (fun z => c2 (k2.mp z)), if_neg (fun z => c2 (k2.mp z))]
    by_cases c3 : kd = 3
    · rw [if_pos (k3.mpr c3)]
      exact ⟨s, kd, sh, pr, sh, 0, ow, g, e0, rfl, rfl, e3, rfl, rfl, e6, e7, b0, b1, by omega, b3, b4, Nat.le_refl _, b6, by omega, b8, b9, fun z => b11 z c3, b11⟩
    · rw [if_neg (fun z => c3 (k3.mp z))]
      exact ⟨s, kd, q, pr, sh, 0, ow, g, e0, rfl, rfl, e3, rfl, rfl, e6, e7, b0, b1, b2, b3, b4, b5, b6, by omega, b8, b9, b10, b11⟩
/-- sums of the book as shown -/
theorem shb_bs4 {b ct : Nat → Int32} {p : Int32} (hn : bn b ≤ 40) (hct : ∀ k, k < bn b → (ct k ≠ 0 ↔ nct b k ≠ 0)) : ∀ i, i ≤ bn b → bs4 (shb b) ct (qt (shb b)) p i = bs4 b (nct b) (nmy b) p i
  | 0, _ => rfl
  | i + 1, hi => by
    have hk : i < bn b := by omega
    obtain ⟨R, R5, R2⟩ := shb_row hn hk
    rw [bs4, bs4, shb_bs4 hn hct i (by omega), R 0 (by decide) (by decide) (by decide), R 1 (by decide) (by decide) (by decide), R 3 (by decide) (by decide) (by decide)]
    by_cases c : nct b i ≠ 0
    · have n2 : ¬ b (8 * i + 1) = 2 := fun z => c (by rw [nct, if_pos (Or.inr z)])
      have eq : qt (shb b) i = nmy b i := by
        rw [qt, R2, if_neg n2, shw, nmy, if_neg n2]
      have hc := (hct i hk).mpr c
      rw [eq]
      by_cases w : b (8 * i + 1) = 0 ∨ (b (8 * i + 0) = 0 ∧ p ≤ b (8 * i + 3) ∨ b (8 * i + 0) ≠ 0 ∧ b (8 * i + 3) ≤ p)
      · rw [if_pos ⟨hc, w⟩, if_pos ⟨c, w⟩]
      · rw [if_neg (fun z => w z.2), if_neg (fun z => w z.2)]
    · rw [if_neg (fun z => c ((hct i hk).mp z.1)), if_neg (fun z => c z.1)]
theorem shb_rP {b ct : Nat → Int32} (hn : bn b ≤ 40) (hct : ∀ k, k < bn b → (ct k ≠ 0 ↔ nct b k ≠ 0)) : rP (shb b) ct (qt (shb b)) (bn b) (blo b) (bhi b) = rP b (nct b) (nmy b) (bn b) (blo b) (bhi b) ∧ rV (shb b) ct (qt (shb b)) (bn b) (blo b) (bhi b) = rV b (nct b) (nmy b) (bn b) (blo b) (bhi b) ∧ rR (shb b) ct (qt (shb b)) (bn b) (blo b) (bhi b) = rR b (nct b) (nmy b) (bn b) (blo b) (bhi b) := by
  have e : rP (shb b) ct (qt (shb b)) (bn b) (blo b) (bhi b) = rP b (nct b) (nmy b) (bn b) (blo b) (bhi b) := by
    rw [rP, rP]
    have e0 : shb b 330 = b 330 := shb_hi hn (by decide)
    rw [e0]
    exact fp3_cg (fun p _ _ => by rw [shb_bs4 hn hct _ (Nat.le_refl _)]; exact ⟨rfl, rfl⟩)
  refine ⟨e, ?_, ?_⟩
  · rw [rV, rV, e]
    split
    · rfl
    · rw [shb_bs4 hn hct _ (Nat.le_refl _)]
  · rw [rR, rR, e]
    split
    · rfl
    · rw [shb_bs4 hn hct _ (Nat.le_refl _)]
section NTE
variable {G : GP} {M : Wd} {q : Nat → Nat} {na : Nat} {S : Sg}
set_option maxRecDepth 20000 in
theorem e_notice {k : Int32} (hC : CR q na S M) (hS : Sok S) : Ev G mX5_notice 0 [some (.ref (q 0)), some (.int k)] [] M 1 6 (QX ((0 ≤ k ∧ k ≤ 3) ∨ k = 6) (an_notice S k) q S M) := by
  have hC0 := hC
  obtain ⟨⟨hj, hna⟩, h0, h1, h2, hA, ⟨f, g, g40, g41, g42, gf, gw⟩, n, ph, rf, lo, hi, f2, g2, d43, d44, d45⟩ := hC
  have hn := hS.1.1.2.1
  have hO := hS.1.1.2.2.1
  have yes : ((0 ≤ k ∧ k ≤ 3) ∨ k = 6) → Ev G mX5_notice 25 [some (.ref (q 0)), some (.int k)] [] M 1 6 (QX ((0 ≤ k ∧ k ≤ 3) ∨ k = 6) (an_notice S k) q S M) := by
    intro ok
    refine Ev.ald0 dX5_notice_25 ?_
    apply Ev.getf dX5_notice_26 fX5_23
    · repeat (first | assumption | (refine gt_upI ?_; (repeat (first | exact In_of (gt_nw (by assumption)) | (apply In_of; assumption) | refine In_up ?_ | refine In_nw ?_)); done) | refine gt_rd (by first | assumption | (apply Ne.symm; assumption) | (exact hj _ _ (by omega) (by omega) (by omega)) | omega) ?_ | exact gt_nw (by assumption) | refine gt_odr (by first | assumption | (apply Ne.symm; assumption) | omega) ?_)
    · first | rfl | assumption
    refine Ev.ald0 dX5_notice_29 ?_
    apply Ev.getf dX5_notice_30 fX5_19
    · repeat (first | assumption | (refine gt_upI ?_; (repeat (first | exact In_of (gt_nw (by assumption)) | (apply In_of; assumption) | refine In_up ?_ | refine In_nw ?_)); done) | refine gt_rd (by first | assumption | (apply Ne.symm; assumption) | (exact hj _ _ (by omega) (by omega) (by omega)) | omega) ?_ | exact gt_nw (by assumption) | refine gt_odr (by first | assumption | (apply Ne.symm; assumption) | omega) ?_)
    · first | rfl | assumption
    refine Ev.cvV (Yc := mX2_become) (ci := 2) dX5_notice_33 lX5_83 vX2_become rfl (k_become hC0 hS) ?_ rfl rfl rfl rfl ?_
    · apply Exists.intro; repeat (first | assumption | (refine gt_upI ?_; (repeat (first | exact In_of (gt_nw (by assumption)) | (apply In_of; assumption) | refine In_up ?_ | refine In_nw ?_)); done) | refine gt_rd (by first | assumption | (apply Ne.symm; assumption) | (exact hj _ _ (by omega) (by omega) (by omega)) | omega) ?_ | exact gt_nw (by assumption) | refine gt_odr (by first | assumption | (apply Ne.symm; assumption) | omega) ?_)
    rintro M1 ⟨f', hf', rfl⟩
    generalize hXX : up (up M (q 43) _) (q 44) _ = X
    have x43 : gt X (q 43) = some (bk (q 44) (q 45) (bn S.1.1) (S.1.1 329) (S.1.1 330) (S.1.1 331) (S.1.1 332)) := by rw [← hXX]; exact (by repeat (first | assumption | (refine gt_upI ?_; (repeat (first | exact In_of (gt_nw (by assumption)) | (apply In_of; assumption) | refine In_up ?_ | refine In_nw ?_)); done) | refine gt_rd (by first | assumption | (apply Ne.symm; assumption) | (exact hj _ _ (by omega) (by omega) (by omega)) | omega) ?_ | exact gt_nw (by assumption) | refine gt_odr (by first | assumption | (apply Ne.symm; assumption) | omega) ?_))
    have x44 : gt X (q 44) = some (ia 0 328 f') := by rw [← hXX]; exact (by repeat (first | assumption | (refine gt_upI ?_; (repeat (first | exact In_of (gt_nw (by assumption)) | (apply In_of; assumption) | refine In_up ?_ | refine In_nw ?_)); done) | refine gt_rd (by first | assumption | (apply Ne.symm; assumption) | (exact hj _ _ (by omega) (by omega) (by omega)) | omega) ?_ | exact gt_nw (by assumption) | refine gt_odr (by first | assumption | (apply Ne.symm; assumption) | omega) ?_))
    have x45 : gt X (q 45) = some (ia 0 320 g2) := by rw [← hXX]; exact (by repeat (first | assumption | (refine gt_upI ?_; (repeat (first | exact In_of (gt_nw (by assumption)) | (apply In_of; assumption) | refine In_up ?_ | refine In_nw ?_)); done) | refine gt_rd (by first | assumption | (apply Ne.symm; assumption) | (exact hj _ _ (by omega) (by omega) (by omega)) | omega) ?_ | exact gt_nw (by assumption) | refine gt_odr (by first | assumption | (apply Ne.symm; assumption) | omega) ?_))
    have hFX : Fr ([43, 44, 45].map q) M X := by rw [← hXX]; exact (Fr.rf.pt (by simp)).pt (by simp)
    have k0 := (hC0.dr hFX ⟨_, _, _, _, _, _, _, x43, x44, x45⟩).2.1
    refine Ev.ald0 dX5_notice_36 ?_
    apply Ev.getf dX5_notice_37 fX5_23
    · repeat (first | assumption | (refine gt_upI ?_; (repeat (first | exact In_of (gt_nw (by assumption)) | (apply In_of; assumption) | refine In_up ?_ | refine In_nw ?_)); done) | refine gt_rd (by first | assumption | (apply Ne.symm; assumption) | (exact hj _ _ (by omega) (by omega) (by omega)) | omega) ?_ | exact gt_nw (by assumption) | refine gt_odr (by first | assumption | (apply Ne.symm; assumption) | omega) ?_)
    · first | rfl | assumption
    refine Ev.cvV (Yc := mX2_keepShown) (ci := 2) dX5_notice_40 lX5_238 vX2_keepShown rfl (c_keepShown x43 x44 (by omega) (hj _ _ (by decide) (by decide) (by decide))) ?_ rfl rfl rfl rfl ?_
    · apply Exists.intro; repeat (first | assumption | (refine gt_upI ?_; (repeat (first | exact In_of (gt_nw (by assumption)) | (apply In_of; assumption) | refine In_up ?_ | refine In_nw ?_)); done) | refine gt_rd (by first | assumption | (apply Ne.symm; assumption) | (exact hj _ _ (by omega) (by omega) (by omega)) | omega) ?_ | exact gt_nw (by assumption) | refine gt_odr (by first | assumption | (apply Ne.symm; assumption) | omega) ?_)
    rintro M2 rfl
    generalize hYY : up X (q 44) _ = Y
    have y43 : gt Y (q 43) = some (bk (q 44) (q 45) (bn S.1.1) (S.1.1 329) (S.1.1 330) (S.1.1 331) (S.1.1 332)) := by rw [← hYY]; exact (by repeat (first | assumption | (refine gt_upI ?_; (repeat (first | exact In_of (gt_nw (by assumption)) | (apply In_of; assumption) | refine In_up ?_ | refine In_nw ?_)); done) | refine gt_rd (by first | assumption | (apply Ne.symm; assumption) | (exact hj _ _ (by omega) (by omega) (by omega)) | omega) ?_ | exact gt_nw (by assumption) | refine gt_odr (by first | assumption | (apply Ne.symm; assumption) | omega) ?_))
    have y44 : gt Y (q 44) = some (ia 0 328 (ksh f' (bn S.1.1))) := by rw [← hYY]; exact (by repeat (first | assumption | (refine gt_upI ?_; (repeat (first | exact In_of (gt_nw (by assumption)) | (apply In_of; assumption) | refine In_up ?_ | refine In_nw ?_)); done) | refine gt_rd (by first | assumption | (apply Ne.symm; assumption) | (exact hj _ _ (by omega) (by omega) (by omega)) | omega) ?_ | exact gt_nw (by assumption) | refine gt_odr (by first | assumption | (apply Ne.symm; assumption) | omega) ?_))
    have y45 : gt Y (q 45) = some (ia 0 320 g2) := by rw [← hYY]; exact (by repeat (first | assumption | (refine gt_upI ?_; (repeat (first | exact In_of (gt_nw (by assumption)) | (apply In_of; assumption) | refine In_up ?_ | refine In_nw ?_)); done) | refine gt_rd (by first | assumption | (apply Ne.symm; assumption) | (exact hj _ _ (by omega) (by omega) (by omega)) | omega) ?_ | exact gt_nw (by assumption) | refine gt_odr (by first | assumption | (apply Ne.symm; assumption) | omega) ?_))
    have hFY : Fr ([43, 44, 45].map q) M Y := by rw [← hYY]; exact hFX.pt (by simp)
    have hCY := hC0.dr hFY ⟨_, _, _, _, _, _, _, y43, y44, y45⟩
    have l0 := hCY.2.1
    have hAY := hCY.2.2.2.2.1
    obtain ⟨fsy, y13⟩ := hAY.ob
    have y13' : gt Y (q 13) = some (ob 0 fsy) := y13
    have e8 : bn (shb S.1.1) = bn S.1.1 := by rw [bn, bn, shb_hi hn (by decide)]
    have y43' : gt Y (q 43) = some (bk (q 44) (q 45) (bn (shb S.1.1)) (S.1.1 329) (shb S.1.1 330) (shb S.1.1 331) (shb S.1.1 332)) := by rw [e8, shb_hi hn (by decide), shb_hi hn (by decide), shb_hi hn (by decide)]; exact y43
    have hk7 : ∀ k, k < bn S.1.1 → ∀ i, i < 8 → i ≠ 2 → i ≠ 5 → ksh f' (bn S.1.1) (8 * k + i) = S.1.1 (8 * k + i) := fun k hk i hi h2 h5 => by
      rw [ksh_o _ _ (Or.inr ⟨by omega, by omega⟩)]
      exact hf'.at hk hi
    have hNZ : NZ (ksh f' (bn S.1.1)) (zq (ksh f' (bn S.1.1))) (bn (shb S.1.1)) := by
      rw [e8]
      refine ⟨fun k hk i hi h2 => (zq_o (Or.inr (by omega))).symm, fun k hk => ?_⟩
      rw [zq_2 (by omega)]
      by_cases c : ksh f' (bn S.1.1) (8 * k + 1) = 2
      · refine Or.inl ⟨c, ?_⟩
        rw [(ksh_at _ hk).1, shw, if_pos]
        rw [ksh_o _ _ (Or.inr ⟨by omega, by omega⟩)] at c
        exact c
      · rw [if_neg c]
        exact Or.inr ⟨c, rfl⟩
    have hAr : Ar (bn (shb S.1.1)) (zq (ksh f' (bn S.1.1))) (shb S.1.1) := by
      rw [e8]
      exact zq_cm (by omega) (ksh_cm hf')
    refine Ev.ald0 dX5_notice_43 ?_
    apply Ev.getf dX5_notice_44 fX5_31
    · repeat (first | assumption | (refine gt_upI ?_; (repeat (first | exact In_of (gt_nw (by assumption)) | (apply In_of; assumption) | refine In_up ?_ | refine In_nw ?_)); done) | refine gt_rd (by first | assumption | (apply Ne.symm; assumption) | (exact hj _ _ (by omega) (by omega) (by omega)) | omega) ?_ | exact gt_nw (by assumption) | refine gt_odr (by first | assumption | (apply Ne.symm; assumption) | omega) ?_)
    · first | rfl | assumption
    refine Ev.ald0 dX5_notice_47 ?_
    apply Ev.getf dX5_notice_48 fX5_23
    · repeat (first | assumption | (refine gt_upI ?_; (repeat (first | exact In_of (gt_nw (by assumption)) | (apply In_of; assumption) | refine In_up ?_ | refine In_nw ?_)); done) | refine gt_rd (by first | assumption | (apply Ne.symm; assumption) | (exact hj _ _ (by omega) (by omega) (by omega)) | omega) ?_ | exact gt_nw (by assumption) | refine gt_odr (by first | assumption | (apply Ne.symm; assumption) | omega) ?_)
    · first | rfl | assumption
    refine Ev.ald0 dX5_notice_51 ?_
    apply Ev.getf dX5_notice_52 fX5_23
    · repeat (first | assumption | (refine gt_upI ?_; (repeat (first | exact In_of (gt_nw (by assumption)) | (apply In_of; assumption) | refine In_up ?_ | refine In_nw ?_)); done) | refine gt_rd (by first | assumption | (apply Ne.symm; assumption) | (exact hj _ _ (by omega) (by omega) (by omega)) | omega) ?_ | exact gt_nw (by assumption) | refine gt_odr (by first | assumption | (apply Ne.symm; assumption) | omega) ?_)
    · first | rfl | assumption
    apply Ev.getr dX5_notice_55 fX5_212
    · repeat (first | assumption | (refine gt_upI ?_; (repeat (first | exact In_of (gt_nw (by assumption)) | (apply In_of; assumption) | refine In_up ?_ | refine In_nw ?_)); done) | refine gt_rd (by first | assumption | (apply Ne.symm; assumption) | (exact hj _ _ (by omega) (by omega) (by omega)) | omega) ?_ | exact gt_nw (by assumption) | refine gt_odr (by first | assumption | (apply Ne.symm; assumption) | omega) ?_)
    · first | rfl | assumption
    refine Ev.cvV (Yc := mX0_hold) (ci := 0) dX5_notice_58 lX5_215 vX0_hold rfl (k_hrN (rr := q 44) (b := shb S.1.1) (hj.ad (by decide) (by decide) (by decide) (by decide) (by decide)) ((shb_bw hS.1.1).mono (by decide)) y43' y44 (by omega) (by omega) hNZ hAr (fun k hk => by rw [e8] at hk; exact (ksh_at _ hk).2) hAY) ?_ rfl rfl rfl rfl ?_
    · apply Exists.intro; repeat (first | assumption | (refine gt_upI ?_; (repeat (first | exact In_of (gt_nw (by assumption)) | (apply In_of; assumption) | refine In_up ?_ | refine In_nw ?_)); done) | refine gt_rd (by first | assumption | (apply Ne.symm; assumption) | (exact hj _ _ (by omega) (by omega) (by omega)) | omega) ?_ | exact gt_nw (by assumption) | refine gt_odr (by first | assumption | (apply Ne.symm; assumption) | omega) ?_)
    rintro M3 ⟨hF3, hA3, hrun⟩
    have hC3 := hCY.au hF3 hA3
    have m0 := hC3.2.1
    obtain ⟨fs3, m13⟩ := hA3.ob
    have m13' : gt M3 (q 13) = some (ob 0 fs3) := m13
    refine Ev.ald0 dX5_notice_61 ?_
    apply Ev.getf dX5_notice_62 fX5_31
    · repeat (first | assumption | (refine gt_upI ?_; (repeat (first | exact In_of (gt_nw (by assumption)) | (apply In_of; assumption) | refine In_up ?_ | refine In_nw ?_)); done) | refine gt_rd (by first | assumption | (apply Ne.symm; assumption) | (exact hj _ _ (by omega) (by omega) (by omega)) | omega) ?_ | exact gt_nw (by assumption) | refine gt_odr (by first | assumption | (apply Ne.symm; assumption) | omega) ?_)
    · first | rfl | assumption
    refine Ev.iconst (v := -1) dX5_notice_65 (by decide) ?_
    refine Ev.cvV (Yc := mX0_run) (ci := 0) dX5_notice_66 lX5_241 vX0_run rfl hrun ?_ rfl rfl rfl rfl ?_
    · apply Exists.intro; repeat (first | assumption | (refine gt_upI ?_; (repeat (first | exact In_of (gt_nw (by assumption)) | (apply In_of; assumption) | refine In_up ?_ | refine In_nw ?_)); done) | refine gt_rd (by first | assumption | (apply Ne.symm; assumption) | (exact hj _ _ (by omega) (by omega) (by omega)) | omega) ?_ | exact gt_nw (by assumption) | refine gt_odr (by first | assumption | (apply Ne.symm; assumption) | omega) ?_)
    rintro M4 ⟨hF4, hA4, g4, j1, j2, j3, j4, z13, z11, hPR⟩
    have hC4 := hCY.au hF4 hA4
    have n0 := hC4.2.1
    have z11' : gt M4 (AD (aq q) (q 43) (q 44) 1) = some (cc g4) := z11
    have hKR : KR q S M M4 := ⟨q, na, hC4, SQ.rf, (hFY.q (by decide)).tr (Fr.q (js := afj) hF4 (by decide))⟩
    have hct : ∀ k, k < bn S.1.1 → (nzc (ksh f' (bn S.1.1)) k ≠ 0 ↔ nct S.1.1 k ≠ 0) := by
      intro k hk
      have hg := hO.g01 hk
      rw [nzc, nct, hk7 k hk 7 (by decide) (by decide) (by decide), hk7 k hk 1 (by decide) (by decide) (by decide)]
      by_cases c : S.1.1 (8 * k + 7) = 1 ∨ S.1.1 (8 * k + 1) = 2
      · rw [if_pos c, if_pos (c.imp (fun z => by rw [z]; decide) id)]
      · rw [if_neg c, if_neg (fun z => c (z.imp (fun w => Classical.not_not.mp (fun u => w (hg.mp u))) id))]
    obtain ⟨s1, s2, s3⟩ := shb_rP hn hct
    obtain ⟨a0, a1, a2, a3, a4, a5⟩ := hPR
    rw [e8, show blo (shb S.1.1) = blo S.1.1 by rw [blo, blo, shb_hi hn (by decide)], show bhi (shb S.1.1) = bhi S.1.1 by rw [bhi, bhi, shb_hi hn (by decide)], s1] at a0 a3 a4 a5
    rw [e8, show blo (shb S.1.1) = blo S.1.1 by rw [blo, blo, shb_hi hn (by decide)], show bhi (shb S.1.1) = bhi S.1.1 by rw [bhi, bhi, shb_hi hn (by decide)], s2] at a1
    rw [e8, show blo (shb S.1.1) = blo S.1.1 by rw [blo, blo, shb_hi hn (by decide)], show bhi (shb S.1.1) = bhi S.1.1 by rw [bhi, bhi, shb_hi hn (by decide)], s3] at a2
    have key : (if k = 0 then g4 0 else if k = 1 then g4 1 else if k = 2 then g4 2 else if k = 3 then g4 3 else g4 4) = an_notice S k := by
      have k36 : ∀ j : Int32, (0 ≤ j ∧ j ≤ 3) → j = 0 ∨ j = 1 ∨ j = 2 ∨ j = 3 := by
        intro j hj
        obtain ⟨a, ha, rfl⟩ : ∃ a, a ≤ 3 ∧ j = nI a := int_le (c := 3) (by omega) hj.1 hj.2
        have : a = 0 ∨ a = 1 ∨ a = 2 ∨ a = 3 := by omega
        rcases this with rfl | rfl | rfl | rfl
        · exact Or.inl rfl
        · exact Or.inr (Or.inl rfl)
        · exact Or.inr (Or.inr (Or.inl rfl))
        · exact Or.inr (Or.inr (Or.inr rfl))
      rw [an_notice, a0, a1, a2, a3, a4, rV, rR]
      rcases ok with ok | ok
      · rcases k36 k ok with rfl | rfl | rfl | rfl
        · rw [if_pos rfl, if_pos rfl]
        · rw [if_neg (show ¬ (1 : Int32) = 0 by decide), if_pos rfl, if_neg (show ¬ (1 : Int32) = 0 by decide), if_neg (show ¬ (1 : Int32) = 6 by decide), if_pos (show (1 : Int32) = 1 from rfl)]
        · rw [if_neg (show ¬ (2 : Int32) = 0 by decide), if_neg (show ¬ (2 : Int32) = 1 by decide), if_pos rfl, if_neg (show ¬ (2 : Int32) = 0 by decide), if_neg (show ¬ (2 : Int32) = 6 by decide), if_neg (show ¬ (2 : Int32) = 1 by decide), if_pos (show (2 : Int32) = 2 from rfl)]
        · rw [if_neg (show ¬ (3 : Int32) = 0 by decide), if_neg (show ¬ (3 : Int32) = 1 by decide), if_neg (show ¬ (3 : Int32) = 2 by decide), if_pos rfl, if_neg (show ¬ (3 : Int32) = 0 by decide), if_neg (show ¬ (3 : Int32) = 6 by decide), if_neg (show ¬ (3 : Int32) = 1 by decide), if_neg (show ¬ (3 : Int32) = 2 by decide)]
          by_cases c : (rP S.1.1 (nct S.1.1) (nmy S.1.1) (bn S.1.1) (blo S.1.1) (bhi S.1.1)).1 < 0
          · rw [if_pos c]
            exact (a5 c).2
          · rw [if_neg c]
      · rw [ok, if_neg (show ¬ (6 : Int32) = 0 by decide), if_neg (show ¬ (6 : Int32) = 1 by decide), if_neg (show ¬ (6 : Int32) = 2 by decide), if_neg (show ¬ (6 : Int32) = 3 by decide), if_neg (show ¬ (6 : Int32) = 0 by decide), if_pos rfl]
    refine Ev.ald0 dX5_notice_69 ?_
    apply Ev.getf dX5_notice_70 fX5_31
    · repeat (first | assumption | (refine gt_upI ?_; (repeat (first | exact In_of (gt_nw (by assumption)) | (apply In_of; assumption) | refine In_up ?_ | refine In_nw ?_)); done) | refine gt_rd (by first | assumption | (apply Ne.symm; assumption) | (exact hj _ _ (by omega) (by omega) (by omega)) | omega) ?_ | exact gt_nw (by assumption) | refine gt_odr (by first | assumption | (apply Ne.symm; assumption) | omega) ?_)
    · first | rfl | assumption
    apply Ev.getr dX5_notice_73 fX5_128
    · repeat (first | assumption | (refine gt_upI ?_; (repeat (first | exact In_of (gt_nw (by assumption)) | (apply In_of; assumption) | refine In_up ?_ | refine In_nw ?_)); done) | refine gt_rd (by first | assumption | (apply Ne.symm; assumption) | (exact hj _ _ (by omega) (by omega) (by omega)) | omega) ?_ | exact gt_nw (by assumption) | refine gt_odr (by first | assumption | (apply Ne.symm; assumption) | omega) ?_)
    · first | rfl | assumption
    refine Ev.ild1 dX5_notice_76 ?_
    refine Ev.cvI (Yc := mX3_tell) (ci := 3) dX5_notice_77 lX5_199 vX3_tell rfl (c_tell z11') ?_ rfl rfl rfl rfl ?_
    · apply Exists.intro; repeat (first | assumption | (refine gt_upI ?_; (repeat (first | exact In_of (gt_nw (by assumption)) | (apply In_of; assumption) | refine In_up ?_ | refine In_nw ?_)); done) | refine gt_rd (by first | assumption | (apply Ne.symm; assumption) | (exact hj _ _ (by omega) (by omega) (by omega)) | omega) ?_ | exact gt_nw (by assumption) | refine gt_odr (by first | assumption | (apply Ne.symm; assumption) | omega) ?_)
    rintro y2 M5 ⟨hy2, rfl⟩
    refine Ev.iret dX5_notice_80 rfl rfl ?_
    rw [hy2, key]
    exact ⟨Or.inl ⟨ok, rfl⟩, hKR⟩
  refine Ev.ild1 dX5_notice_0 ?_
  refine Ev.iconst (v := 0) dX5_notice_1 (by decide) ?_
  refine Ev.iconst (v := 3) dX5_notice_2 (by decide) ?_
  refine Ev.csI (Yc := mX5_within) dX5_notice_3 lX5_76 vX5_within rfl k_within rfl rfl rfl ?_
  rintro y M' ⟨hy, rfl⟩
  refine Ev.if_ne (tgt := 25) dX5_notice_6 (by decide) (fun c6 => ?_) (fun c6 => ?_)
  · exact yes (Or.inl (if1_t hy c6))
  · refine Ev.ild1 dX5_notice_9 ?_
    refine Ev.bipush (v := 6) dX5_notice_10 (by decide) ?_
    refine Ev.icmp_eq (tgt := 25) dX5_notice_12 (by decide) (fun c12 => ?_) (fun c12 => ?_)
    · exact yes (Or.inr c12)
    · exact Ev.thr (by decide) (by decide) (by decide) ⟨Or.inr ⟨fun z => z.elim (if1_f hy c6) c12, rfl⟩, q, na, hC0, SQ.rf, Fr.rf⟩
end NTE
