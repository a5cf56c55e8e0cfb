/-! rows that agree have one cross -/
/-- two rows of n orders say the same -/
def Ar (n : Nat) (f g : Nat → Int32) : Prop := ∀ j, j < 8 * n → f j = g j
theorem Ar.sy {n : Nat} {f g : Nat → Int32} (h : Ar n f g) : Ar n g f := fun j hj => (h j hj).symm
theorem Ar.tr {n : Nat} {f g k : Nat → Int32} (h : Ar n f g) (h2 : Ar n g k) : Ar n f k := fun j hj => (h j hj).trans (h2 j hj)
theorem Ar.at {n : Nat} {f g : Nat → Int32} (h : Ar n f g) {k i : Nat} (hk : k < n) (hi : i < 8) : f (8 * k + i) = g (8 * k + i) := h _ (by omega)
section MDF
variable {n lo hi : Nat} {m m' ct ct' my my' : Nat → Int32} {sd p : Int32}
theorem bs4_cm (h : Ar n m m') : ∀ i, i ≤ n → (∀ k, k < i → ct k = ct' k) → (∀ k, k < i → my k = my' k) → bs4 m ct my p i = bs4 m' ct' my' p i
  | 0, _, _, _ => rfl
  | i + 1, hi, hc, hm => by
    rw [bs4, bs4, bs4_cm h i (by omega) (fun k hk => hc k (by omega)) (fun k hk => hm k (by omega)), hc i (by omega), hm i (by omega), h.at (k := i) (i := 0) (by omega) (by omega), h.at (k := i) (i := 1) (by omega) (by omega), h.at (k := i) (i := 3) (by omega) (by omega)]
theorem ptf_cm (h : Ar n m m') {k : Nat} (hk : k < n) (hm : my k = my' k) {t : Int32} : ptf m my k t = ptf m' my' k t := by
  rw [ptf, ptf, h.at (i := 1) hk (by omega), h.at (i := 4) hk (by omega), hm]
theorem rkf_cm (h : Ar n m m') {k : Nat} (hk : k < n) {t : Int32} : rkf m k t = rkf m' k t := by
  rw [rkf, rkf, h.at (i := 0) hk (by omega), h.at (i := 1) hk (by omega), h.at (i := 3) hk (by omega)]
theorem val_cm (h : Ar n m m') {k : Nat} (hk : k < n) (hc : ct k = ct' k) (hm : my k = my' k) {t : Int32} : val m ct my sd p k t ↔ val m' ct' my' sd p k t := by
  rw [val, val, wl, wl, ptf_cm h hk hm, hc, h.at (i := 0) hk (by omega), h.at (i := 1) hk (by omega), h.at (i := 3) hk (by omega)]
theorem SLs.cm (h : Ar n m m') (hc : ∀ k, k < n → ct k = ct' k) (hm : ∀ k, k < n → my k = my' k) {l : List (Nat × Nat)} (hl : SLs m ct my sd p n l) : SLs m' ct' my' sd p n l := by
  refine ⟨fun q hq => ?_, fun o t ho ht hv => hl.2.1 o t ho ht ((val_cm h ho (hc _ ho) (hm _ ho)).mpr hv), ?_⟩
  · obtain ⟨a1, a2, a3⟩ := hl.1 q hq
    exact ⟨a1, a2, (val_cm h a1 (hc _ a1) (hm _ a1)).mp a3⟩
  · refine hl.2.2.imp_of_mem ?_
    intro q r hq hr hlt
    rw [← rkf_cm h (hl.1 q hq).1, ← rkf_cm h (hl.1 r hr).1]
    exact hlt
theorem slc_cm (h : Ar n m m') (hc : ∀ k, k < n → ct k = ct' k) (hm : ∀ k, k < n → my k = my' k) : slc m ct my sd p n = slc m' ct' my' sd p n := by
  by_cases he : ∃ l, SLs m ct my sd p n l
  · obtain ⟨l, hl⟩ := he
    rw [slc_eq hl, slc_eq (hl.cm h hc hm)]
  · have he2 : ¬ ∃ l, SLs m' ct' my' sd p n l := fun ⟨l, hl⟩ => he ⟨l, hl.cm h.sy (fun k hk => (hc k hk).symm) (fun k hk => (hm k hk).symm)⟩
    rw [slc, slc, dif_neg he, dif_neg he2]
theorem slc_lt {l : List (Nat × Nat)} (hl : slc m ct my sd p n = l) : ∀ q ∈ l, q.1 < n ∧ q.2 < 2 ∧ val m ct my sd p q.1 (nI q.2) := by
  by_cases he : ∃ l, SLs m ct my sd p n l
  · obtain ⟨l', h'⟩ := he
    rw [slc_eq h'] at hl
    subst hl
    exact h'.1
  · rw [slc, dif_neg he] at hl
    subst hl
    intro q hq
    cases hq
theorem fil_cm (h : Ar n m m') : ∀ (l : List (Nat × Nat)) (x : Int32) (fl fl' : Nat → Int32), (∀ q ∈ l, q.1 < n) → (∀ k, k < n → my k = my' k) → (∀ k, k < n → fl k = fl' k) → ∀ k, k < n → fil m my l x fl k = fil m' my' l x fl' k
  | [], x, fl, fl', _, _, h3 => h3
  | q :: r, x, fl, fl', h1, h2, h3 => by
    intro k hk
    have hq := h1 q List.mem_cons_self
    rw [fil, fil, ← ptf_cm h hq (h2 q.1 hq)]
    refine fil_cm h r _ _ _ (fun p hp => h1 p (List.mem_cons_of_mem _ hp)) h2 (fun j hj => ?_) k hk
    by_cases e : j = q.1
    · subst e
      rw [pk_us, pk_us, h3 _ hq]
    · rw [pk_un e, pk_un e]
      exact h3 j hj
theorem rP_cm (h : Ar n m m') (h0 : m 330 = m' 330) (hc : ∀ k, k < n → ct k = ct' k) (hm : ∀ k, k < n → my k = my' k) : rP m ct my n lo hi = rP m' ct' my' n lo hi := by
  rw [rP, rP, h0]
  have e : ∀ p, bs4 m ct my p n = bs4 m' ct' my' p n := fun p => bs4_cm h n (Nat.le_refl _) hc hm
  simp only [e]
theorem rV_cm (h : Ar n m m') (h0 : m 330 = m' 330) (hc : ∀ k, k < n → ct k = ct' k) (hm : ∀ k, k < n → my k = my' k) : rV m ct my n lo hi = rV m' ct' my' n lo hi := by
  rw [rV, rV, rP_cm h h0 hc hm, bs4_cm h n (Nat.le_refl _) hc hm]
theorem rR_cm (h : Ar n m m') (h0 : m 330 = m' 330) (hc : ∀ k, k < n → ct k = ct' k) (hm : ∀ k, k < n → my k = my' k) : rR m ct my n lo hi = rR m' ct' my' n lo hi := by
  rw [rR, rR, rP_cm h h0 hc hm, bs4_cm h n (Nat.le_refl _) hc hm]
theorem rF_cm (h : Ar n m m') (h0 : m 330 = m' 330) (hc : ∀ k, k < n → ct k = ct' k) (hm : ∀ k, k < n → my k = my' k) : ∀ k, k < n → rF m ct my n lo hi k = rF m' ct' my' n lo hi k := by
  intro k hk
  rw [rF, rF, rV_cm h h0 hc hm, rP_cm h h0 hc hm]
  by_cases q : (rP m' ct' my' n lo hi).1 < 0
  · rw [if_pos q, if_pos q]
  · rw [if_neg q, if_neg q, slc_cm h hc hm, slc_cm h hc hm]
    refine fil_cm h _ _ _ _ (fun q hq => (slc_lt rfl q hq).1) hm (fun j hj => ?_) k hk
    exact fil_cm h _ _ _ _ (fun q hq => (slc_lt rfl q hq).1) hm (fun _ _ => rfl) j hj
theorem unh_cm {fl fl' : Nat → Int32} (h : Ar n m m') : ∀ i, i ≤ n → (∀ k, k < i → ct k = ct' k) → (∀ k, k < i → fl k = fl' k) → unh m ct fl i = unh m' ct' fl' i
  | 0, _, _, _ => rfl
  | i + 1, hi, h1, h2 => by
    rw [unh, unh, h1 i (by omega), h2 i (by omega), unh_cm h i (by omega) (fun k hk => h1 k (by omega)) (fun k hk => h2 k (by omega)), h.at (i := 5) (by omega) (by omega)]
theorem crs_cm (h : Ar n m m') (h0 : m 330 = m' 330) (hm : ∀ k, k < n → my k = my' k) : ∀ (e : Nat) (ct ct' ou ou' : Nat → Int32) (r : Nat), (∀ k, k < n → ct k = ct' k) → (∀ k, k < n → ou k = ou' k) → (∀ k, k < n → (crs m my n lo hi e ct ou r).1 k = (crs m' my' n lo hi e ct' ou' r).1 k) ∧ (∀ k, k < n → (crs m my n lo hi e ct ou r).2.1 k = (crs m' my' n lo hi e ct' ou' r).2.1 k) ∧ (crs m my n lo hi e ct ou r).2.2 = (crs m' my' n lo hi e ct' ou' r).2.2
  | 0, ct, ct', ou, ou', r, hc, ho => ⟨hc, ho, rfl⟩
  | e + 1, ct, ct', ou, ou', r, hc, ho => by
    have eu : unh m ct (rF m ct my n lo hi) n = unh m' ct' (rF m' ct' my' n lo hi) n := unh_cm h n (Nat.le_refl _) hc (rF_cm h h0 hc hm)
    rw [crs_s, crs_s, eu]
    by_cases q : unh m' ct' (rF m' ct' my' n lo hi) n < 0
    · rw [if_pos q, if_pos q]
      exact ⟨hc, ho, rfl⟩
    · rw [if_neg q, if_neg q]
      have up : ∀ (f f' : Nat → Int32) (w : Nat) (x : Int32), (∀ k, k < n → f k = f' k) → ∀ k, k < n → upd f w x k = upd f' w x k := by
        intro f f' w x hf k hk
        by_cases z : k = w
        · rw [z, pk_us, pk_us]
        · rw [pk_un z, pk_un z]
          exact hf k hk
      exact crs_cm h h0 hm e _ _ _ _ (r + 1) (up _ _ _ _ hc) (up _ _ _ _ ho)
theorem qt_cm (h : Ar n m m') : ∀ k, k < n → qt m k = qt m' k := fun _ hk => h.at (i := 2) hk (by omega)
theorem ct0_cm (h : Ar n m m') {wo : Int32} : ∀ k, k < n → ct0 m wo k = ct0 m' wo k := fun k hk => by rw [ct0, ct0, h.at (i := 7) hk (by omega)]
theorem CF.cm {wo : Int32} {v' : Nat → Int32} {X' : Nat → Nat → Int32} (h : Ar n m m') (h0 : m 330 = m' 330) (hC : CF m n lo hi (crs m (qt m) n lo hi (n + 1) (ct0 m wo) (fun _ => 0) 0) v' X') : CF m' n lo hi (crs m' (qt m') n lo hi (n + 1) (ct0 m' wo) (fun _ => 0) 0) v' X' := by
  obtain ⟨e1, e2, e3⟩ := crs_cm (lo := lo) (hi := hi) h h0 (qt_cm h) (n + 1) (ct0 m wo) (ct0 m' wo) (fun _ => 0) (fun _ => 0) 0 (ct0_cm h) (fun _ _ => rfl)
  obtain ⟨c1, c2, c3, c4, c5, c6, c7, c8, c9, c10⟩ := hC
  have er := rP_cm (lo := lo) (hi := hi) h h0 e1 (qt_cm h)
  refine ⟨fun k hk => (c1 k hk).trans (e1 k hk), fun k hk => (c2 k hk).trans (qt_cm h k hk), fun k hk => (c3 k hk).trans (e2 k hk), fun k hk => (c4 k hk).trans (rF_cm h h0 e1 (qt_cm h) k hk), ?_, ?_, ?_, ?_, ?_, ?_⟩
  · rw [c5, er]
  · rw [c6, er]
  · rw [c7, er]
  · rw [c8, e3]
  · rw [c9, rV_cm h h0 e1 (qt_cm h)]
  · rw [c10, rR_cm h h0 e1 (qt_cm h)]
theorem OW.cm (h : Ar n m m') (hO : OW m n) : OW m' n := by
  intro k hk
  obtain ⟨s, kd, q, pr, sh, le, ow, g, e0, e1, e2, e3, e4, e5, e6, e7, b⟩ := hO k hk
  exact ⟨s, kd, q, pr, sh, le, ow, g, (h.at hk (by omega)).symm.trans e0, (h.at hk (by omega)).symm.trans e1, (h.at hk (by omega)).symm.trans e2, (h.at hk (by omega)).symm.trans e3, (h.at hk (by omega)).symm.trans e4, (h.at hk (by omega)).symm.trans e5, (h.at hk (by omega)).symm.trans e6, (h.at hk (by omega)).symm.trans e7, b⟩
end MDF
