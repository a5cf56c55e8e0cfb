/-! who is gone is as one aside -/
def A7 (n : Nat) (f g : Nat → Int32) : Prop := ∀ k, k < n → ∀ i, i < 7 → f (8 * k + i) = g (8 * k + i)
theorem A7.sy {n : Nat} {f g : Nat → Int32} (h : A7 n f g) : A7 n g f := fun k hk i hi => (h k hk i hi).symm
theorem A7.at {n : Nat} {f g : Nat → Int32} (h : A7 n f g) {k i : Nat} (hk : k < n) (hi : i < 7) : f (8 * k + i) = g (8 * k + i) := h k hk i hi
section MDG
variable {n lo hi : Nat} {m m' ct ct' my my' : Nat → Int32} {sd p : Int32}
theorem bs4_c7 (h : A7 n m m') : ∀ i, i ≤ n → (∀ k, k < i → ct k = ct' k) → (∀ k, k < i → my k = my' k) → bs4 m ct my p i = bs4 m' ct' my' p i
  | 0, _, _, _ => rfl
  | i + 1, hi, hc, hm => by
    rw [bs4, bs4, bs4_c7 h i (by omega) (fun k hk => hc k (by omega)) (fun k hk => hm k (by omega)), hc i (by omega), hm i (by omega), h.at (k := i) (i := 0) (by omega) (by omega), h.at (k := i) (i := 1) (by omega) (by omega), h.at (k := i) (i := 3) (by omega) (by omega)]
theorem ptf_c7 (h : A7 n m m') {k : Nat} (hk : k < n) (hm : my k = my' k) {t : Int32} : ptf m my k t = ptf m' my' k t := by
  rw [ptf, ptf, h.at (i := 1) hk (by omega), h.at (i := 4) hk (by omega), hm]
theorem rkf_c7 (h : A7 n m m') {k : Nat} (hk : k < n) {t : Int32} : rkf m k t = rkf m' k t := by
  rw [rkf, rkf, h.at (i := 0) hk (by omega), h.at (i := 1) hk (by omega), h.at (i := 3) hk (by omega)]
theorem val_c7 (h : A7 n m m') {k : Nat} (hk : k < n) (hc : ct k = ct' k) (hm : my k = my' k) {t : Int32} : val m ct my sd p k t ↔ val m' ct' my' sd p k t := by
  rw [val, val, wl, wl, ptf_c7 h hk hm, hc, h.at (i := 0) hk (by omega), h.at (i := 1) hk (by omega), h.at (i := 3) hk (by omega)]
theorem SLs.c7 (h : A7 n m m') (hc : ∀ k, k < n → ct k = ct' k) (hm : ∀ k, k < n → my k = my' k) {l : List (Nat × Nat)} (hl : SLs m ct my sd p n l) : SLs m' ct' my' sd p n l := by
  refine ⟨fun q hq => ?_, fun o t ho ht hv => hl.2.1 o t ho ht ((val_c7 h ho (hc _ ho) (hm _ ho)).mpr hv), ?_⟩
  · obtain ⟨a1, a2, a3⟩ := hl.1 q hq
    exact ⟨a1, a2, (val_c7 h a1 (hc _ a1) (hm _ a1)).mp a3⟩
  · refine hl.2.2.imp_of_mem ?_
    intro q r hq hr hlt
    rw [← rkf_c7 h (hl.1 q hq).1, ← rkf_c7 h (hl.1 r hr).1]
    exact hlt
theorem slc_c7 (h : A7 n m m') (hc : ∀ k, k < n → ct k = ct' k) (hm : ∀ k, k < n → my k = my' k) : slc m ct my sd p n = slc m' ct' my' sd p n := by
  by_cases he : ∃ l, SLs m ct my sd p n l
  · obtain ⟨l, hl⟩ := he
    rw [slc_eq hl, slc_eq (hl.c7 h hc hm)]
  · have he2 : ¬ ∃ l, SLs m' ct' my' sd p n l := fun ⟨l, hl⟩ => he ⟨l, hl.c7 h.sy (fun k hk => (hc k hk).symm) (fun k hk => (hm k hk).symm)⟩
    rw [slc, slc, dif_neg he, dif_neg he2]
theorem fil_c7 (h : A7 n m m') : ∀ (l : List (Nat × Nat)) (x : Int32) (fl fl' : Nat → Int32), (∀ q ∈ l, q.1 < n) → (∀ k, k < n → my k = my' k) → (∀ k, k < n → fl k = fl' k) → ∀ k, k < n → fil m my l x fl k = fil m' my' l x fl' k
  | [], x, fl, fl', _, _, h3 => h3
  | q :: r, x, fl, fl', h1, h2, h3 => by
    intro k hk
    have hq := h1 q List.mem_cons_self
    rw [fil, fil, ← ptf_c7 h hq (h2 q.1 hq)]
    refine fil_c7 h r _ _ _ (fun p hp => h1 p (List.mem_cons_of_mem _ hp)) h2 (fun j hj => ?_) k hk
    by_cases e : j = q.1
    · subst e
      rw [pk_us, pk_us, h3 _ hq]
    · rw [pk_un e, pk_un e]
      exact h3 j hj
theorem rP_c7 (h : A7 n m m') (h0 : m 330 = m' 330) (hc : ∀ k, k < n → ct k = ct' k) (hm : ∀ k, k < n → my k = my' k) : rP m ct my n lo hi = rP m' ct' my' n lo hi := by
  rw [rP, rP, h0]
  have e : ∀ p, bs4 m ct my p n = bs4 m' ct' my' p n := fun p => bs4_c7 h n (Nat.le_refl _) hc hm
  simp only [e]
theorem rV_c7 (h : A7 n m m') (h0 : m 330 = m' 330) (hc : ∀ k, k < n → ct k = ct' k) (hm : ∀ k, k < n → my k = my' k) : rV m ct my n lo hi = rV m' ct' my' n lo hi := by
  rw [rV, rV, rP_c7 h h0 hc hm, bs4_c7 h n (Nat.le_refl _) hc hm]
theorem rR_c7 (h : A7 n m m') (h0 : m 330 = m' 330) (hc : ∀ k, k < n → ct k = ct' k) (hm : ∀ k, k < n → my k = my' k) : rR m ct my n lo hi = rR m' ct' my' n lo hi := by
  rw [rR, rR, rP_c7 h h0 hc hm, bs4_c7 h n (Nat.le_refl _) hc hm]
theorem rF_c7 (h : A7 n m m') (h0 : m 330 = m' 330) (hc : ∀ k, k < n → ct k = ct' k) (hm : ∀ k, k < n → my k = my' k) : ∀ k, k < n → rF m ct my n lo hi k = rF m' ct' my' n lo hi k := by
  intro k hk
  rw [rF, rF, rV_c7 h h0 hc hm, rP_c7 h h0 hc hm]
  by_cases q : (rP m' ct' my' n lo hi).1 < 0
  · rw [if_pos q, if_pos q]
  · rw [if_neg q, if_neg q, slc_c7 h hc hm, slc_c7 h hc hm]
    refine fil_c7 h _ _ _ _ (fun q hq => (slc_lt rfl q hq).1) hm (fun j hj => ?_) k hk
    exact fil_c7 h _ _ _ _ (fun q hq => (slc_lt rfl q hq).1) hm (fun _ _ => rfl) j hj
theorem unh_c7 {fl fl' : Nat → Int32} (h : A7 n m m') : ∀ i, i ≤ n → (∀ k, k < i → ct k = ct' k) → (∀ k, k < i → fl k = fl' k) → unh m ct fl i = unh m' ct' fl' i
  | 0, _, _, _ => rfl
  | i + 1, hi, h1, h2 => by
    rw [unh, unh, h1 i (by omega), h2 i (by omega), unh_c7 h i (by omega) (fun k hk => h1 k (by omega)) (fun k hk => h2 k (by omega)), h.at (i := 5) (by omega) (by omega)]
theorem crs_c7 (h : A7 n m m') (h0 : m 330 = m' 330) (hm : ∀ k, k < n → my k = my' k) : ∀ (e : Nat) (ct ct' ou ou' : Nat → Int32) (r : Nat), (∀ k, k < n → ct k = ct' k) → (∀ k, k < n → ou k = ou' k) → (∀ k, k < n → (crs m my n lo hi e ct ou r).1 k = (crs m' my' n lo hi e ct' ou' r).1 k) ∧ (∀ k, k < n → (crs m my n lo hi e ct ou r).2.1 k = (crs m' my' n lo hi e ct' ou' r).2.1 k) ∧ (crs m my n lo hi e ct ou r).2.2 = (crs m' my' n lo hi e ct' ou' r).2.2
  | 0, ct, ct', ou, ou', r, hc, ho => ⟨hc, ho, rfl⟩
  | e + 1, ct, ct', ou, ou', r, hc, ho => by
    have eu : unh m ct (rF m ct my n lo hi) n = unh m' ct' (rF m' ct' my' n lo hi) n := unh_c7 h n (Nat.le_refl _) hc (rF_c7 h h0 hc hm)
    rw [crs_s, crs_s, eu]
    by_cases q : unh m' ct' (rF m' ct' my' n lo hi) n < 0
    · rw [if_pos q, if_pos q]
      exact ⟨hc, ho, rfl⟩
    · rw [if_neg q, if_neg q]
      have up : ∀ (f f' : Nat → Int32) (w : Nat) (x : Int32), (∀ k, k < n → f k = f' k) → ∀ k, k < n → upd f w x k = upd f' w x k := by
        intro f f' w x hf k hk
        by_cases z : k = w
        · rw [z, pk_us, pk_us]
        · rw [pk_un z, pk_un z]
          exact hf k hk
      exact crs_c7 h h0 hm e _ _ _ _ (r + 1) (up _ _ _ _ hc) (up _ _ _ _ ho)
theorem qt_c7 (h : A7 n m m') : ∀ k, k < n → qt m k = qt m' k := fun _ hk => h.at (i := 2) hk (by omega)
end MDG
theorem A7.up {n k : Nat} {f : Nat → Int32} {x : Int32} : A7 n (upd f (8 * k + 7) x) f := fun j hj i hi => pk_un (by omega)
theorem xR_gone {b : Nat → Int32} (hB : BW 40 b) {k : Nat} (hk : k < bn b) : xR (upd b (8 * k + 7) 1) (-1) = xR b (nI k) := by
  have hn := hB.2.1
  have e1 : bn (upd b (8 * k + 7) 1) = bn b := bn_up (by omega)
  have e2 : blo (upd b (8 * k + 7) 1) = blo b := by rw [blo, blo, pk_un (by omega)]
  have e3 : bhi (upd b (8 * k + 7) 1) = bhi b := by rw [bhi, bhi, pk_un (by omega)]
  have e0 : upd b (8 * k + 7) 1 330 = b 330 := pk_un (by omega)
  have h7 : A7 (bn b) (upd b (8 * k + 7) 1) b := A7.up
  have hc : ∀ j, j < bn b → ct0 (upd b (8 * k + 7) 1) (-1) j = ct0 b (nI k) j := by
    intro j hj
    rw [ct0, ct0]
    by_cases z : j = k
    · subst z
      rw [pk_us, if_pos (Or.inl rfl), if_pos (Or.inr rfl)]
    · rw [pk_un (by omega)]
      have n1 : ¬ nI j = -1 := fun w => by
        have := nI_pos' (n := j) (by omega)
        rw [w] at this
        exact absurd this (by decide)
      have n2 : ¬ nI j = nI k := fun w => z ((nI_eq (by omega) (by omega)).mp w)
      by_cases y : b (8 * j + 7) = 1
      · rw [if_pos (Or.inl y), if_pos (Or.inl y)]
      · rw [if_neg (fun w => w.elim y n1), if_neg (fun w => w.elim y n2)]
  have hC := crs_c7 (lo := blo b) (hi := bhi b) h7 e0 (qt_c7 h7) (bn b + 1) _ _ (fun _ => 0) (fun _ => 0) 0 hc (fun _ _ => rfl)
  rw [xR, xR, xC, xC, e1, e2, e3]
  exact rR_c7 h7 e0 hC.1 (qt_c7 h7)
theorem BW.gn {b : Nat → Int32} {k : Nat} (h : BW 40 b) (hk : k < bn b) : BW 40 (upd b (8 * k + 7) 1) := by
  have hn := h.2.1
  refine h.cg (fun j h1 h2 _ => pk_un (by omega)) (fun j hj => ?_)
  obtain ⟨s, kd, q, pr, sh, le, ow, g, e0, e1, e2, e3, e4, e5, e6, e7, b0, b1, b2, b3, b4, b5, b6, b7, b8, b9, b10, b11⟩ := h.2.2.1 j hj
  by_cases z : j = k
  · subst z
    refine ⟨s, kd, q, pr, sh, le, ow, 1, ?_, ?_, ?_, ?_, ?_, ?_, ?_, ?_, b0, b1, b2, b3, b4, b5, b6, b7, b8, by omega, fun w => by omega, fun w => by omega⟩
    · rw [pk_un (by omega)]; exact e0
    · rw [pk_un (by omega)]; exact e1
    · rw [pk_un (by omega)]; exact e2
    · rw [pk_un (by omega)]; exact e3
    · rw [pk_un (by omega)]; exact e4
    · rw [pk_un (by omega)]; exact e5
    · rw [pk_un (by omega)]; exact e6
    · rw [pk_us]; rfl
  · refine ⟨s, kd, q, pr, sh, le, ow, g, ?_, ?_, ?_, ?_, ?_, ?_, ?_, ?_, b0, b1, b2, b3, b4, b5, b6, b7, b8, b9, b10, b11⟩
    · rw [pk_un (by omega)]; exact e0
    · rw [pk_un (by omega)]; exact e1
    · rw [pk_un (by omega)]; exact e2
    · rw [pk_un (by omega)]; exact e3
    · rw [pk_un (by omega)]; exact e4
    · rw [pk_un (by omega)]; exact e5
    · rw [pk_un (by omega)]; exact e6
    · rw [pk_un (by omega)]; exact e7
