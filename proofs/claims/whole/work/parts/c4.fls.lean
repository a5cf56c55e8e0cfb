/-! fills are at least 0; who isn't counted has none -/
theorem fil_nn {m my : Nat → Int32} : ∀ (l : List (Nat × Nat)) (x B : Nat) (fl : Nat → Int32), (∀ q ∈ l, ∃ z, z ≤ 9999 ∧ ptf m my q.1 (nI q.2) = nI z) → x < 2 ^ 31 → (∀ k, ∃ y, y ≤ B ∧ fl k = nI y) → B + 9999 * l.length < 2 ^ 31 → ∀ k, ∃ y, y ≤ B + 9999 * l.length ∧ fil m my l (nI x) fl k = nI y
  | [], x, B, fl, _, _, h, _ => fun k => by
    obtain ⟨y, h1, h2⟩ := h k
    exact ⟨y, by simp; omega, h2⟩
  | q :: r, x, B, fl, hl, hx, h, hB => by
    intro k
    obtain ⟨z, z1, z2⟩ := hl q List.mem_cons_self
    rw [List.length_cons] at hB ⊢
    rw [fil, z2, mn_n hx (by omega), nI_subI (by omega)]
    obtain ⟨y, y1, y2⟩ := fil_nn r (x - min x z) (B + 9999) (upd fl q.1 (fl q.1 + nI (min x z))) (fun p hp => hl p (List.mem_cons_of_mem _ hp)) (by omega) (fun j => by
      by_cases e : j = q.1
      · obtain ⟨w, w1, w2⟩ := h q.1
        rw [e, pk_us, w2, nI_add]
        exact ⟨w + min x z, by omega, rfl⟩
      · obtain ⟨w, w1, w2⟩ := h j
        rw [pk_un e]
        exact ⟨w, by omega, w2⟩) (by omega) k
    exact ⟨y, by omega, y2⟩
theorem slc_len {m ct my : Nat → Int32} {sd p : Int32} {n : Nat} : (slc m ct my sd p n).length ≤ 2 * n := by
  by_cases he : ∃ l, SLs m ct my sd p n l
  · obtain ⟨l, hl⟩ := he
    rw [slc_eq hl]
    exact sl_len (fun q hq => ⟨(hl.1 q hq).1, (hl.1 q hq).2.1⟩) hl.2.2
  · rw [slc, dif_neg he]
    exact Nat.zero_le _
theorem OW.rFn {m ct : Nat → Int32} {n lo hi : Nat} (h : OW m n) (hn : n ≤ 41) (k : Nat) : ∃ y, y < 2 ^ 30 ∧ rF m ct (qt m) n lo hi k = nI y := by
  rw [rF]
  split
  · exact ⟨0, by omega, rfl⟩
  · rename_i hneg
    have hp : ∀ sd, ∀ q ∈ slc m ct (qt m) sd (rP m ct (qt m) n lo hi).1 n, ∃ z, z ≤ 9999 ∧ ptf m (qt m) q.1 (nI q.2) = nI z := fun sd q hq => h.pt (slc_lt rfl q hq).1 (slc_lt rfl q hq).2.1
    obtain ⟨v, v1, v2, -⟩ := h.vol (ct := ct) (p := (rP m ct (qt m) n lo hi).1) hn
    have eV : rV m ct (qt m) n lo hi = nI v := by rw [rV, if_neg hneg]; exact v1
    have l0 := slc_len (m := m) (ct := ct) (my := qt m) (sd := 0) (p := (rP m ct (qt m) n lo hi).1) (n := n)
    have l1 := slc_len (m := m) (ct := ct) (my := qt m) (sd := 1) (p := (rP m ct (qt m) n lo hi).1) (n := n)
    rw [eV]
    have F0 := fil_nn _ v 0 (fun _ => 0) (hp 0) (by omega) (fun _ => ⟨0, Nat.le_refl _, rfl⟩) (by omega)
    obtain ⟨y, y1, y2⟩ := fil_nn _ v (9999 * 82) _ (hp 1) (by omega) (fun j => by
      obtain ⟨w, w1, w2⟩ := F0 j
      exact ⟨w, by omega, w2⟩) (by omega) k
    exact ⟨y, by omega, y2⟩
theorem rF_ct0 {m ct : Nat → Int32} {n lo hi k : Nat} (hz : ct k = 0) : rF m ct (qt m) n lo hi k = 0 := by
  rw [rF]
  split
  · rfl
  · have hs : ∀ sd, ∀ q ∈ slc m ct (qt m) sd (rP m ct (qt m) n lo hi).1 n, q.1 ≠ k := fun sd q hq z => by
      have := (slc_lt rfl q hq).2.2.2.1.1
      rw [z] at this
      exact this hz
    rw [fil_out _ _ _ (hs 1), fil_out _ _ _ (hs 0)]
/-- counted, out: never both; who is gone is never counted -/
theorem crs_ou {m my : Nat → Int32} {n lo hi : Nat} : ∀ (e : Nat) (ct ou : Nat → Int32) (r : Nat), (∀ k, ou k ≠ 0 → ct k = 0) → (∀ k, ou k = 0 ∨ ou k = 1) → (∀ k, (crs m my n lo hi e ct ou r).2.1 k ≠ 0 → (crs m my n lo hi e ct ou r).1 k = 0) ∧ (∀ k, ct k = 0 → (crs m my n lo hi e ct ou r).1 k = 0)
  | 0, ct, ou, r, h, _ => ⟨h, fun _ h => h⟩
  | e + 1, ct, ou, r, h, h2 => by
    rw [crs_s]
    split
    · exact ⟨h, fun _ h => h⟩
    · obtain ⟨i1, i2⟩ := crs_ou (m := m) (my := my) (n := n) (lo := lo) (hi := hi) e (upd ct (unh m ct (rF m ct my n lo hi) n).toNatClampNeg 0) (upd ou (unh m ct (rF m ct my n lo hi) n).toNatClampNeg 1) (r + 1) (fun k hk => by
        by_cases z : k = (unh m ct (rF m ct my n lo hi) n).toNatClampNeg
        · rw [z, pk_us]
        · rw [pk_un z] at hk ⊢
          exact h k hk) (fun k => by
        by_cases z : k = (unh m ct (rF m ct my n lo hi) n).toNatClampNeg
        · rw [z, pk_us]; exact Or.inr rfl
        · rw [pk_un z]; exact h2 k)
      refine ⟨i1, fun k hk => i2 k ?_⟩
      by_cases z : k = (unh m ct (rF m ct my n lo hi) n).toNatClampNeg
      · rw [z, pk_us]
      · rw [pk_un z]; exact hk
theorem xfl_F {b : Nat → Int32} (hB : BW 41 b) (k : Nat) : xfl b k = xF b (-1) k := by
  obtain ⟨y, y1, y2⟩ := hB.2.2.1.rFn (ct := (xC b (-1)).1) (lo := blo b) (hi := bhi b) hB.2.1 k
  obtain ⟨c1, c2⟩ := crs_ou (m := b) (my := qt b) (n := bn b) (lo := blo b) (hi := bhi b) (bn b + 1) (ct0 b (-1)) (fun _ => 0) 0 (fun k hk => absurd rfl hk) (fun _ => Or.inl rfl)
  have eF : xF b (-1) k = nI y := y2
  rw [xfl, xf]
  by_cases g : b (8 * k + 7) = 1
  · have : (xC b (-1)).1 k = 0 := c2 k (by rw [ct0, if_pos (Or.inl g)])
    rw [if_pos g, if_neg (by decide)]
    exact (rF_ct0 this).symm
  · rw [if_neg g]
    by_cases o : (xC b (-1)).2.1 k = 0
    · rw [if_pos o, eF]
      by_cases z : 0 < nI y
      · rw [if_pos z]
      · rw [if_neg z]
        have : y = 0 := by
          by_cases w : y = 0
          · exact w
          · exact absurd ((nI_ltI (a := 0) (by omega) (by omega)).mpr (by omega)) z
        rw [this]
        rfl
    · have : (xC b (-1)).1 k = 0 := c1 k o
      rw [if_neg o, if_neg (by decide)]
      exact (rF_ct0 this).symm
/-- the curve -/
theorem bsm_bs4 {f : Nat → Int32} {n : Nat} {p : Int32} (h : OW f n) (hn : n ≤ 41) : ∀ i, i ≤ n → bsm f p i = bs4 f (ct0 f (-1)) (qt f) p i
  | 0, _ => rfl
  | i + 1, hi => by
    have hg := h.g01 (show i < n by omega)
    have n1 : ¬ nI i = -1 := fun w => by
      have := nI_pos' (n := i) (by omega)
      rw [w] at this
      exact absurd this (by decide)
    have hc : (ct0 f (-1) i ≠ 0) ↔ f (8 * i + 7) = 0 := by
      rw [ct0]
      by_cases z : f (8 * i + 7) = 1
      · rw [if_pos (Or.inl z)]
        exact ⟨fun w => absurd rfl w, fun w => absurd z (hg.mpr w)⟩
      · rw [if_neg (fun w => w.elim z n1)]
        exact ⟨fun _ => hg.mp z, fun _ => by decide⟩
    rw [bsm, bs4, bsm_bs4 h hn i (by omega)]
    by_cases c : f (8 * i + 7) = 0 ∧ (f (8 * i + 1) = 0 ∨ (f (8 * i + 0) = 0 ∧ p ≤ f (8 * i + 3) ∨ f (8 * i + 0) ≠ 0 ∧ f (8 * i + 3) ≤ p))
    · rw [if_pos c, if_pos ⟨hc.mpr c.1, c.2⟩]
      rfl
    · rw [if_neg c, if_neg (fun z => c ⟨hc.mp z.1, z.2⟩)]
