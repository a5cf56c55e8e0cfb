/-! levels: what the class finds is what the reference scans -/
theorem lpk_c {sd : Int32} {r k : Nat} (hr : r ≤ 1000) (hk : k ≤ 1000) : (sd = 0 ∧ lpk sd r < lpk sd k ∨ sd ≠ 0 ∧ lpk sd k < lpk sd r) ↔ k < r := by
  rw [lpk, lpk]
  by_cases c : sd = 0
  · rw [if_pos c, if_pos c, nI_ltI (by omega) (by omega)]
    constructor
    · rintro (⟨-, h⟩ | ⟨h, -⟩)
      · omega
      · exact absurd c h
    · intro h
      exact Or.inl ⟨c, by omega⟩
  · rw [if_neg c, if_neg c, nI_ltI (a := k) (b := r) (by omega) (by omega)]
    constructor
    · rintro (⟨h, -⟩ | ⟨-, h⟩)
      · exact absurd h c
      · exact h
    · intro h
      exact Or.inr ⟨c, h⟩
theorem lpk_i {sd : Int32} {r k : Nat} (hr : r ≤ 1000) (hk : k ≤ 1000) (h : lpk sd r = lpk sd k) : r = k := by
  rw [lpk, lpk] at h
  by_cases c : sd = 0
  · rw [if_pos c, if_pos c, nI_eq (by omega) (by omega)] at h
    omega
  · rw [if_neg c, if_neg c, nI_eq (by omega) (by omega)] at h
    exact h
theorem lpk_p {sd : Int32} {k : Nat} (h1 : 1 ≤ k) (h2 : k ≤ 999) : ∃ p, 1 ≤ p ∧ p ≤ 999 ∧ lpk sd k = nI p := by
  rw [lpk]
  split
  · exact ⟨1000 - k, by omega, by omega, rfl⟩
  · exact ⟨k, h1, h2, rfl⟩
theorem nI_n1 {p : Nat} (h : p < 2 ^ 31) : ¬ nI p = -1 := fun z => by
  have := nI_pos' (n := p) h
  rw [z] at this
  exact absurd this (by decide)
theorem lpk_n {sd : Int32} {k : Nat} (h2 : k ≤ 999) : ¬ lpk sd k = -1 := by
  rw [lpk]
  split
  · exact nI_n1 (by omega)
  · exact nI_n1 (by omega)
/-- an order of the first i stands at rank k -/
def Lk (b : Nat → Int32) (sd : Int32) (i k : Nat) : Prop := ∃ o, o < i ∧ (b (8 * o + 7) = 0 ∧ b (8 * o + 0) = sd ∧ b (8 * o + 1) ≠ 0) ∧ b (8 * o + 3) = lpk sd k
theorem lis_L {b : Nat → Int32} {sd : Int32} {k : Nat} : ∀ i, ¬ lis b sd (lpk sd k) i = 0 ↔ Lk b sd i k
  | 0 => by
    rw [lis]
    exact ⟨fun h => absurd rfl h, fun ⟨o, h, _⟩ => absurd h (by omega)⟩
  | i + 1 => by
    rw [lis]
    have ih := lis_L (b := b) (sd := sd) (k := k) i
    constructor
    · intro h
      by_cases c : ¬ lis b sd (lpk sd k) i = 0 ∨ ((b (8 * i + 7) = 0 ∧ b (8 * i + 0) = sd ∧ b (8 * i + 1) ≠ 0) ∧ b (8 * i + 3) = lpk sd k)
      · rcases c with c | c
        · obtain ⟨o, h1, h2⟩ := ih.mp c
          exact ⟨o, by omega, h2⟩
        · exact ⟨i, by omega, c⟩
      · rw [if_neg c] at h
        exact absurd rfl h
    · rintro ⟨o, h1, h2⟩
      rw [if_pos]
      · decide
      · by_cases e : o = i
        · rw [e] at h2
          exact Or.inr h2
        · exact Or.inl (ih.mpr ⟨o, by omega, h2⟩)
theorem rk_of {b : Nat → Int32} {n o : Nat} {sd : Int32} (hO : OW b n) (ho : o < n) (h1 : b (8 * o + 1) ≠ 0) : ∃ r, 1 ≤ r ∧ r ≤ 999 ∧ b (8 * o + 3) = lpk sd r := by
  obtain ⟨s, kd, q, pr, sh, le, ow, g, e0, e1, e2, e3, e4, e5, e6, e7, b0, b1, b2, b3, b4, -⟩ := hO o ho
  have hk : kd ≠ 0 := fun z => h1 (by rw [e1, z]; rfl)
  have hp : pr ≠ 0 := fun z => hk (b4.mpr z)
  rw [e3]
  by_cases c : sd = 0
  · exact ⟨1000 - pr, by omega, by omega, by rw [lpk, if_pos c]; congr 1; omega⟩
  · exact ⟨pr, by omega, by omega, by rw [lpk, if_neg c]⟩
/-- the next level -/
theorem nxf_sp {b : Nat → Int32} {n k0 : Nat} {sd : Int32} (hO : OW b n) (hk0 : k0 ≤ 999) : ∀ i, i ≤ n → (nxf b sd (lpk sd k0) i = -1 ∧ ∀ k, k0 < k → k ≤ 999 → ¬ Lk b sd i k) ∨ ∃ k1, k0 < k1 ∧ k1 ≤ 999 ∧ Lk b sd i k1 ∧ nxf b sd (lpk sd k0) i = lpk sd k1 ∧ ∀ k, k0 < k → k < k1 → ¬ Lk b sd i k
  | 0, _ => Or.inl ⟨rfl, fun k _ _ ⟨o, h, _⟩ => absurd h (by omega)⟩
  | i + 1, hi => by
    have ih := nxf_sp (k0 := k0) (sd := sd) hO hk0 i (by omega)
    rw [nxf]
    by_cases ca : b (8 * i + 7) = 0 ∧ b (8 * i + 0) = sd ∧ b (8 * i + 1) ≠ 0
    · obtain ⟨r, r1, r2, e3⟩ := rk_of (sd := sd) hO (show i < n by omega) ca.2.2
      have hL : Lk b sd (i + 1) r := ⟨i, by omega, ca, e3⟩
      have hS : ∀ k, Lk b sd (i + 1) k → k ≤ 1000 → Lk b sd i k ∨ k = r := by
        rintro k ⟨o, o1, o2, o3⟩ hk
        by_cases e : o = i
        · rw [e, e3] at o3
          exact Or.inr (lpk_i hk (by omega) o3.symm)
        · exact Or.inl ⟨o, by omega, o2, o3⟩
      have hU : ∀ k, Lk b sd i k → Lk b sd (i + 1) k := fun k ⟨o, o1, o2⟩ => ⟨o, by omega, o2⟩
      rw [e3]
      by_cases c1 : k0 < r
      · rcases ih with ⟨h1, h2⟩ | ⟨k1, h1, h2, h3, h4, h5⟩
        · rw [if_pos ⟨ca, (lpk_c (by omega) (by omega)).mpr c1, Or.inl h1⟩]
          refine Or.inr ⟨r, c1, r2, hL, rfl, fun k a1 a2 a3 => ?_⟩
          rcases hS k a3 (by omega) with z | z
          · exact h2 k a1 (by omega) z
          · omega
        · by_cases c2 : r < k1
          · rw [if_pos ⟨ca, (lpk_c (by omega) (by omega)).mpr c1, Or.inr (by rw [h4]; exact (lpk_c (by omega) (by omega)).mpr c2)⟩]
            refine Or.inr ⟨r, c1, r2, hL, rfl, fun k a1 a2 a3 => ?_⟩
            rcases hS k a3 (by omega) with z | z
            · exact h5 k a1 (by omega) z
            · omega
          · rw [if_neg (fun z => by
              rcases z.2.2 with w | w
              · rw [h4] at w; exact lpk_n h2 w
              · rw [h4] at w; exact c2 ((lpk_c (by omega) (by omega)).mp w))]
            refine Or.inr ⟨k1, h1, h2, hU _ h3, h4, fun k a1 a2 a3 => ?_⟩
            rcases hS k a3 (by omega) with z | z
            · exact h5 k a1 a2 z
            · omega
      · rw [if_neg (fun z => c1 ((lpk_c (by omega) (by omega)).mp z.2.1))]
        rcases ih with ⟨h1, h2⟩ | ⟨k1, h1, h2, h3, h4, h5⟩
        · refine Or.inl ⟨h1, fun k a1 a2 a3 => ?_⟩
          rcases hS k a3 (by omega) with z | z
          · exact h2 k a1 a2 z
          · omega
        · refine Or.inr ⟨k1, h1, h2, hU _ h3, h4, fun k a1 a2 a3 => ?_⟩
          rcases hS k a3 (by omega) with z | z
          · exact h5 k a1 a2 z
          · omega
    · rw [if_neg (fun z => ca z.1)]
      have hS : ∀ k, Lk b sd (i + 1) k → Lk b sd i k := by
        rintro k ⟨o, o1, o2, o3⟩
        by_cases e : o = i
        · rw [e] at o2
          exact absurd o2 ca
        · exact ⟨o, by omega, o2, o3⟩
      rcases ih with ⟨h1, h2⟩ | ⟨k1, h1, h2, ⟨o, o1, o2⟩, h4, h5⟩
      · exact Or.inl ⟨h1, fun k a1 a2 a3 => h2 k a1 a2 (hS k a3)⟩
      · exact Or.inr ⟨k1, h1, h2, ⟨o, by omega, o2⟩, h4, fun k a1 a2 a3 => h5 k a1 a2 (hS k a3)⟩
/-- the scan -/
theorem lvo_skip {b : Nat → Int32} {sd x : Int32} {e : Nat} {c : Int32} : ∀ d k, (∀ k', k ≤ k' → k' < k + d → ¬ Lk b sd (bn b) k') → lvo b sd x (e + d) k c = lvo b sd x e (k + d) c
  | 0, _, _ => rfl
  | d + 1, k, h => by
    have h0 : lis b sd (lpk sd k) (bn b) = 0 := Classical.not_not.mp (fun z => h k (Nat.le_refl _) (by omega) ((lis_L _).mp z))
    show lvo b sd x ((e + d) + 1) k c = _
    rw [lvo, if_neg (fun z => z.1 h0), if_pos h0, Int32.add_zero, lvo_skip d (k + 1) (fun k' a1 a2 => h k' (by omega) (by omega)), show k + 1 + d = k + (d + 1) by omega]
theorem lvo_hit {b : Nat → Int32} {sd x : Int32} {e k : Nat} (h : Lk b sd (bn b) k) : lvo b sd x (e + 1) k x = lpk sd k := by
  rw [lvo, if_pos ⟨(lis_L _).mpr h, rfl⟩]
theorem lvo_go {b : Nat → Int32} {sd x c : Int32} {e k : Nat} (h : Lk b sd (bn b) k) (hc : ¬ c = x) : lvo b sd x (e + 1) k c = lvo b sd x e (k + 1) (c + 1) := by
  rw [lvo, if_neg (fun z => hc z.2), if_neg ((lis_L _).mpr h)]
theorem sN_mo {h h' : Nat → Nat} : ∀ n, (∀ i, i < n → h i ≤ h' i) → sN h n ≤ sN h' n
  | 0, _ => Nat.le_refl _
  | n + 1, hb => by
    have l0 := hb n (by omega)
    have := sN_mo n (fun i hi => hb i (by omega))
    rw [sN, sN]
    omega
theorem sN_lt {h h' : Nat → Nat} {o : Nat} : ∀ n, (∀ i, i < n → h i ≤ h' i) → o < n → h o < h' o → sN h n < sN h' n
  | 0, _, ho, _ => absurd ho (by omega)
  | n + 1, hb, ho, hs => by
    have l0 := hb n (by omega)
    rw [sN, sN]
    by_cases e : o = n
    · have : sN h n ≤ sN h' n := sN_mo n (fun i hi => hb i (by omega))
      rw [e] at hs
      omega
    · have := sN_lt n (fun i hi => hb i (by omega)) (by omega) hs
      omega
noncomputable def cRk (b : Nat → Int32) (sd : Int32) (n k : Nat) : Nat := sN (fun o => @ite _ (∃ r, r ≤ k ∧ b (8 * o + 3) = lpk sd r ∧ (b (8 * o + 7) = 0 ∧ b (8 * o + 0) = sd ∧ b (8 * o + 1) ≠ 0)) (Classical.propDecidable _) 1 0) n
theorem cRk_lt {b : Nat → Int32} {sd : Int32} {n k k1 : Nat} (hk : k < k1) (hk1 : k1 ≤ 999) (h : Lk b sd n k1) : cRk b sd n k < cRk b sd n k1 := by
  obtain ⟨o, o1, o2, o3⟩ := h
  rw [cRk, cRk]
  refine sN_lt (o := o) n (fun i hi => ?_) o1 ?_
  · by_cases c : ∃ r, r ≤ k ∧ b (8 * i + 3) = lpk sd r ∧ (b (8 * i + 7) = 0 ∧ b (8 * i + 0) = sd ∧ b (8 * i + 1) ≠ 0)
    · obtain ⟨r, r1, r2⟩ := c
      rw [if_pos ⟨r, r1, r2⟩, if_pos ⟨r, by omega, r2⟩]
      exact Nat.le_refl _
    · rw [if_neg c]
      exact Nat.zero_le _
  · rw [if_neg, if_pos ⟨k1, Nat.le_refl _, o3, o2⟩]
    · exact Nat.lt_succ_self _
    · rintro ⟨r, r1, r2, -⟩
      rw [o3] at r2
      have := lpk_i (by omega) (by omega) r2
      omega
theorem cRk_le {b : Nat → Int32} {sd : Int32} {k : Nat} : ∀ n, cRk b sd n k ≤ n
  | 0 => Nat.le_refl _
  | n + 1 => by
    have ih := cRk_le (b := b) (sd := sd) (k := k) n
    rw [cRk] at ih ⊢
    rw [sN]
    have : (@ite Nat (∃ r, r ≤ k ∧ b (8 * n + 3) = lpk sd r ∧ (b (8 * n + 7) = 0 ∧ b (8 * n + 0) = sd ∧ b (8 * n + 1) ≠ 0)) (Classical.propDecidable _) 1 0) ≤ 1 := by
      split <;> omega
    omega
section LVL
variable {b : Nat → Int32} {sd : Int32}
abbrev Tg (j : Nat) (x : Int32) : Prop := x = -1 ∨ ∃ t, j ≤ t ∧ t < 2 ^ 31 ∧ x = nI t
/-- nothing left -/
def LvN (b : Nat → Int32) (sd : Int32) (j : Nat) : Prop := ∃ c, c ≤ j ∧ (∀ i, i < c → lvp b (bn b) sd i ≠ -1) ∧ (∀ i, c ≤ i → lvp b (bn b) sd i = -1) ∧ ∀ x, Tg c x → lvo b sd x 999 1 0 = lvo b sd x 0 1000 (nI c)
def LvS (b : Nat → Int32) (sd : Int32) (j : Nat) : Prop := ∃ k1, 1 ≤ k1 ∧ k1 ≤ 999 ∧ Lk b sd (bn b) k1 ∧ lvp b (bn b) sd j = lpk sd k1 ∧ (∀ i, i ≤ j → lvp b (bn b) sd i ≠ -1) ∧ j + 1 ≤ cRk b sd (bn b) k1 ∧ ∀ x, Tg j x → lvo b sd x 999 1 0 = lvo b sd x (1000 - k1) k1 (nI j)
theorem lvp_stay {c : Nat} (h : lvp b (bn b) sd c = -1) : ∀ d, lvp b (bn b) sd (c + d) = -1
  | 0 => h
  | d + 1 => by
    show lvp b (bn b) sd ((c + d) + 1) = -1
    rw [lvp, if_pos (lvp_stay h d)]
theorem lvl_all (hO : OW b (bn b)) : ∀ j, j < 2 ^ 31 → LvN b sd j ∨ LvS b sd j
  | 0, _ => by
    have e0 : (if sd = 0 then (1000 : Int32) else 0) = lpk sd 0 := by rw [lpk]; split <;> rfl
    have el : lvp b (bn b) sd 0 = nxf b sd (lpk sd 0) (bn b) := by rw [lvp, e0]
    rcases nxf_sp (sd := sd) (k0 := 0) hO (by omega) (bn b) (Nat.le_refl _) with ⟨h1, h2⟩ | ⟨k1, h1, h2, h3, h4, h5⟩
    · refine Or.inl ⟨0, Nat.le_refl _, fun i hi => absurd hi (by omega), fun i _ => ?_, fun x _ => ?_⟩
      · have := lvp_stay (b := b) (sd := sd) (c := 0) (by rw [el]; exact h1) i
        rw [Nat.zero_add] at this
        exact this
      · rw [nI_0]
        exact lvo_skip (e := 0) 999 1 (fun k' a1 a2 => h2 k' (by omega) (by omega))
    · refine Or.inr ⟨k1, h1, h2, h3, by rw [el]; exact h4, fun i hi => ?_, ?_, fun x _ => ?_⟩
      · rw [show i = 0 by omega, el, h4]
        exact lpk_n h2
      · have := cRk_lt (k := 0) h1 h2 h3
        omega
      · rw [nI_0]
        have := lvo_skip (b := b) (sd := sd) (x := x) (e := 1000 - k1) (c := 0) (k1 - 1) 1 (fun k' a1 a2 => h5 k' (by omega) (by omega))
        rw [show 1000 - k1 + (k1 - 1) = 999 by omega, show 1 + (k1 - 1) = k1 by omega] at this
        exact this
  | j + 1, hj => by
    rcases lvl_all hO j (by omega) with ⟨c, h1, h2, h3, h4⟩ | ⟨k1, h1, h2, h3, h4, h5, h6, h7⟩
    · exact Or.inl ⟨c, by omega, h2, h3, h4⟩
    · have el : lvp b (bn b) sd (j + 1) = nxf b sd (lpk sd k1) (bn b) := by rw [lvp, if_neg (h5 j (Nat.le_refl _)), h4]
      have go : ∀ x, Tg (j + 1) x → lvo b sd x 999 1 0 = lvo b sd x (999 - k1) (k1 + 1) (nI (j + 1)) := by
        intro x hx
        have hne : ¬ nI j = x := by
          rintro rfl
          rcases hx with z | ⟨t, t1, t2, t3⟩
          · exact nI_n1 (by omega) z
          · have := (nI_eq (by omega) t2).mp t3
            omega
        rw [h7 x (hx.imp id (fun ⟨t, t1, t2⟩ => ⟨t, by omega, t2⟩)), show 1000 - k1 = (999 - k1) + 1 by omega, lvo_go h3 hne, nI_1]
      rcases nxf_sp (sd := sd) (k0 := k1) hO h2 (bn b) (Nat.le_refl _) with ⟨g1, g2⟩ | ⟨k2, g1, g2, g3, g4, g5⟩
      · refine Or.inl ⟨j + 1, Nat.le_refl _, fun i hi => h5 i (by omega), fun i hi => ?_, fun x hx => ?_⟩
        · have := lvp_stay (b := b) (sd := sd) (c := j + 1) (by rw [el]; exact g1) (i - (j + 1))
          rw [show j + 1 + (i - (j + 1)) = i by omega] at this
          exact this
        · have := lvo_skip (b := b) (sd := sd) (x := x) (e := 0) (c := nI (j + 1)) (999 - k1) (k1 + 1) (fun k' a1 a2 => g2 k' (by omega) (by omega))
          rw [show 0 + (999 - k1) = 999 - k1 by omega, show k1 + 1 + (999 - k1) = 1000 by omega] at this
          rw [go x hx, this]
      · refine Or.inr ⟨k2, by omega, g2, g3, by rw [el]; exact g4, fun i hi => ?_, ?_, fun x hx => ?_⟩
        · by_cases e : i = j + 1
          · rw [e, el, g4]
            exact lpk_n g2
          · exact h5 i (by omega)
        · have := cRk_lt (k := k1) g1 g2 g3
          omega
        · have := lvo_skip (b := b) (sd := sd) (x := x) (e := 1000 - k2) (c := nI (j + 1)) (k2 - k1 - 1) (k1 + 1) (fun k' a1 a2 => g5 k' (by omega) (by omega))
          rw [show 1000 - k2 + (k2 - k1 - 1) = 999 - k1 by omega, show k1 + 1 + (k2 - k1 - 1) = k2 by omega] at this
          rw [go x hx, this]
/-- a level is one price, or none -/
theorem lvl_at (hO : OW b (bn b)) {j : Nat} (hj : j < 2 ^ 31) : lvo b sd (nI j) 999 1 0 = lvp b (bn b) sd j ∧ (lvp b (bn b) sd j = -1 ∨ ∃ p, 1 ≤ p ∧ p ≤ 999 ∧ lvp b (bn b) sd j = nI p) ∧ (bn b ≤ j → lvp b (bn b) sd j = -1) := by
  rcases lvl_all (sd := sd) hO j hj with ⟨c, h1, h2, h3, h4⟩ | ⟨k1, h1, h2, h3, h4, h5, h6, h7⟩
  · refine ⟨?_, Or.inl (h3 j h1), fun _ => h3 j h1⟩
    rw [h4 _ (Or.inr ⟨j, h1, hj, rfl⟩), lvo, if_neg (nI_n1 hj), h3 j h1]
  · refine ⟨?_, ?_, fun hn => ?_⟩
    · rw [h7 _ (Or.inr ⟨j, Nat.le_refl _, hj, rfl⟩), show 1000 - k1 = (999 - k1) + 1 by omega, lvo_hit h3, h4]
    · rw [h4]
      exact Or.inr (lpk_p h1 h2)
    · have := cRk_le (b := b) (sd := sd) (k := k1) (bn b)
      omega
theorem lvl_n (hO : OW b (bn b)) {c : Nat} (hc : c ≤ 40) (hn : bn b ≤ 40) (h1 : ∀ i, i < c → lvp b (bn b) sd i ≠ -1) (h2 : c = 40 ∨ lvp b (bn b) sd c = -1) : lvo b sd (-1) 999 1 0 = nI c := by
  have h2' : lvp b (bn b) sd c = -1 := by
    rcases h2 with e | e
    · exact (lvl_at hO (by omega)).2.2 (by omega)
    · exact e
  rcases lvl_all (sd := sd) hO c (by omega) with ⟨c', g1, g2, g3, g4⟩ | ⟨k1, g1, g2, g3, g4, g5, -⟩
  · have e : c' = c := by
      by_cases z : c' = c
      · exact z
      · exact absurd (g3 c' (Nat.le_refl _)) (h1 c' (by omega))
    rw [g4 _ (Or.inl rfl), lvo, if_pos rfl, e]
  · exact absurd h2' (g5 c (Nat.le_refl _))
end LVL
theorem nxf_cm {f b : Nat → Int32} {n : Nat} {sd p : Int32} (h : Ar n f b) : ∀ i, i ≤ n → nxf f sd p i = nxf b sd p i
  | 0, _ => rfl
  | i + 1, hi => by rw [nxf, nxf, nxf_cm h i (by omega), h.at (i := 7) (show i < n by omega) (by decide), h.at (i := 0) (show i < n by omega) (by decide), h.at (i := 1) (show i < n by omega) (by decide), h.at (i := 3) (show i < n by omega) (by decide)]
theorem lvp_cm {f b : Nat → Int32} {n : Nat} {sd : Int32} (h : Ar n f b) : ∀ j, lvp f n sd j = lvp b n sd j
  | 0 => by rw [lvp, lvp, nxf_cm h n (Nat.le_refl _)]
  | j + 1 => by rw [lvp, lvp, lvp_cm h j, nxf_cm h n (Nat.le_refl _)]
theorem lsm_cm {f b : Nat → Int32} {n : Nat} {sd p w : Int32} (h : Ar n f b) : ∀ i, i ≤ n → lsm f sd p w i = lsm b sd p w i
  | 0, _ => rfl
  | i + 1, hi => by rw [lsm, lsm, lsm_cm h i (by omega), shw, shw, h.at (i := 7) (show i < n by omega) (by decide), h.at (i := 0) (show i < n by omega) (by decide), h.at (i := 1) (show i < n by omega) (by decide), h.at (i := 3) (show i < n by omega) (by decide), h.at (i := 2) (show i < n by omega) (by decide), h.at (i := 4) (show i < n by omega) (by decide)]
theorem cnS_cm {f b : Nat → Int32} {n : Nat} (h : Ar n f b) : ∀ i, i ≤ n → cnS f i = cnS b i
  | 0, _ => rfl
  | i + 1, hi => by rw [cnS, cnS, cnS_cm h i (by omega), h.at (i := 7) (show i < n by omega) (by decide)]
