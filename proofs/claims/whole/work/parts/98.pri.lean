/-! the price: stretches weighed one by one, and prices looked at three times -/
noncomputable def cn (P : Nat → Prop) (lo : Nat) : Nat → Nat
  | 0 => 0
  | d + 1 => cn P lo d + (@ite _ (P (lo + d)) (Classical.propDecidable _) 1 0)
theorem cn_t {P : Nat → Prop} {lo d : Nat} (h : P (lo + d)) : cn P lo (d + 1) = cn P lo d + 1 := by rw [cn, if_pos h]
theorem cn_f {P : Nat → Prop} {lo d : Nat} (h : ¬ P (lo + d)) : cn P lo (d + 1) = cn P lo d := by rw [cn, if_neg h, Nat.add_zero]
theorem cn_le {P : Nat → Prop} {lo : Nat} : ∀ D, cn P lo D ≤ D
  | 0 => Nat.le_refl _
  | d + 1 => by
    have := cn_le (P := P) (lo := lo) d
    by_cases h : P (lo + d)
    · rw [cn_t h]; omega
    · rw [cn_f h]; omega
theorem cn_app {P : Nat → Prop} {lo D : Nat} : ∀ L, cn P lo (D + L) = cn P lo D + cn P (lo + D) L
  | 0 => by rw [cn]; rfl
  | L + 1 => by
    have ih := cn_app (P := P) (lo := lo) (D := D) L
    by_cases h : P (lo + D + L)
    · rw [cn_t h, ← Nat.add_assoc, cn_t (by rw [← Nat.add_assoc]; exact h), ih]; omega
    · rw [cn_f h, ← Nat.add_assoc, cn_f (by rw [← Nat.add_assoc]; exact h), ih]
theorem cn_cg {P Q : Nat → Prop} {lo : Nat} : ∀ D, (∀ p, lo ≤ p → p < lo + D → (P p ↔ Q p)) → cn P lo D = cn Q lo D
  | 0, _ => rfl
  | d + 1, h => by
    have ih := cn_cg (P := P) (Q := Q) (lo := lo) d (fun p h1 h2 => h p h1 (by omega))
    by_cases hp : P (lo + d)
    · rw [cn_t hp, cn_t ((h _ (by omega) (by omega)).mp hp), ih]
    · rw [cn_f hp, cn_f (fun z => hp ((h _ (by omega) (by omega)).mpr z)), ih]
theorem cn_no {P : Nat → Prop} {lo : Nat} : ∀ D, (∀ p, lo ≤ p → p < lo + D → ¬ P p) → cn P lo D = 0
  | 0, _ => rfl
  | d + 1, h => by rw [cn_f (h _ (by omega) (by omega)), cn_no d (fun p h1 h2 => h p h1 (by omega))]
theorem cn_ya {P : Nat → Prop} {lo : Nat} : ∀ D, (∀ p, lo ≤ p → p < lo + D → P p) → cn P lo D = D
  | 0, _ => rfl
  | d + 1, h => by rw [cn_t (h _ (by omega) (by omega)), cn_ya d (fun p h1 h2 => h p h1 (by omega))]
theorem cn_ps {P : Nat → Prop} {lo p : Nat} : ∀ D, lo ≤ p → p < lo + D → P p → 1 ≤ cn P lo D
  | 0, h1, h2, _ => by omega
  | d + 1, h1, h2, h => by
    by_cases e : p = lo + d
    · rw [cn_t (by rw [← e]; exact h)]; omega
    · have := cn_ps (P := P) d h1 (by omega) h
      by_cases hd : P (lo + d)
      · rw [cn_t hd]; omega
      · rw [cn_f hd]; exact this
theorem cn_sub {P Q : Nat → Prop} {lo : Nat} : ∀ D, (∀ p, lo ≤ p → p < lo + D → Q p → P p) → cn Q lo D ≤ cn P lo D ∧ (cn Q lo D = cn P lo D ↔ ∀ p, lo ≤ p → p < lo + D → P p → Q p)
  | 0, _ => ⟨Nat.le_refl _, fun _ p h1 h2 => by omega, fun _ => rfl⟩
  | d + 1, h => by
    obtain ⟨i1, i2⟩ := cn_sub (P := P) (Q := Q) (lo := lo) d (fun p h1 h2 => h p h1 (by omega))
    by_cases hq : Q (lo + d)
    · have hp := h _ (by omega) (by omega) hq
      rw [cn_t hq, cn_t hp]
      refine ⟨by omega, fun e p h1 h2 hp2 => ?_, fun e => ?_⟩
      · by_cases z : p = lo + d
        · rw [z]; exact hq
        · exact i2.mp (by omega) p h1 (by omega) hp2
      · have := i2.mpr (fun p h1 h2 => e p h1 (by omega))
        omega
    · rw [cn_f hq]
      by_cases hp : P (lo + d)
      · rw [cn_t hp]
        exact ⟨by omega, fun e => by omega, fun e => absurd (e _ (by omega) (by omega) hp) hq⟩
      · rw [cn_f hp]
        refine ⟨i1, fun e p h1 h2 hp2 => ?_, fun e => i2.mpr (fun p h1 h2 => e p h1 (by omega))⟩
        by_cases z : p = lo + d
        · rw [z] at hp2; exact absurd hp2 hp
        · exact i2.mp e p h1 (by omega) hp2
def dz (r p : Nat) : Nat := if r ≤ p then p - r else r - p
theorem ab_dz {r p : Nat} (hr : r < 1000000) (hp : p < 1000000) : ab (nI p - nI r) = nI (dz r p) := by
  rw [dz, ab]
  by_cases h : r ≤ p
  · rw [if_pos h, nI_subI h, if_pos (nI_pos' (by omega))]
  · have e : nI p - nI r = -nI (r - p) := by
      rw [← nI_subI (show p ≤ r by omega), Int32.neg_sub]
    have hn : ¬ 0 ≤ -nI (r - p) := by
      rw [nI_iI, iI_neg]
      intro z
      have := (iI_le (a := 0) (by omega) (by omega) (by omega) (by omega)).mp z
      omega
    rw [if_neg h, e, if_neg hn, nI_iI, iI_neg, show (0 : Int32) = iI 0 from rfl, iI_sub]
    congr 1
    omega
abbrev Sx (V R : Nat → Int32) (lo D : Nat) (X Y : Int32) (p : Nat) : Prop := (lo ≤ p ∧ p < lo + D) ∧ V p = X ∧ ab (R p) = Y
def CS (V R : Nat → Int32) (lo r D : Nat) (X Y n6 l8 h9 q10 z11 a12 b13 : Int32) : Prop := n6 = nI (cn (fun p => V p = X ∧ ab (R p) = Y) lo D) ∧ (∃ l h q, l8 = nI l ∧ h9 = nI h ∧ q10 = nI q ∧ z11 = R q ∧ Sx V R lo D X Y l ∧ Sx V R lo D X Y h ∧ Sx V R lo D X Y q ∧ ∀ p, Sx V R lo D X Y p → l ≤ p ∧ p ≤ h ∧ (dz r q < dz r p ∨ dz r q = dz r p ∧ p ≤ q)) ∧ (a12 ≠ 0 ↔ ∀ p, Sx V R lo D X Y p → 0 < R p) ∧ (b13 ≠ 0 ↔ ∀ p, Sx V R lo D X Y p → R p < 0)
def CI (V R : Nat → Int32) (lo r D : Nat) (g : Nat → Int32) : Prop := (g 5 = nI r ∧ 0 ≤ g 1) ∧ (∀ p, lo ≤ p → p < lo + D → V p ≤ g 1) ∧ (g 1 = 0 ∧ g 4 = 0 ∧ g 6 = 0 ∨ g 1 ≠ 0 ∧ g 4 = nI (cn (fun p => V p = g 1) lo D) ∧ (∀ p, lo ≤ p → p < lo + D → V p = g 1 → g 7 ≤ ab (R p)) ∧ CS V R lo r D (g 1) (g 7) (g 6) (g 8) (g 9) (g 10) (g 11) (g 12) (g 13))
/-- the nearest of a stretch -/
theorem dz_cl {r a b p : Nat} (h1 : a ≤ p) (h2 : p ≤ b) : dz r (max a (min b r)) < dz r p ∨ dz r (max a (min b r)) = dz r p ∧ p = max a (min b r) := by
  rw [dz, dz]
  split <;> split <;> omega
theorem mx_n {a b : Nat} (ha : a < 2 ^ 31) (hb : b < 2 ^ 31) : mx (nI a) (nI b) = nI (max a b) := by
  rw [mx]
  by_cases h : a < b
  · rw [if_pos (nI_lt h hb), Nat.max_eq_right (by omega)]
  · rw [if_neg (nI_nlt (by omega) ha), Nat.max_eq_left (by omega)]
section PRI
variable {V R : Nat → Int32} {lo r D L a b : Nat} {g : Nat → Int32} {v z : Int32}
/-- all that a new stretch makes anew -/
theorem cs_new (hL : 1 ≤ L) (ha : a = lo + D) (hb : b + 1 = a + L) (hv : ∀ p, a ≤ p → p ≤ b → V p = v) (hz : ∀ p, a ≤ p → p ≤ b → R p = z) (hno : ∀ p, lo ≤ p → p < lo + D → ¬ (V p = v ∧ ab (R p) = ab z)) : CS V R lo r (D + L) v (ab z) (nI L) (nI a) (nI b) (nI (max a (min b r))) z (if 0 < z then 1 else 0) (if z < 0 then 1 else 0) := by
  have hS : ∀ p, Sx V R lo (D + L) v (ab z) p ↔ a ≤ p ∧ p ≤ b := by
    intro p
    constructor
    · rintro ⟨⟨h1, h2⟩, h3⟩
      by_cases q : p < lo + D
      · exact absurd h3 (hno p h1 q)
      · exact ⟨by omega, by omega⟩
    · rintro ⟨h1, h2⟩
      exact ⟨⟨by omega, by omega⟩, hv p h1 h2, by rw [hz p h1 h2]⟩
  have hm : a ≤ max a (min b r) ∧ max a (min b r) ≤ b := by omega
  refine ⟨?_, ⟨a, b, max a (min b r), rfl, rfl, rfl, (hz _ hm.1 hm.2).symm, (hS a).mpr (by omega), (hS b).mpr (by omega), (hS _).mpr hm, fun p hp => ?_⟩, ?_, ?_⟩
  · rw [cn_app, cn_no D hno, cn_ya L (fun p h1 h2 => ⟨hv p (by omega) (by omega), by rw [hz p (by omega) (by omega)]⟩), Nat.zero_add]
  · have := (hS p).mp hp
    refine ⟨this.1, this.2, ?_⟩
    rcases dz_cl (r := r) this.1 this.2 with q | q
    · exact Or.inl q
    · exact Or.inr ⟨q.1, by omega⟩
  · by_cases q : 0 < z
    · rw [if_pos q]
      exact ⟨fun _ p hp => by rw [hz p ((hS p).mp hp).1 ((hS p).mp hp).2]; exact q, fun _ => by decide⟩
    · rw [if_neg q]
      exact ⟨fun y => absurd rfl y, fun y => absurd (by have := y a ((hS a).mpr (by omega)); rw [hz a (by omega) (by omega)] at this; exact this) q⟩
  · by_cases q : z < 0
    · rw [if_pos q]
      exact ⟨fun _ p hp => by rw [hz p ((hS p).mp hp).1 ((hS p).mp hp).2]; exact q, fun _ => by decide⟩
    · rw [if_neg q]
      exact ⟨fun y => absurd rfl y, fun y => absurd (by have := y a ((hS a).mpr (by omega)); rw [hz a (by omega) (by omega)] at this; exact this) q⟩
/-- a stretch that is no better than what is there -/
theorem cs_old {X Y n6 l8 h9 q10 z11 a12 b13 : Int32} (ha : a = lo + D) (hb : b + 1 = a + L) (hno : ∀ p, a ≤ p → p ≤ b → ¬ (V p = X ∧ ab (R p) = Y)) (h : CS V R lo r D X Y n6 l8 h9 q10 z11 a12 b13) : CS V R lo r (D + L) X Y n6 l8 h9 q10 z11 a12 b13 := by
  have hS : ∀ p, Sx V R lo (D + L) X Y p ↔ Sx V R lo D X Y p := by
    intro p
    constructor
    · rintro ⟨⟨h1, h2⟩, h3⟩
      by_cases q : p < lo + D
      · exact ⟨⟨h1, q⟩, h3⟩
      · exact absurd h3 (hno p (by omega) (by omega))
    · rintro ⟨⟨h1, h2⟩, h3⟩
      exact ⟨⟨h1, by omega⟩, h3⟩
  obtain ⟨h1, ⟨l, hh, q, e1, e2, e3, e4, e5, e6, e7, e8⟩, h3, h4⟩ := h
  refine ⟨?_, ⟨l, hh, q, e1, e2, e3, e4, (hS l).mpr e5, (hS hh).mpr e6, (hS q).mpr e7, fun p hp => e8 p ((hS p).mp hp)⟩, ?_, ?_⟩
  · rw [cn_app, cn_no L (fun p h1 h2 => hno p (by omega) (by omega)), Nat.add_zero]
    exact h1
  · rw [h3]
    exact ⟨fun y p hp => y p ((hS p).mp hp), fun y p hp => y p ((hS p).mpr hp)⟩
  · rw [h4]
    exact ⟨fun y p hp => y p ((hS p).mp hp), fun y p hp => y p ((hS p).mpr hp)⟩
/-- a stretch that is as good -/
theorem cs_more {n6 l8 h9 q10 z11 a12 b13 : Int32} (hr : r < 1000000) (hbb : b < 1000000) (hL : 1 ≤ L) (ha : a = lo + D) (hb : b + 1 = a + L) (hv : ∀ p, a ≤ p → p ≤ b → V p = v) (hz : ∀ p, a ≤ p → p ≤ b → R p = z) (h : CS V R lo r D v (ab z) n6 l8 h9 q10 z11 a12 b13) :
    CS V R lo r (D + L) v (ab z) (n6 + nI L) l8 (nI b) (if ab (nI (max a (min b r)) - nI r) ≤ ab (q10 - nI r) then nI (max a (min b r)) else q10) (if ab (nI (max a (min b r)) - nI r) ≤ ab (q10 - nI r) then z else z11) (if a12 ≠ 0 ∧ 0 < z then 1 else 0) (if b13 ≠ 0 ∧ z < 0 then 1 else 0) := by
  have hS : ∀ p, Sx V R lo (D + L) v (ab z) p ↔ Sx V R lo D v (ab z) p ∨ a ≤ p ∧ p ≤ b := by
    intro p
    constructor
    · rintro ⟨⟨h1, h2⟩, h3⟩
      by_cases q : p < lo + D
      · exact Or.inl ⟨⟨h1, q⟩, h3⟩
      · exact Or.inr ⟨by omega, by omega⟩
    · rintro (⟨⟨h1, h2⟩, h3⟩ | ⟨h1, h2⟩)
      · exact ⟨⟨h1, by omega⟩, h3⟩
      · exact ⟨⟨by omega, by omega⟩, hv p h1 h2, by rw [hz p h1 h2]⟩
  have hm : a ≤ max a (min b r) ∧ max a (min b r) ≤ b := by omega
  have hcl : ∀ p, a ≤ p → p ≤ b → dz r (max a (min b r)) < dz r p ∨ dz r (max a (min b r)) = dz r p ∧ p = max a (min b r) := fun p h1 h2 => dz_cl h1 h2
  generalize max a (min b r) = mm at hm hcl ⊢
  obtain ⟨h1, ⟨l, hh, q, e1, e2, e3, e4, e5, e6, e7, e8⟩, h3, h4⟩ := h
  have hq : q < lo + D := e7.1.2
  have hd : ab (nI mm - nI r) ≤ ab (q10 - nI r) ↔ dz r mm ≤ dz r q := by
    rw [e3, ab_dz hr (by omega), ab_dz hr (by omega)]
    have b1 : dz r mm < 1000000 := by rw [dz]; split <;> omega
    have b2 : dz r q < 1000000 := by rw [dz]; split <;> omega
    exact nI_leI (by omega) (by omega)
  have F3 : (if a12 ≠ 0 ∧ 0 < z then (1 : Int32) else 0) ≠ 0 ↔ ∀ p, Sx V R lo (D + L) v (ab z) p → 0 < R p := by
    by_cases y : a12 ≠ 0 ∧ 0 < z
    · rw [if_pos y]
      refine ⟨fun _ p hp => ?_, fun _ => by decide⟩
      rcases (hS p).mp hp with w | w
      · exact h3.mp y.1 p w
      · rw [hz p w.1 w.2]; exact y.2
    · rw [if_neg y]
      refine ⟨fun w => absurd rfl w, fun w => absurd ⟨h3.mpr (fun p hp => w p ((hS p).mpr (Or.inl hp))), ?_⟩ y⟩
      have := w a ((hS a).mpr (Or.inr (by omega)))
      rw [hz a (by omega) (by omega)] at this
      exact this
  have F4 : (if b13 ≠ 0 ∧ z < 0 then (1 : Int32) else 0) ≠ 0 ↔ ∀ p, Sx V R lo (D + L) v (ab z) p → R p < 0 := by
    by_cases y : b13 ≠ 0 ∧ z < 0
    · rw [if_pos y]
      refine ⟨fun _ p hp => ?_, fun _ => by decide⟩
      rcases (hS p).mp hp with w | w
      · exact h4.mp y.1 p w
      · rw [hz p w.1 w.2]; exact y.2
    · rw [if_neg y]
      refine ⟨fun w => absurd rfl w, fun w => absurd ⟨h4.mpr (fun p hp => w p ((hS p).mpr (Or.inl hp))), ?_⟩ y⟩
      have := w a ((hS a).mpr (Or.inr (by omega)))
      rw [hz a (by omega) (by omega)] at this
      exact this
  have hbS : Sx V R lo (D + L) v (ab z) b := (hS b).mpr (Or.inr (by omega))
  have hlS : Sx V R lo (D + L) v (ab z) l := (hS l).mpr (Or.inl e5)
  refine ⟨?_, ?_, F3, F4⟩
  · rw [cn_app, cn_ya L (fun p h1 h2 => ⟨hv p (by omega) (by omega), by rw [hz p (by omega) (by omega)]⟩), ← nI_add, ← h1]
  · by_cases y : dz r mm ≤ dz r q
    · rw [if_pos (hd.mpr y), if_pos (hd.mpr y)]
      refine ⟨l, b, mm, e1, rfl, rfl, (hz mm hm.1 hm.2).symm, hlS, hbS, (hS mm).mpr (Or.inr hm), fun p hp => ?_⟩
      rcases (hS p).mp hp with w | w
      · have w8 := e8 p w
        have w1 := w.1
        refine ⟨w8.1, by omega, ?_⟩
        rcases w8.2.2 with t | t
        · exact Or.inl (by omega)
        · by_cases u : dz r mm = dz r p
          · exact Or.inr ⟨u, by omega⟩
          · exact Or.inl (by omega)
      · have w5 := e5.1
        refine ⟨by omega, w.2, ?_⟩
        rcases hcl p w.1 w.2 with t | t
        · exact Or.inl t
        · exact Or.inr ⟨t.1, by omega⟩
    · rw [if_neg (fun w => y (hd.mp w)), if_neg (fun w => y (hd.mp w))]
      refine ⟨l, b, q, e1, rfl, e3, e4, hlS, hbS, (hS q).mpr (Or.inl e7), fun p hp => ?_⟩
      rcases (hS p).mp hp with w | w
      · have w8 := e8 p w
        have w1 := w.1
        exact ⟨w8.1, by omega, w8.2.2⟩
      · have w5 := e5.1
        refine ⟨by omega, w.2, Or.inl ?_⟩
        rcases hcl p w.1 w.2 with t | t
        · omega
        · omega
/-- a stretch is weighed -/
theorem ci_step (hr : r < 1000000) (hbb : b < 1000000) (hD : D + L < 1000000) (hL : 1 ≤ L) (ha : a = lo + D) (hb : b + 1 = a + L) (hv : ∀ p, a ≤ p → p ≤ b → V p = v) (hz : ∀ p, a ≤ p → p ≤ b → R p = z) (hv0 : 0 ≤ v) (h : CI V R lo r D g) : CI V R lo r (D + L) (wgh g (nI a) (nI b) v z) := by
  obtain ⟨⟨h5, g1n⟩, hle, hcase⟩ := h
  have hLi : nI b - nI a + 1 = nI L := by
    rw [nI_subI (by omega), show (1 : Int32) = nI 1 from rfl, nI_add]
    congr 1
    omega
  have hmm : mx (nI a) (mn (nI b) (nI r)) = nI (max a (min b r)) := by rw [mn_n (by omega) (by omega), mx_n (by omega) (by omega)]
  have spl : ∀ p, lo ≤ p → p < lo + (D + L) → p < lo + D ∨ a ≤ p ∧ p ≤ b := fun p h1 h2 => by omega
  by_cases c0 : v = 0 ∨ v < g 1
  · -- nothing is changed
    rw [wgh_0 c0]
    have hle2 : v ≤ g 1 := by
      rcases c0 with q | q
      · rw [q]; exact g1n
      · exact Int32.le_of_lt q
    refine ⟨⟨h5, g1n⟩, fun p h1 h2 => ?_, ?_⟩
    · rcases spl p h1 h2 with q | q
      · exact hle p h1 q
      · rw [hv p q.1 q.2]; exact hle2
    · rcases hcase with q | ⟨q1, q2, q3, q4⟩
      · exact Or.inl q
      · have hne : v ≠ g 1 := by
          rcases c0 with q | q
          · rw [q]; exact fun w => q1 w.symm
          · exact fun w => Int32.lt_irrefl (w ▸ q)
        refine Or.inr ⟨q1, ?_, fun p h1 h2 hp => ?_, cs_old ha hb (fun p h1 h2 w => hne (by rw [← hv p h1 h2]; exact w.1)) q4⟩
        · rw [cn_app, cn_no L (fun p h1 h2 w => hne (by rw [← hv p (by omega) (by omega)]; exact w)), Nat.add_zero]
          exact q2
        · rcases spl p h1 h2 with q | q
          · exact q3 p h1 q hp
          · rw [hv p q.1 q.2] at hp; exact absurd hp hne
  · have hvne : v ≠ 0 := fun q => c0 (Or.inl q)
    have hvge : g 1 ≤ v := Int32.not_lt.mp (fun q => c0 (Or.inr q))
    by_cases c1 : g 1 < v
    · -- more than ever
      rw [wgh_1 c0 c1]
      have hno : ∀ p, lo ≤ p → p < lo + D → ¬ V p = v := fun p h1 h2 w => absurd (Int32.lt_of_le_of_lt (hle p h1 h2) c1) (by rw [w]; exact Int32.lt_irrefl)
      have hcs := cs_new (V := V) (R := R) (lo := lo) (r := r) hL ha hb hv hz (fun p h1 h2 w => hno p h1 h2 w.1)
      have n0 : (nI L : Int32) = 0 + nI L := (Int32.zero_add _).symm
      rw [hLi, wrr_f (fun w => absurd w.1 (by simp [upd])), wr1_t (Or.inl rfl)]
      rw [wr3_t (Or.inl rfl)]
      refine ⟨⟨h5, hv0⟩, fun p h1 h2 => ?_, Or.inr ⟨hvne, ?_, fun p h1 h2 hp => ?_, ?_⟩⟩
      · show V p ≤ v
        rcases spl p h1 h2 with q | q
        · exact Int32.le_trans (hle p h1 q) hvge
        · rw [hv p q.1 q.2]; exact Int32.le_refl _
      · show 0 + nI L = nI (cn (fun p => V p = v) lo (D + L))
        rw [cn_app, cn_no D hno, cn_ya L (fun p h1 h2 => hv p (by omega) (by omega)), Nat.zero_add, Int32.zero_add]
      · show ab z ≤ ab (R p)
        rcases spl p h1 h2 with q | q
        · exact absurd hp (hno p h1 q)
        · rw [hz p q.1 q.2]; exact Int32.le_refl _
      · have e12 : (if (1 : Int32) ≠ 0 ∧ 0 < z then (1 : Int32) else 0) = (if 0 < z then 1 else 0) := by simp
        have e13 : (if (1 : Int32) ≠ 0 ∧ z < 0 then (1 : Int32) else 0) = (if z < 0 then 1 else 0) := by simp
        show CS V R lo r (D + L) v (ab z) (0 + (nI b - nI a + 1)) (nI a) (nI b) (mx (nI a) (mn (nI b) (g 5))) z (if (1 : Int32) ≠ 0 ∧ 0 < z then 1 else 0) (if (1 : Int32) ≠ 0 ∧ z < 0 then 1 else 0)
        rw [hLi, e12, e13, h5, hmm, Int32.zero_add]
        exact hcs
    · -- as many
      have he : g 1 = v := Int32.le_antisymm hvge (Int32.not_lt.mp c1)
      rw [wgh_2 c0 c1, hLi]
      obtain ⟨q1, q2, q3, q4⟩ := hcase.resolve_left (fun w => hvne (by rw [← he]; exact w.1))
      rw [he] at q2 q3 q4
      have hn6 : g 6 = nI (cn (fun p => V p = v ∧ ab (R p) = g 7) lo D) := q4.1
      have hpos : 1 ≤ cn (fun p => V p = v ∧ ab (R p) = g 7) lo D := by
        obtain ⟨l, hh, q, e1, e2, e3, e4, e5, e6, e7, e8⟩ := q4.2.1
        exact cn_ps D e5.1.1 e5.1.2 e5.2
      have hcl := cn_le (P := fun p => V p = v ∧ ab (R p) = g 7) (lo := lo) D
      have h6 : 0 < g 6 := by rw [hn6]; exact nI_lt (a := 0) (by omega) (by omega)
      have h60 : g 6 ≠ 0 := fun w => by rw [w] at h6; exact Int32.lt_irrefl h6
      have hcnt : ∀ G : Nat → Int32, G 1 = v → G 4 = g 4 + nI L → G 4 = nI (cn (fun p => V p = G 1) lo (D + L)) := fun G e1 e4 => by
        rw [e1, e4, q2, cn_app, cn_ya L (fun p h1 h2 => hv p (by omega) (by omega)), nI_add]
      have hleG : ∀ p, lo ≤ p → p < lo + (D + L) → V p ≤ v := fun p h1 h2 => by
        rcases spl p h1 h2 with q | q
        · rw [← he]; exact hle p h1 q
        · rw [hv p q.1 q.2]; exact Int32.le_refl _
      by_cases c2 : g 7 < ab z
      · rw [wrr_t (show 0 < upd g 4 (g 4 + nI L) 6 ∧ upd g 4 (g 4 + nI L) 7 < ab z from ⟨h6, c2⟩)]
        refine ⟨⟨h5, g1n⟩, fun p h1 h2 => ?_, Or.inr ⟨?_, ?_, fun p h1 h2 hp => ?_, ?_⟩⟩
        · show V p ≤ g 1
          rw [he]; exact hleG p h1 h2
        · show g 1 ≠ 0
          exact q1
        · exact hcnt _ he rfl
        · show g 7 ≤ ab (R p)
          have hp2 : V p = v := by rw [← he]; exact hp
          rcases spl p h1 h2 with q | q
          · exact q3 p h1 q hp2
          · rw [hz p q.1 q.2]; exact Int32.le_of_lt c2
        · show CS V R lo r (D + L) (g 1) (g 7) (g 6) (g 8) (g 9) (g 10) (g 11) (g 12) (g 13)
          rw [he]
          exact cs_old ha hb (fun p h1 h2 w => by rw [hz p h1 h2] at w; exact Int32.lt_irrefl (w.2 ▸ c2)) q4
      · rw [wrr_f (show ¬ (0 < upd g 4 (g 4 + nI L) 6 ∧ upd g 4 (g 4 + nI L) 7 < ab z) from fun w => c2 w.2)]
        by_cases c3 : ab z < g 7
        · rw [wr1_t (g := upd g 4 (g 4 + nI L)) (Or.inr c3), wr3_t (Or.inl rfl)]
          have hno : ∀ p, lo ≤ p → p < lo + D → ¬ (V p = v ∧ ab (R p) = ab z) := fun p h1 h2 w => absurd (q3 p h1 h2 w.1) (by rw [w.2]; exact Int32.not_le.mpr c3)
          refine ⟨⟨h5, g1n⟩, fun p h1 h2 => ?_, Or.inr ⟨?_, ?_, fun p h1 h2 hp => ?_, ?_⟩⟩
          · show V p ≤ g 1
            rw [he]; exact hleG p h1 h2
          · show g 1 ≠ 0
            exact q1
          · exact hcnt _ he rfl
          · show ab z ≤ ab (R p)
            have hp2 : V p = v := by rw [← he]; exact hp
            rcases spl p h1 h2 with q | q
            · exact Int32.le_of_lt (Int32.lt_of_lt_of_le c3 (q3 p h1 q hp2))
            · rw [hz p q.1 q.2]; exact Int32.le_refl _
          · have e12 : (if (1 : Int32) ≠ 0 ∧ 0 < z then (1 : Int32) else 0) = (if 0 < z then 1 else 0) := by simp
            have e13 : (if (1 : Int32) ≠ 0 ∧ z < 0 then (1 : Int32) else 0) = (if z < 0 then 1 else 0) := by simp
            show CS V R lo r (D + L) (g 1) (ab z) (0 + (nI b - nI a + 1)) (nI a) (nI b) (mx (nI a) (mn (nI b) (g 5))) z (if (1 : Int32) ≠ 0 ∧ 0 < z then 1 else 0) (if (1 : Int32) ≠ 0 ∧ z < 0 then 1 else 0)
            rw [hLi, e12, e13, h5, hmm, Int32.zero_add, he]
            exact cs_new hL ha hb hv hz hno
        · have e7 : g 7 = ab z := Int32.le_antisymm (Int32.not_lt.mp c3) (Int32.not_lt.mp c2)
          rw [wr1_f (show ¬ (upd g 4 (g 4 + nI L) 6 = 0 ∨ ab z < upd g 4 (g 4 + nI L) 7) from fun w => w.elim h60 c3)]
          rw [e7] at q3 q4
          have hcs := cs_more hr hbb hL ha hb hv hz q4
          have h10 : g 10 ≠ -1 := by
            obtain ⟨l, hh, q, -, -, e3, -, -, -, e7', -⟩ := q4.2.1
            rw [e3]
            have := e7'.1.2
            exact nI_nm1 (by omega)
          have base : ∀ G : Nat → Int32, G 5 = nI r → G 1 = v → G 4 = g 4 + nI L → G 7 = ab z → CS V R lo r (D + L) v (ab z) (G 6) (G 8) (G 9) (G 10) (G 11) (G 12) (G 13) → CI V R lo r (D + L) G := by
            intro G e5 e1 e4 e7 hC
            refine ⟨⟨e5, by rw [e1]; exact hv0⟩, fun p h1 h2 => by rw [e1]; exact hleG p h1 h2, Or.inr ⟨by rw [e1]; exact hvne, hcnt G e1 e4, fun p h1 h2 hp => ?_, by rw [e1, e7]; exact hC⟩⟩
            rw [e1] at hp
            rw [e7]
            rcases spl p h1 h2 with q | q
            · exact q3 p h1 q hp
            · rw [hz p q.1 q.2]; exact Int32.le_refl _
          by_cases c4 : ab (mx (nI a) (mn (nI b) (g 5)) - g 5) ≤ ab (g 10 - g 5)
          · rw [wr3_t (g := wr2 (upd g 4 (g 4 + nI L)) (nI a) (nI b) z) (Or.inr c4)]
            rw [h5, hmm] at c4
            rw [if_pos c4, if_pos c4] at hcs
            refine base _ h5 he rfl e7 ?_
            show CS V R lo r (D + L) v (ab z) (g 6 + (nI b - nI a + 1)) (g 8) (nI b) (mx (nI a) (mn (nI b) (g 5))) z (if g 12 ≠ 0 ∧ 0 < z then 1 else 0) (if g 13 ≠ 0 ∧ z < 0 then 1 else 0)
            rw [hLi, h5, hmm]
            exact hcs
          · rw [wr3_f (g := wr2 (upd g 4 (g 4 + nI L)) (nI a) (nI b) z) (fun w => w.elim h10 c4)]
            rw [h5, hmm] at c4
            rw [if_neg c4, if_neg c4] at hcs
            refine base _ h5 he rfl e7 ?_
            show CS V R lo r (D + L) v (ab z) (g 6 + (nI b - nI a + 1)) (g 8) (nI b) (g 10) (g 11) (if g 12 ≠ 0 ∧ 0 < z then 1 else 0) (if g 13 ≠ 0 ∧ z < 0 then 1 else 0)
            rw [hLi]
            exact hcs
/-- the reference's three looks -/
theorem mxv_sp : ∀ D, 0 ≤ mxv V lo D ∧ (∀ p, lo ≤ p → p < lo + D → V p ≤ mxv V lo D) ∧ (mxv V lo D = 0 ∨ ∃ p, lo ≤ p ∧ p < lo + D ∧ V p = mxv V lo D)
  | 0 => ⟨Int32.le_refl _, fun p h1 h2 => by omega, Or.inl rfl⟩
  | d + 1 => by
    obtain ⟨i1, i2, i3⟩ := mxv_sp d
    rw [mxv]
    by_cases h : mxv V lo d < V (lo + d)
    · rw [if_pos h]
      refine ⟨Int32.le_trans i1 (Int32.le_of_lt h), fun p h1 h2 => ?_, Or.inr ⟨lo + d, by omega, by omega, rfl⟩⟩
      by_cases e : p = lo + d
      · rw [e]; exact Int32.le_refl _
      · exact Int32.le_trans (i2 p h1 (by omega)) (Int32.le_of_lt h)
    · rw [if_neg h]
      refine ⟨i1, fun p h1 h2 => ?_, ?_⟩
      · by_cases e : p = lo + d
        · rw [e]; exact Int32.not_lt.mp h
        · exact i2 p h1 (by omega)
      · rcases i3 with q | ⟨p, p1, p2, p3⟩
        · exact Or.inl q
        · exact Or.inr ⟨p, p1, by omega, p3⟩
theorem sl2_sp {X : Int32} (hab : ∀ p, lo ≤ p → p < lo + D → ab (R p) < 1000000) : ∀ d, d ≤ D → (sl2 V R lo X d).1 = nI (cn (fun p => V p = X) lo d) ∧ (∀ p, lo ≤ p → p < lo + d → V p = X → (sl2 V R lo X d).2.2 ≤ ab (R p)) ∧ (cn (fun p => V p = X) lo d = 0 ∧ (sl2 V R lo X d).2.2 = 1000000 ∨ (∃ p, lo ≤ p ∧ p < lo + d ∧ V p = X ∧ ab (R p) = (sl2 V R lo X d).2.2) ∧ ∃ p, lo ≤ p ∧ p < lo + d ∧ V p = X ∧ (sl2 V R lo X d).2.1 = nI p)
  | 0, _ => ⟨rfl, fun p h1 h2 => by omega, Or.inl ⟨rfl, rfl⟩⟩
  | d + 1, hd => by
    obtain ⟨i1, i2, i3⟩ := sl2_sp hab d (by omega)
    rw [sl2]
    by_cases h : V (lo + d) = X
    · rw [if_pos h, cn_t (P := fun p => V p = X) h]
      refine ⟨by rw [i1, nI_1], fun p h1 h2 hp => ?_, Or.inr ⟨?_, lo + d, by omega, by omega, h, rfl⟩⟩
      · show mn (sl2 V R lo X d).2.2 (ab (R (lo + d))) ≤ ab (R p)
        rw [mn]
        by_cases e : p = lo + d
        · rw [e]
          split
          · exact Int32.le_refl _
          · rename_i q; exact Int32.not_lt.mp q
        · have := i2 p h1 (by omega) hp
          split
          · rename_i q; exact Int32.le_trans (Int32.le_of_lt q) this
          · exact this
      · show ∃ p, lo ≤ p ∧ p < lo + (d + 1) ∧ V p = X ∧ ab (R p) = mn (sl2 V R lo X d).2.2 (ab (R (lo + d)))
        by_cases q : ab (R (lo + d)) < (sl2 V R lo X d).2.2
        · exact ⟨lo + d, by omega, by omega, h, by rw [mn, if_pos q]⟩
        · rcases i3 with ⟨-, w⟩ | ⟨⟨p, p1, p2, p3, p4⟩, -⟩
          · rw [w] at q
            exact absurd (hab _ (by omega) (by omega)) q
          · exact ⟨p, p1, by omega, p3, by rw [mn, if_neg q]; exact p4⟩
    · rw [if_neg h, cn_f (P := fun p => V p = X) h]
      refine ⟨i1, fun p h1 h2 hp => ?_, ?_⟩
      · by_cases e : p = lo + d
        · rw [e] at hp; exact absurd hp h
        · exact i2 p h1 (by omega) hp
      · rcases i3 with w | ⟨⟨p, p1, p2, p3, p4⟩, q, q1, q2, q3, q4⟩
        · exact Or.inl w
        · exact Or.inr ⟨⟨p, p1, by omega, p3, p4⟩, q, q1, by omega, q3, q4⟩
theorem pr6_sp {X Y : Int32} (hr : r < 1000000) (hlo : lo + D < 1000000) : ∀ d, d ≤ D → (pr6 V R lo X Y (nI r) d).1 = nI (cn (fun p => V p = X ∧ ab (R p) = Y) lo d) ∧ (pr6 V R lo X Y (nI r) d).2.1 = nI (cn (fun p => (V p = X ∧ ab (R p) = Y) ∧ 0 < R p) lo d) ∧ (pr6 V R lo X Y (nI r) d).2.2.1 = nI (cn (fun p => (V p = X ∧ ab (R p) = Y) ∧ R p < 0) lo d) ∧ ((∀ p, ¬ Sx V R lo d X Y p) ∧ (pr6 V R lo X Y (nI r) d).2.2.2 = (-1, -1, -1) ∨ ∃ l h q, (pr6 V R lo X Y (nI r) d).2.2.2 = (nI l, nI h, nI q) ∧ Sx V R lo d X Y l ∧ Sx V R lo d X Y h ∧ Sx V R lo d X Y q ∧ ∀ p, Sx V R lo d X Y p → l ≤ p ∧ p ≤ h ∧ (dz r q < dz r p ∨ dz r q = dz r p ∧ p ≤ q))
  | 0, _ => ⟨rfl, rfl, rfl, Or.inl ⟨fun p h => by have := h.1; omega, rfl⟩⟩
  | d + 1, hd => by
    obtain ⟨i1, i2, i3, i4⟩ := pr6_sp hr hlo d (by omega)
    rw [pr6]
    by_cases h : V (lo + d) = X ∧ ab (R (lo + d)) = Y
    · rw [if_pos h, cn_t (P := fun p => V p = X ∧ ab (R p) = Y) h]
      have hS : ∀ p, Sx V R lo (d + 1) X Y p ↔ Sx V R lo d X Y p ∨ p = lo + d := by
        intro p
        constructor
        · rintro ⟨⟨h1, h2⟩, h3⟩
          by_cases e : p = lo + d
          · exact Or.inr e
          · exact Or.inl ⟨⟨h1, by omega⟩, h3⟩
        · rintro (⟨⟨h1, h2⟩, h3⟩ | e)
          · exact ⟨⟨h1, by omega⟩, h3⟩
          · subst e; exact ⟨⟨by omega, by omega⟩, h⟩
      refine ⟨by rw [i1, nI_1], ?_, ?_, Or.inr ?_⟩
      · show (pr6 V R lo X Y (nI r) d).2.1 + (if 0 < R (lo + d) then 1 else 0) = _
        by_cases q : 0 < R (lo + d)
        · rw [if_pos q, i2, cn_t (P := fun p => (V p = X ∧ ab (R p) = Y) ∧ 0 < R p) ⟨h, q⟩, nI_1]
        · rw [if_neg q, i2, cn_f (P := fun p => (V p = X ∧ ab (R p) = Y) ∧ 0 < R p) (fun w => q w.2), Int32.add_zero]
      · show (pr6 V R lo X Y (nI r) d).2.2.1 + (if R (lo + d) < 0 then 1 else 0) = _
        by_cases q : R (lo + d) < 0
        · rw [if_pos q, i3, cn_t (P := fun p => (V p = X ∧ ab (R p) = Y) ∧ R p < 0) ⟨h, q⟩, nI_1]
        · rw [if_neg q, i3, cn_f (P := fun p => (V p = X ∧ ab (R p) = Y) ∧ R p < 0) (fun w => q w.2), Int32.add_zero]
      · rcases i4 with ⟨e1, e2⟩ | ⟨l, hh, q, e2, e3, e4, e5, e6⟩
        · rw [show (pr6 V R lo X Y (nI r) d).2.2.2.1 = -1 by rw [e2], show (pr6 V R lo X Y (nI r) d).2.2.2.2.2 = -1 by rw [e2]]
          rw [if_pos (show (-1 : Int32) < 0 by decide), if_pos (Or.inl (show (-1 : Int32) < 0 by decide))]
          refine ⟨lo + d, lo + d, lo + d, rfl, (hS _).mpr (Or.inr rfl), (hS _).mpr (Or.inr rfl), (hS _).mpr (Or.inr rfl), fun p hp => ?_⟩
          rcases (hS p).mp hp with w | w
          · exact absurd w (e1 p)
          · subst w; exact ⟨Nat.le_refl _, Nat.le_refl _, Or.inr ⟨rfl, Nat.le_refl _⟩⟩
        · rw [show (pr6 V R lo X Y (nI r) d).2.2.2.1 = nI l by rw [e2], show (pr6 V R lo X Y (nI r) d).2.2.2.2.2 = nI q by rw [e2]]
          have l1 := e3.1
          have q1 := e5.1
          rw [if_neg (nI_pos (by omega))]
          have hd2 : (nI q < 0 ∨ ab (nI (lo + d) - nI r) ≤ ab (nI q - nI r)) ↔ dz r (lo + d) ≤ dz r q := by
            rw [ab_dz hr (by omega), ab_dz hr (by omega)]
            have b1 : dz r (lo + d) < 1000000 := by rw [dz]; split <;> omega
            have b2 : dz r q < 1000000 := by rw [dz]; split <;> omega
            exact ⟨fun w => w.elim (fun y => absurd y (nI_pos (by omega))) (fun y => (nI_leI (by omega) (by omega)).mp y), fun w => Or.inr ((nI_leI (by omega) (by omega)).mpr w)⟩
          by_cases y : dz r (lo + d) ≤ dz r q
          · rw [if_pos (hd2.mpr y)]
            refine ⟨l, lo + d, lo + d, rfl, (hS _).mpr (Or.inl e3), (hS _).mpr (Or.inr rfl), (hS _).mpr (Or.inr rfl), fun p hp => ?_⟩
            rcases (hS p).mp hp with w | w
            · have w8 := e6 p w
              have w1 := w.1
              refine ⟨w8.1, by omega, ?_⟩
              rcases w8.2.2 with t | t
              · exact Or.inl (by omega)
              · by_cases u : dz r (lo + d) = dz r p
                · exact Or.inr ⟨u, by omega⟩
                · exact Or.inl (by omega)
            · subst w; exact ⟨by omega, Nat.le_refl _, Or.inr ⟨rfl, Nat.le_refl _⟩⟩
          · rw [if_neg (fun w => y (hd2.mp w))]
            refine ⟨l, lo + d, q, rfl, (hS _).mpr (Or.inl e3), (hS _).mpr (Or.inr rfl), (hS _).mpr (Or.inl e5), fun p hp => ?_⟩
            rcases (hS p).mp hp with w | w
            · have w8 := e6 p w
              have w1 := w.1
              exact ⟨w8.1, by omega, w8.2.2⟩
            · subst w; exact ⟨by omega, Nat.le_refl _, Or.inl (by omega)⟩
    · have hS : ∀ p, Sx V R lo (d + 1) X Y p ↔ Sx V R lo d X Y p := by
        intro p
        constructor
        · rintro ⟨⟨h1, h2⟩, h3⟩
          by_cases e : p = lo + d
          · subst e; exact absurd h3 h
          · exact ⟨⟨h1, by omega⟩, h3⟩
        · rintro ⟨⟨h1, h2⟩, h3⟩
          exact ⟨⟨h1, by omega⟩, h3⟩
      rw [if_neg h, cn_f (P := fun p => V p = X ∧ ab (R p) = Y) h, cn_f (P := fun p => (V p = X ∧ ab (R p) = Y) ∧ 0 < R p) (fun w => h w.1), cn_f (P := fun p => (V p = X ∧ ab (R p) = Y) ∧ R p < 0) (fun w => h w.1)]
      refine ⟨i1, i2, i3, ?_⟩
      rcases i4 with ⟨e1, e2⟩ | ⟨l, hh, q, e2, e3, e4, e5, e6⟩
      · exact Or.inl ⟨fun p hp => e1 p ((hS p).mp hp), e2⟩
      · exact Or.inr ⟨l, hh, q, e2, (hS _).mpr e3, (hS _).mpr e4, (hS _).mpr e5, fun p hp => e6 p ((hS p).mp hp)⟩
/-- both come to one price -/
theorem fp3_dcd (hr : r < 1000000) (hlo : lo + D < 1000000) (hab : ∀ p, lo ≤ p → p < lo + D → ab (R p) < 1000000) (h : CI V R lo r D g) :
    (fp3 V R lo D (nI r)).1 = dcd g 0 ∧ (fp3 V R lo D (nI r)).2.1 = dcd g 3 ∧ (fp3 V R lo D (nI r)).2.2 = dcd g 4 ∧ dcd g 1 = g 1 ∧ (g 1 = 0 ∧ (fp3 V R lo D (nI r)).1 = -1 ∧ dcd g 2 = 0 ∨ g 1 ≠ 0 ∧ ∃ q, lo ≤ q ∧ q < lo + D ∧ (fp3 V R lo D (nI r)).1 = nI q ∧ V q = g 1 ∧ R q = dcd g 2) := by
  obtain ⟨⟨h5, g1n⟩, hle, hcase⟩ := h
  obtain ⟨m1, m2, m3⟩ := mxv_sp (V := V) (lo := lo) D
  rcases hcase with ⟨c1, c2, c3⟩ | ⟨c1, c2, c3, c4⟩
  · have hm : mxv V lo D = 0 := by
      rcases m3 with q | ⟨p, p1, p2, p3⟩
      · exact q
      · refine Int32.le_antisymm ?_ m1
        rw [← p3, ← c1]
        exact hle p p1 p2
    rw [fp3, if_pos hm, dcd_0 c1]
    exact ⟨rfl, rfl, c2.symm, rfl, Or.inl ⟨c1, rfl, rfl⟩⟩
  · obtain ⟨n6, ⟨l, hh, q, e1, e2, e3, e4, e5, e6, e7, e8⟩, a12, b13⟩ := c4
    have hX : mxv V lo D = g 1 := by
      refine Int32.le_antisymm ?_ ?_
      · rcases m3 with w | ⟨p, p1, p2, p3⟩
        · rw [w]; exact g1n
        · rw [← p3]; exact hle p p1 p2
      · rw [← e5.2.1]
        exact m2 l e5.1.1 e5.1.2
    have hm : ¬ mxv V lo D = 0 := by rw [hX]; exact c1
    obtain ⟨s1, s2, s3⟩ := sl2_sp (V := V) (X := g 1) hab D (Nat.le_refl _)
    have hcp : 1 ≤ cn (fun p => V p = g 1) lo D := cn_ps D e5.1.1 e5.1.2 e5.2.1
    obtain ⟨⟨y, y1, y2, y3, y4⟩, pl, pl1, pl2, pl3, pl4⟩ := s3.resolve_left (fun w => by omega)
    have hY : (sl2 V R lo (g 1) D).2.2 = g 7 := by
      refine Int32.le_antisymm ?_ ?_
      · rw [← e5.2.2]; exact s2 l e5.1.1 e5.1.2 e5.2.1
      · rw [← y4]; exact c3 y y1 y2 y3
    obtain ⟨p1, p2, p3, p4⟩ := pr6_sp (V := V) (R := R) (X := g 1) (Y := g 7) hr hlo D (Nat.le_refl _)
    obtain ⟨l', h', q', f2, f3, f4, f5, f6⟩ := p4.resolve_left (fun w => w.1 l e5)
    have hcS := cn_le (P := fun p => V p = g 1 ∧ ab (R p) = g 7) (lo := lo) D
    have hcSp : 1 ≤ cn (fun p => V p = g 1 ∧ ab (R p) = g 7) lo D := cn_ps D e5.1.1 e5.1.2 e5.2
    have el : l' = l := by have := e8 l' f3; have := f6 l e5; omega
    have eh : h' = hh := by have := e8 h' f4; have := f6 hh e6; omega
    have eq : q' = q := by
      have w1 := (e8 q' f5).2.2
      have w2 := (f6 q e7).2.2
      omega
    subst el; subst eh; subst eq
    have sb1 := cn_sub (P := fun p => V p = g 1 ∧ ab (R p) = g 7) (Q := fun p => (V p = g 1 ∧ ab (R p) = g 7) ∧ 0 < R p) (lo := lo) D (fun p _ _ w => w.1)
    have sb2 := cn_sub (P := fun p => V p = g 1 ∧ ab (R p) = g 7) (Q := fun p => (V p = g 1 ∧ ab (R p) = g 7) ∧ R p < 0) (lo := lo) D (fun p _ _ w => w.1)
    have A : (pr6 V R lo (g 1) (g 7) (nI r) D).2.1 = (pr6 V R lo (g 1) (g 7) (nI r) D).1 ↔ g 12 ≠ 0 := by
      rw [p1, p2, nI_eq (by omega) (by omega), sb1.2, a12]
      exact ⟨fun w p hp => (w p hp.1.1 hp.1.2 hp.2).2, fun w p h1 h2 h3 => ⟨h3, w p ⟨⟨h1, h2⟩, h3⟩⟩⟩
    have B : (pr6 V R lo (g 1) (g 7) (nI r) D).2.2.1 = (pr6 V R lo (g 1) (g 7) (nI r) D).1 ↔ g 13 ≠ 0 := by
      rw [p1, p3, nI_eq (by omega) (by omega), sb2.2, b13]
      exact ⟨fun w p hp => (w p hp.1.1 hp.1.2 hp.2).2, fun w p h1 h2 h3 => ⟨h3, w p ⟨⟨h1, h2⟩, h3⟩⟩⟩
    have N1 : (pr6 V R lo (g 1) (g 7) (nI r) D).1 = g 6 := by rw [p1, n6]
    have one : g 6 = 1 → l' = q' ∧ h' = q' := by
      intro w
      rw [n6] at w
      have w2 : cn (fun p => V p = g 1 ∧ ab (R p) = g 7) lo D = 1 := (nI_eq (b := 1) (by omega) (by omega)).mp w
      have two : ∀ x y, x < y → Sx V R lo D (g 1) (g 7) x → Sx V R lo D (g 1) (g 7) y → 2 ≤ cn (fun p => V p = g 1 ∧ ab (R p) = g 7) lo D := by
        intro x y hxy hx hy
        have ey : D = (y - lo) + (D - (y - lo)) := by have := hy.1; omega
        rw [ey, cn_app]
        have t1 := cn_ps (P := fun p => V p = g 1 ∧ ab (R p) = g 7) (lo := lo) (p := x) (y - lo) hx.1.1 (by have := hx.1; omega) hx.2
        have t2 := cn_ps (P := fun p => V p = g 1 ∧ ab (R p) = g 7) (lo := lo + (y - lo)) (p := y) (D - (y - lo)) (by have := hy.1; omega) (by have := hy.1; omega) hy.2
        omega
      constructor
      · by_cases u : l' = q'
        · exact u
        · have := (e8 q' e7).1
          have := two l' q' (by omega) e5 e7
          omega
      · by_cases u : h' = q'
        · exact u
        · have := (e8 q' e7).2.1
          have := two q' h' (by omega) e7 e6
          omega
    have Q1 : ppr (pr6 V R lo (g 1) (g 7) (nI r) D) = dcd g 0 := by
      rw [ppr, dcd_1 c1, N1]
      rw [N1] at A B
      show (if g 6 = 1 ∨ (pr6 V R lo (g 1) (g 7) (nI r) D).2.1 = g 6 then (pr6 V R lo (g 1) (g 7) (nI r) D).2.2.2.2.1 else if (pr6 V R lo (g 1) (g 7) (nI r) D).2.2.1 = g 6 then (pr6 V R lo (g 1) (g 7) (nI r) D).2.2.2.1 else (pr6 V R lo (g 1) (g 7) (nI r) D).2.2.2.2.2) = (if g 6 = 1 ∨ ¬ (g 12 ≠ 0 ∨ g 13 ≠ 0) then g 10 else if g 12 ≠ 0 then g 9 else g 8)
      rw [f2, e1, e2, e3]
      by_cases w1 : g 6 = 1
      · rw [if_pos (Or.inl w1), if_pos (Or.inl w1), (one w1).2]
      · by_cases wa : g 12 ≠ 0
        · rw [if_pos (Or.inr (A.mpr wa)), if_neg (fun z => z.elim w1 (fun y => y (Or.inl wa))), if_pos wa]
        · by_cases wb : g 13 ≠ 0
          · rw [if_neg (fun z => z.elim w1 (fun y => wa (A.mp y))), if_pos (B.mpr wb), if_neg (fun z => z.elim w1 (fun y => y (Or.inr wb))), if_neg wa]
          · rw [if_neg (fun z => z.elim w1 (fun y => wa (A.mp y))), if_neg (fun z => wb (B.mp z)), if_pos (Or.inr (fun z => z.elim wa wb))]
    have Q3 : ¬ g 4 = 1 → pky (pr6 V R lo (g 1) (g 7) (nI r) D) = dcd g 3 := by
      intro w4
      rw [pky, dcd_1 c1, N1]
      rw [N1] at A B
      show (if g 6 = 1 then (1 : Int32) else if (pr6 V R lo (g 1) (g 7) (nI r) D).2.1 = g 6 ∨ (pr6 V R lo (g 1) (g 7) (nI r) D).2.2.1 = g 6 then 2 else 3) = (if g 4 = 1 then 0 else if g 6 = 1 then 1 else if g 12 ≠ 0 ∨ g 13 ≠ 0 then 2 else 3)
      rw [if_neg w4]
      by_cases w1 : g 6 = 1
      · rw [if_pos w1, if_pos w1]
      · rw [if_neg w1, if_neg w1]
        by_cases w2 : g 12 ≠ 0 ∨ g 13 ≠ 0
        · rw [if_pos w2, if_pos (w2.elim (fun y => Or.inl (A.mpr y)) (fun y => Or.inr (B.mpr y)))]
        · rw [if_neg w2, if_neg (fun z => w2 (z.elim (fun y => Or.inl (A.mp y)) (fun y => Or.inr (B.mp y))))]
    have hc4 := cn_le (P := fun p => V p = g 1) (lo := lo) D
    have g40 : dcd g 4 = g 4 := by rw [dcd_1 c1]; rfl
    have g10 : dcd g 1 = g 1 := by rw [dcd_1 c1]; rfl
    -- the rest at the price
    have hab0 : ∀ x : Int32, 0 < x → ab x = x := fun x hx => by rw [ab, if_pos (Int32.le_of_lt hx)]
    have habn : ∀ x : Int32, x < 0 → ab x = -x := fun x hx => by rw [ab, if_neg (Int32.not_le.mpr hx), Int32.zero_sub]
    have fin : ∃ q, lo ≤ q ∧ q < lo + D ∧ dcd g 0 = nI q ∧ V q = g 1 ∧ R q = dcd g 2 := by
      rw [dcd_1 c1]
      show ∃ q, lo ≤ q ∧ q < lo + D ∧ (if g 6 = 1 ∨ ¬ (g 12 ≠ 0 ∨ g 13 ≠ 0) then g 10 else if g 12 ≠ 0 then g 9 else g 8) = nI q ∧ V q = g 1 ∧ R q = (if g 6 = 1 ∨ ¬ (g 12 ≠ 0 ∨ g 13 ≠ 0) then g 11 else if g 12 ≠ 0 then g 7 else -g 7)
      by_cases w1 : g 6 = 1 ∨ ¬ (g 12 ≠ 0 ∨ g 13 ≠ 0)
      · rw [if_pos w1, if_pos w1]
        exact ⟨q', e7.1.1, e7.1.2, e3, e7.2.1, e4.symm⟩
      · rw [if_neg w1, if_neg w1]
        by_cases wa : g 12 ≠ 0
        · rw [if_pos wa, if_pos wa]
          refine ⟨h', e6.1.1, e6.1.2, e2, e6.2.1, ?_⟩
          rw [← e6.2.2, hab0 _ (a12.mp wa h' e6)]
        · rw [if_neg wa, if_neg wa]
          have wb : g 13 ≠ 0 := fun z => w1 (Or.inr (fun y => y.elim wa (fun u => u z)))
          refine ⟨l', e5.1.1, e5.1.2, e1, e5.2.1, ?_⟩
          rw [← e5.2.2, habn _ (b13.mp wb l' e5), Int32.neg_neg]
    rw [fp3, if_neg hm, hX, hY, s1, g40, c2, g10]
    by_cases w4 : cn (fun p => V p = g 1) lo D = 1
    · have hnl : ¬ 1 < nI (cn (fun p => V p = g 1) lo D) := by rw [w4]; decide
      rw [if_neg hnl]
      have g41 : g 4 = 1 := by rw [c2, w4]; rfl
      -- one price alone
      have uniq : ∀ x y, Sx V R lo D (g 1) (ab (R x)) x → (lo ≤ y ∧ y < lo + D) ∧ V y = g 1 → x = y := by
        intro x y hx hy
        by_cases u : x = y
        · exact u
        · have two : ∀ x y, x < y → (lo ≤ x ∧ x < lo + D) ∧ V x = g 1 → (lo ≤ y ∧ y < lo + D) ∧ V y = g 1 → 2 ≤ cn (fun p => V p = g 1) lo D := by
            intro x y hxy hx hy
            have ey : D = (y - lo) + (D - (y - lo)) := by omega
            rw [ey, cn_app]
            have t1 := cn_ps (P := fun p => V p = g 1) (lo := lo) (p := x) (y - lo) hx.1.1 (by omega) hx.2
            have t2 := cn_ps (P := fun p => V p = g 1) (lo := lo + (y - lo)) (p := y) (D - (y - lo)) (by omega) (by omega) hy.2
            omega
          by_cases u2 : x < y
          · have := two x y u2 ⟨hx.1, hx.2.1⟩ hy; omega
          · have := two y x (by omega) hy ⟨hx.1, hx.2.1⟩; omega
      obtain ⟨z, z1, z2, z3, z4, z5⟩ := fin
      have epl : pl = z := uniq pl z ⟨⟨pl1, pl2⟩, pl3, rfl⟩ ⟨⟨z1, z2⟩, z4⟩
      have k3 : dcd g 3 = 0 := by
        rw [dcd_1 c1]
        show (if g 4 = 1 then (0 : Int32) else _) = 0
        rw [if_pos g41]
      refine ⟨?_, k3.symm, rfl, rfl, Or.inr ⟨c1, z, z1, z2, ?_, z4, z5⟩⟩
      · show (sl2 V R lo (g 1) D).2.1 = dcd g 0
        rw [pl4, epl, z3]
      · show (sl2 V R lo (g 1) D).2.1 = nI z
        rw [pl4, epl]
    · have hnl : 1 < nI (cn (fun p => V p = g 1) lo D) := nI_lt (a := 1) (by omega) (by omega)
      have g41 : ¬ g 4 = 1 := by rw [c2]; exact fun z => w4 ((nI_eq (b := 1) (by omega) (by omega)).mp z)
      rw [if_pos hnl]
      obtain ⟨z, z1, z2, z3, z4, z5⟩ := fin
      exact ⟨Q1, Q3 g41, rfl, rfl, Or.inr ⟨c1, z, z1, z2, Q1.trans z3, z4, z5⟩⟩
end PRI
