/-! the price: stretches weighed one by one, and prices looked at three times -/
noncomputable def cn (P : Nat → Prop) (lo : Nat) : Nat → Nat
  | 0 => 0
  | d + 1 => cn P lo d + (@ite _ (P (lo + d)) (Classical.propDecidable _) 1 0)
theorem cn_t {P : Nat → Prop} {lo d : Nat} (h : P (lo + d)) : cn P lo (d + 1) = cn P lo d + 1 := by rw [cn, if_pos h]
theorem cn_f {P : Nat → Prop} {lo d : Nat} (h : ¬ P (lo + d)) : cn P lo (d + 1) = cn P lo d := by rw [cn, if_neg h]
theorem cn_le {P : Nat → Prop} {lo : Nat} : ∀ D, cn P lo D ≤ D
  | 0 => Nat.le_refl _
  | d + 1 => by
    have := cn_le (P := P) (lo := lo) d
    by_cases h : P (lo + d)
    · rw [cn_t h]; omega
    · rw [cn_f h]; omega
theorem cn_app {P : Nat → Prop} {lo D : Nat} : ∀ L, cn P lo (D + L) = cn P lo D + cn P (lo + D) L
  | 0 => by rw [cn]; rfl
  | L + 1 => by
    have ih := cn_app (P := P) (lo := lo) (D := D) L
    by_cases h : P (lo + D + L)
    · rw [cn_t h, ← Nat.add_assoc, cn_t (by rw [← Nat.add_assoc]; exact h), ih]; omega
    · rw [cn_f h, ← Nat.add_assoc, cn_f (by rw [← Nat.add_assoc]; exact h), ih]
theorem cn_cg {P Q : Nat → Prop} {lo : Nat} : ∀ D, (∀ p, lo ≤ p → p < lo + D → (P p ↔ Q p)) → cn P lo D = cn Q lo D
  | 0, _ => rfl
  | d + 1, h => by
    have ih := cn_cg (P := P) (Q := Q) (lo := lo) d (fun p h1 h2 => h p h1 (by omega))
    by_cases hp : P (lo + d)
    · rw [cn_t hp, cn_t ((h _ (by omega) (by omega)).mp hp), ih]
    · rw [cn_f hp, cn_f (fun z => hp ((h _ (by omega) (by omega)).mpr z)), ih]
theorem cn_no {P : Nat → Prop} {lo : Nat} : ∀ D, (∀ p, lo ≤ p → p < lo + D → ¬ P p) → cn P lo D = 0
  | 0, _ => rfl
  | d + 1, h => by rw [cn_f (h _ (by omega) (by omega)), cn_no d (fun p h1 h2 => h p h1 (by omega))]
theorem cn_ya {P : Nat → Prop} {lo : Nat} : ∀ D, (∀ p, lo ≤ p → p < lo + D → P p) → cn P lo D = D
  | 0, _ => rfl
  | d + 1, h => by rw [cn_t (h _ (by omega) (by omega)), cn_ya d (fun p h1 h2 => h p h1 (by omega))]
theorem cn_ps {P : Nat → Prop} {lo p : Nat} : ∀ D, lo ≤ p → p < lo + D → P p → 1 ≤ cn P lo D
  | 0, h1, h2, _ => by omega
  | d + 1, h1, h2, h => by
    by_cases e : p = lo + d
    · rw [cn_t (by rw [← e]; exact h)]; omega
    · have := cn_ps (P := P) d h1 (by omega) h
      by_cases hd : P (lo + d)
      · rw [cn_t hd]; omega
      · rw [cn_f hd]; exact this
theorem cn_sub {P Q : Nat → Prop} {lo : Nat} : ∀ D, (∀ p, lo ≤ p → p < lo + D → Q p → P p) → cn Q lo D ≤ cn P lo D ∧ (cn Q lo D = cn P lo D ↔ ∀ p, lo ≤ p → p < lo + D → P p → Q p)
  | 0, _ => ⟨Nat.le_refl _, fun _ p h1 h2 => by omega, fun _ => rfl⟩
  | d + 1, h => by
    obtain ⟨i1, i2⟩ := cn_sub (P := P) (Q := Q) (lo := lo) d (fun p h1 h2 => h p h1 (by omega))
    by_cases hq : Q (lo + d)
    · have hp := h _ (by omega) (by omega) hq
      rw [cn_t hq, cn_t hp]
      refine ⟨by omega, fun e p h1 h2 hp2 => ?_, fun e => ?_⟩
      · by_cases z : p = lo + d
        · rw [z]; exact hq
        · exact i2.mp (by omega) p h1 (by omega) hp2
      · have := i2.mpr (fun p h1 h2 => e p h1 (by omega))
        omega
    · rw [cn_f hq]
      by_cases hp : P (lo + d)
      · rw [cn_t hp]
        exact ⟨by omega, fun e => by omega, fun e => absurd (e _ (by omega) (by omega) hp) hq⟩
      · rw [cn_f hp]
        refine ⟨i1, fun e p h1 h2 hp2 => ?_, fun e => i2.mpr (fun p h1 h2 => e p h1 (by omega))⟩
        by_cases z : p = lo + d
        · rw [z] at hp2; exact absurd hp2 hp
        · exact i2.mp e p h1 (by omega) hp2
def dz (r p : Nat) : Nat := if r ≤ p then p - r else r - p
theorem ab_dz {r p : Nat} (hr : r < 1000000) (hp : p < 1000000) : ab (nI p - nI r) = nI (dz r p) := by
  rw [dz, ab]
  by_cases h : r ≤ p
  · rw [if_pos h, nI_subI h, if_pos (nI_pos' (by omega))]
  · have e : nI p - nI r = -nI (r - p) := by
      rw [← nI_subI (show p ≤ r by omega), Int32.neg_sub]
    have hn : ¬ 0 ≤ -nI (r - p) := by
      rw [nI_iI, iI_neg]
      intro z
      have := (iI_le (a := 0) (by omega) (by omega) (by omega) (by omega)).mp z
      omega
    rw [if_neg h, e, if_neg hn, nI_iI, iI_neg, show (0 : Int32) = iI 0 from rfl, iI_sub, iI_sub]
    congr 1
    omega
abbrev Sx (V R : Nat → Int32) (lo D : Nat) (X Y : Int32) (p : Nat) : Prop := (lo ≤ p ∧ p < lo + D) ∧ V p = X ∧ ab (R p) = Y
def CS (V R : Nat → Int32) (lo r D : Nat) (X Y n6 l8 h9 q10 z11 a12 b13 : Int32) : Prop := n6 = nI (cn (fun p => V p = X ∧ ab (R p) = Y) lo D) ∧ (∃ l h q, l8 = nI l ∧ h9 = nI h ∧ q10 = nI q ∧ z11 = R q ∧ Sx V R lo D X Y l ∧ Sx V R lo D X Y h ∧ Sx V R lo D X Y q ∧ ∀ p, Sx V R lo D X Y p → l ≤ p ∧ p ≤ h ∧ (dz r q < dz r p ∨ dz r q = dz r p ∧ p ≤ q)) ∧ (a12 ≠ 0 ↔ ∀ p, Sx V R lo D X Y p → 0 < R p) ∧ (b13 ≠ 0 ↔ ∀ p, Sx V R lo D X Y p → R p < 0)
def CI (V R : Nat → Int32) (lo r D : Nat) (g : Nat → Int32) : Prop := g 5 = nI r ∧ (∀ p, lo ≤ p → p < lo + D → V p ≤ g 1) ∧ (g 1 = 0 ∧ g 4 = 0 ∧ g 6 = 0 ∨ g 1 ≠ 0 ∧ g 4 = nI (cn (fun p => V p = g 1) lo D) ∧ (∀ p, lo ≤ p → p < lo + D → V p = g 1 → g 7 ≤ ab (R p)) ∧ CS V R lo r D (g 1) (g 7) (g 6) (g 8) (g 9) (g 10) (g 11) (g 12) (g 13))
/-- the nearest of a stretch -/
theorem dz_cl {r a b p : Nat} (h1 : a ≤ p) (h2 : p ≤ b) : dz r (max a (min b r)) < dz r p ∨ dz r (max a (min b r)) = dz r p ∧ p = max a (min b r) := by
  rw [dz, dz]
  split <;> split <;> omega
theorem mx_n {a b : Nat} (ha : a < 2 ^ 31) (hb : b < 2 ^ 31) : mx (nI a) (nI b) = nI (max a b) := by
  rw [mx]
  by_cases h : a < b
  · rw [if_pos (nI_lt h hb), Nat.max_eq_right (by omega)]
  · rw [if_neg (nI_nlt (by omega) ha), Nat.max_eq_left (by omega)]
section PRI
variable {V R : Nat → Int32} {lo r D L a b : Nat} {g : Nat → Int32} {v z : Int32}
/-- all that a new stretch makes anew -/
theorem cs_new (hL : 1 ≤ L) (ha : a = lo + D) (hb : b + 1 = a + L) (hv : ∀ p, a ≤ p → p ≤ b → V p = v) (hz : ∀ p, a ≤ p → p ≤ b → R p = z) (hno : ∀ p, lo ≤ p → p < lo + D → ¬ (V p = v ∧ ab (R p) = ab z)) : CS V R lo r (D + L) v (ab z) (nI L) (nI a) (nI b) (nI (max a (min b r))) z (if 0 < z then 1 else 0) (if z < 0 then 1 else 0) := by
  have hS : ∀ p, Sx V R lo (D + L) v (ab z) p ↔ a ≤ p ∧ p ≤ b := by
    intro p
    constructor
    · rintro ⟨⟨h1, h2⟩, h3⟩
      by_cases q : p < lo + D
      · exact absurd h3 (hno p h1 q)
      · exact ⟨by omega, by omega⟩
    · rintro ⟨h1, h2⟩
      exact ⟨⟨by omega, by omega⟩, hv p h1 h2, by rw [hz p h1 h2]⟩
  have hm : a ≤ max a (min b r) ∧ max a (min b r) ≤ b := by omega
  refine ⟨?_, ⟨a, b, max a (min b r), rfl, rfl, rfl, (hz _ hm.1 hm.2).symm, (hS a).mpr (by omega), (hS b).mpr (by omega), (hS _).mpr hm, fun p hp => ?_⟩, ?_, ?_⟩
  · rw [cn_app, cn_no D hno, cn_ya L (fun p h1 h2 => ⟨hv p (by omega) (by omega), by rw [hz p (by omega) (by omega)]⟩), Nat.zero_add]
  · have := (hS p).mp hp
    refine ⟨this.1, this.2, ?_⟩
    rcases dz_cl (r := r) this.1 this.2 with q | q
    · exact Or.inl q
    · exact Or.inr ⟨q.1, by omega⟩
  · by_cases q : 0 < z
    · rw [if_pos q]
      exact ⟨fun _ p hp => by rw [hz p ((hS p).mp hp).1 ((hS p).mp hp).2]; exact q, fun _ => by decide⟩
    · rw [if_neg q]
      exact ⟨fun y => absurd rfl y, fun y => absurd (by have := y a ((hS a).mpr (by omega)); rw [hz a (by omega) (by omega)] at this; exact this) q⟩
  · by_cases q : z < 0
    · rw [if_pos q]
      exact ⟨fun _ p hp => by rw [hz p ((hS p).mp hp).1 ((hS p).mp hp).2]; exact q, fun _ => by decide⟩
    · rw [if_neg q]
      exact ⟨fun y => absurd rfl y, fun y => absurd (by have := y a ((hS a).mpr (by omega)); rw [hz a (by omega) (by omega)] at this; exact this) q⟩
/-- a stretch that is no better than what is there -/
theorem cs_old {X Y n6 l8 h9 q10 z11 a12 b13 : Int32} (ha : a = lo + D) (hb : b + 1 = a + L) (hno : ∀ p, a ≤ p → p ≤ b → ¬ (V p = X ∧ ab (R p) = Y)) (h : CS V R lo r D X Y n6 l8 h9 q10 z11 a12 b13) : CS V R lo r (D + L) X Y n6 l8 h9 q10 z11 a12 b13 := by
  have hS : ∀ p, Sx V R lo (D + L) X Y p ↔ Sx V R lo D X Y p := by
    intro p
    constructor
    · rintro ⟨⟨h1, h2⟩, h3⟩
      by_cases q : p < lo + D
      · exact ⟨⟨h1, q⟩, h3⟩
      · exact absurd h3 (hno p (by omega) (by omega))
    · rintro ⟨⟨h1, h2⟩, h3⟩
      exact ⟨⟨h1, by omega⟩, h3⟩
  obtain ⟨h1, ⟨l, hh, q, e1, e2, e3, e4, e5, e6, e7, e8⟩, h3, h4⟩ := h
  refine ⟨?_, ⟨l, hh, q, e1, e2, e3, e4, (hS l).mpr e5, (hS hh).mpr e6, (hS q).mpr e7, fun p hp => e8 p ((hS p).mp hp)⟩, ?_, ?_⟩
  · rw [cn_app, cn_no L (fun p h1 h2 => hno p (by omega) (by omega)), Nat.add_zero]
    exact h1
  · rw [h3]
    exact ⟨fun y p hp => y p ((hS p).mp hp), fun y p hp => y p ((hS p).mpr hp)⟩
  · rw [h4]
    exact ⟨fun y p hp => y p ((hS p).mp hp), fun y p hp => y p ((hS p).mpr hp)⟩
/-- a stretch that is as good -/
theorem cs_more {n6 l8 h9 q10 z11 a12 b13 : Int32} (hr : r < 1000000) (hbb : b < 1000000) (hL : 1 ≤ L) (ha : a = lo + D) (hb : b + 1 = a + L) (hv : ∀ p, a ≤ p → p ≤ b → V p = v) (hz : ∀ p, a ≤ p → p ≤ b → R p = z) (h : CS V R lo r D v (ab z) n6 l8 h9 q10 z11 a12 b13) :
    CS V R lo r (D + L) v (ab z) (n6 + nI L) l8 (nI b) (if ab (nI (max a (min b r)) - nI r) ≤ ab (q10 - nI r) then nI (max a (min b r)) else q10) (if ab (nI (max a (min b r)) - nI r) ≤ ab (q10 - nI r) then z else z11) (if a12 ≠ 0 ∧ 0 < z then 1 else 0) (if b13 ≠ 0 ∧ z < 0 then 1 else 0) := by
  have hS : ∀ p, Sx V R lo (D + L) v (ab z) p ↔ Sx V R lo D v (ab z) p ∨ a ≤ p ∧ p ≤ b := by
    intro p
    constructor
    · rintro ⟨⟨h1, h2⟩, h3⟩
      by_cases q : p < lo + D
      · exact Or.inl ⟨⟨h1, q⟩, h3⟩
      · exact Or.inr ⟨by omega, by omega⟩
    · rintro (⟨⟨h1, h2⟩, h3⟩ | ⟨h1, h2⟩)
      · exact ⟨⟨h1, by omega⟩, h3⟩
      · exact ⟨⟨by omega, by omega⟩, hv p h1 h2, by rw [hz p h1 h2]⟩
  have hm : a ≤ max a (min b r) ∧ max a (min b r) ≤ b := by omega
  have hcl : ∀ p, a ≤ p → p ≤ b → dz r (max a (min b r)) < dz r p ∨ dz r (max a (min b r)) = dz r p ∧ p = max a (min b r) := fun p h1 h2 => dz_cl h1 h2
  generalize max a (min b r) = mm at hm hcl ⊢
  obtain ⟨h1, ⟨l, hh, q, e1, e2, e3, e4, e5, e6, e7, e8⟩, h3, h4⟩ := h
  have hq : q < lo + D := e7.1.2
  have hd : ab (nI mm - nI r) ≤ ab (q10 - nI r) ↔ dz r mm ≤ dz r q := by
    rw [e3, ab_dz hr (by omega), ab_dz hr (by omega)]
    have b1 : dz r mm < 1000000 := by rw [dz]; split <;> omega
    have b2 : dz r q < 1000000 := by rw [dz]; split <;> omega
    exact nI_leI (by omega) (by omega)
  have F3 : (if a12 ≠ 0 ∧ 0 < z then (1 : Int32) else 0) ≠ 0 ↔ ∀ p, Sx V R lo (D + L) v (ab z) p → 0 < R p := by
    by_cases y : a12 ≠ 0 ∧ 0 < z
    · rw [if_pos y]
      refine ⟨fun _ p hp => ?_, fun _ => by decide⟩
      rcases (hS p).mp hp with w | w
      · exact h3.mp y.1 p w
      · rw [hz p w.1 w.2]; exact y.2
    · rw [if_neg y]
      refine ⟨fun w => absurd rfl w, fun w => absurd ⟨h3.mpr (fun p hp => w p ((hS p).mpr (Or.inl hp))), ?_⟩ y⟩
      have := w a ((hS a).mpr (Or.inr (by omega)))
      rw [hz a (by omega) (by omega)] at this
      exact this
  have F4 : (if b13 ≠ 0 ∧ z < 0 then (1 : Int32) else 0) ≠ 0 ↔ ∀ p, Sx V R lo (D + L) v (ab z) p → R p < 0 := by
    by_cases y : b13 ≠ 0 ∧ z < 0
    · rw [if_pos y]
      refine ⟨fun _ p hp => ?_, fun _ => by decide⟩
      rcases (hS p).mp hp with w | w
      · exact h4.mp y.1 p w
      · rw [hz p w.1 w.2]; exact y.2
    · rw [if_neg y]
      refine ⟨fun w => absurd rfl w, fun w => absurd ⟨h4.mpr (fun p hp => w p ((hS p).mpr (Or.inl hp))), ?_⟩ y⟩
      have := w a ((hS a).mpr (Or.inr (by omega)))
      rw [hz a (by omega) (by omega)] at this
      exact this
  have hbS : Sx V R lo (D + L) v (ab z) b := (hS b).mpr (Or.inr (by omega))
  have hlS : Sx V R lo (D + L) v (ab z) l := (hS l).mpr (Or.inl e5)
  refine ⟨?_, ?_, F3, F4⟩
  · rw [cn_app, cn_ya L (fun p h1 h2 => ⟨hv p (by omega) (by omega), by rw [hz p (by omega) (by omega)]⟩), ← nI_add, ← h1]
  · by_cases y : dz r mm ≤ dz r q
    · rw [if_pos (hd.mpr y), if_pos (hd.mpr y)]
      refine ⟨l, b, mm, e1, rfl, rfl, (hz mm hm.1 hm.2).symm, hlS, hbS, (hS mm).mpr (Or.inr hm), fun p hp => ?_⟩
      rcases (hS p).mp hp with w | w
      · have w8 := e8 p w
        have w1 := w.1
        refine ⟨w8.1, by omega, ?_⟩
        rcases w8.2.2 with t | t
        · exact Or.inl (by omega)
        · by_cases u : dz r mm = dz r p
          · exact Or.inr ⟨u, by omega⟩
          · exact Or.inl (by omega)
      · have w5 := e5.1
        refine ⟨by omega, w.2, ?_⟩
        rcases hcl p w.1 w.2 with t | t
        · exact Or.inl t
        · exact Or.inr ⟨t.1, by omega⟩
    · rw [if_neg (fun w => y (hd.mp w)), if_neg (fun w => y (hd.mp w))]
      refine ⟨l, b, q, e1, rfl, e3, e4, hlS, hbS, (hS q).mpr (Or.inl e7), fun p hp => ?_⟩
      rcases (hS p).mp hp with w | w
      · have w8 := e8 p w
        have w1 := w.1
        exact ⟨w8.1, by omega, w8.2.2⟩
      · have w5 := e5.1
        refine ⟨by omega, w.2, Or.inl ?_⟩
        rcases hcl p w.1 w.2 with t | t
        · omega
        · omega
end PRI
