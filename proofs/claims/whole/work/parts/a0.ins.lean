/-! holding: rows in order -/
def SO (f : Nat → Int32) (c : Nat) : Prop := ∀ i j, i < j → j < c → f i < f j
def IN (f : Nat → Int32) (c : Nat) (x : Int32) : Prop := ∃ i, i < c ∧ f i = x
theorem IN_s {f : Nat → Int32} {c : Nat} {x : Int32} : IN f (c + 1) x ↔ IN f c x ∨ x = f c := by
  constructor
  · rintro ⟨i, h1, h2⟩
    by_cases e : i = c
    · rw [e] at h2; exact Or.inr h2.symm
    · exact Or.inl ⟨i, by omega, h2⟩
  · rintro (⟨i, h1, h2⟩ | h)
    · exact ⟨i, by omega, h2⟩
    · exact ⟨c, by omega, h.symm⟩
theorem IN_u {f : Nat → Int32} {c k : Nat} {x y : Int32} (h : c ≤ k) : IN (upd f k y) c x ↔ IN f c x := by
  constructor
  · rintro ⟨i, h1, h2⟩
    rw [pk_un (by omega)] at h2
    exact ⟨i, h1, h2⟩
  · rintro ⟨i, h1, h2⟩
    exact ⟨i, h1, by rw [pk_un (by omega)]; exact h2⟩
theorem SO_u {f : Nat → Int32} {c k : Nat} {y : Int32} (h : c ≤ k) (hs : SO f c) : SO (upd f k y) c := fun i j h1 h2 => by
  rw [pk_un (by omega), pk_un (by omega)]
  exact hs i j h1 h2
theorem ins_sp {key : Int32} : ∀ (c : Nat) (f : Nat → Int32), SO f c → (∀ i, i < c → f i ≠ key) → SO (insf f c key) (c + 1) ∧ (∀ x, IN (insf f c key) (c + 1) x ↔ IN f c x ∨ x = key) ∧ (∀ j, c < j → insf f c key j = f j)
  | 0, f, _, _ => by
    rw [insf]
    refine ⟨fun i j h1 h2 => by omega, fun x => ?_, fun j hj => pk_un (by omega)⟩
    rw [IN_s, pk_us]
    exact ⟨fun h => h.elim (fun ⟨i, h1, _⟩ => by omega) Or.inr, fun h => h.elim (fun ⟨i, h1, _⟩ => by omega) Or.inr⟩
  | c + 1, f, hs, hn => by
    rw [insf]
    by_cases h : key < f c
    · rw [if_pos h]
      obtain ⟨i1, i2, i3⟩ := ins_sp c (upd f (c + 1) (f c)) (SO_u (by omega) (fun i j h1 h2 => hs i j h1 (by omega))) (fun i hi => by rw [pk_un (by omega)]; exact hn i (by omega))
      have hl : insf (upd f (c + 1) (f c)) c key (c + 1) = f c := by rw [i3 _ (by omega), pk_us]
      refine ⟨fun i j h1 h2 => ?_, fun x => ?_, fun j hj => by rw [i3 j (by omega), pk_un (by omega)]⟩
      · by_cases e : j = c + 1
        · rw [e, hl]
          rcases (i2 _).mp ⟨i, by omega, rfl⟩ with ⟨i', g1, g2⟩ | g
          · rw [← g2, pk_un (by omega)]
            exact hs i' c g1 (by omega)
          · rw [g]; exact h
        · exact i1 i j h1 (by omega)
      · rw [IN_s, i2, hl, IN_u (by omega), IN_s]
        constructor
        · rintro ((a | a) | a)
          · exact Or.inl (Or.inl a)
          · exact Or.inr a
          · exact Or.inl (Or.inr a)
        · rintro ((a | a) | a)
          · exact Or.inl (Or.inl a)
          · exact Or.inr a
          · exact Or.inl (Or.inr a)
    · rw [if_neg h]
      have hlt : f c < key := by
        rcases Int32.lt_or_eq_of_le (Int32.not_lt.mp h) with q | q
        · exact q
        · exact absurd q (hn c (by omega))
      refine ⟨fun i j h1 h2 => ?_, fun x => ?_, fun j hj => pk_un (by omega)⟩
      · by_cases e : j = c + 1
        · rw [e, pk_us, pk_un (by omega)]
          by_cases e2 : i = c
          · rw [e2]; exact hlt
          · exact Int32.lt_trans (hs i c (by omega) (by omega)) hlt
        · rw [pk_un (by omega), pk_un (by omega)]
          exact hs i j h1 (by omega)
      · rw [IN_s, pk_us, IN_u (by omega)]
/-- a slice's place: group, how near, shown, number -/
def nea (f : Nat → Int32) (o : Nat) : Nat := if f (8 * o + 1) = 0 then 0 else if f (8 * o + 0) = 0 then 999 - (f (8 * o + 3)).toNatClampNeg else (f (8 * o + 3)).toNatClampNeg
def hid (f : Nat → Int32) (o t : Nat) : Nat := if f (8 * o + 1) = 2 ∨ t = 1 then 1 else 0
def bas0 (f : Nat → Int32) (o : Nat) : Nat := if f (8 * o + 1) = 0 then 0 else (if f (8 * o + 1) = 4 then 3 else 1) * 131072
def skey (f : Nat → Int32) (o t : Nat) : Nat := bas0 f o + nea f o * 128 + hid f o t * 64 + o
def rkN (f : Nat → Int32) (o t : Nat) : Nat := (((if f (8 * o + 1) = 4 then 2 else if f (8 * o + 1) = 0 then 0 else 1) * 1000 + nea f o) * 2 + hid f o t) * 64 + o
theorem nea_le {f : Nat → Int32} {n o : Nat} (h : OW f n) (ho : o < n) : nea f o ≤ 999 := by
  have := (h.fr ho).2.2
  rw [nea]
  split
  · omega
  · split <;> omega
theorem hid_le {f : Nat → Int32} {o t : Nat} : hid f o t ≤ 1 := by rw [hid]; split <;> omega
theorem bas0_c (f : Nat → Int32) (o : Nat) : bas0 f o = 0 ∨ bas0 f o = 131072 ∨ bas0 f o = 393216 := by
  rw [bas0]
  split
  · exact Or.inl rfl
  · split
    · exact Or.inr (Or.inr rfl)
    · exact Or.inr (Or.inl rfl)
/-- both orders are one -/
theorem key_rk {f : Nat → Int32} {n o t o' t' : Nat} (h : OW f n) (hn : n ≤ 41) (ho : o < n) (ho' : o' < n) : skey f o t < skey f o' t' ↔ rkN f o t < rkN f o' t' := by
  have a1 := nea_le h ho
  have a2 := nea_le h ho'
  have b1 := hid_le (f := f) (o := o) (t := t)
  have b2 := hid_le (f := f) (o := o') (t := t')
  rw [skey, skey, rkN, rkN, bas0, bas0]
  generalize nea f o = x at *
  generalize nea f o' = x' at *
  generalize hid f o t = y at *
  generalize hid f o' t' = y' at *
  by_cases c1 : f (8 * o + 1) = 0 <;> by_cases c2 : f (8 * o' + 1) = 0 <;> by_cases c3 : f (8 * o + 1) = 4 <;> by_cases c4 : f (8 * o' + 1) = 4 <;> simp only [c1, c2, c3, c4, if_true, if_false] <;> (try (simp only [show (0 : Int32) = 4 ↔ False by decide, show (4 : Int32) = 0 ↔ False by decide, if_false])) <;> omega
theorem rk_n {f : Nat → Int32} {n o t : Nat} (h : OW f n) (hn : n ≤ 41) (ho : o < n) (ht : t < 2) : rkf f o (nI t) = nI (rkN f o t) := by
  obtain ⟨s, kd, q, pr, sh, le, ow, g, e0, e1, e2, e3, e4, e5, e6, e7, b0, b1, b2, b3, -⟩ := h o ho
  have ep : (f (8 * o + 3)).toNatClampNeg = pr := by rw [e3]; exact nI_clamp (by omega)
  have et : nI t = 1 ↔ t = 1 := nI_eq (b := 1) (by omega) (by omega)
  have hnea : (if f (8 * o + 1) = 0 then (0 : Int32) else if f (8 * o + 0) = 0 then 999 - f (8 * o + 3) else f (8 * o + 3)) = nI (nea f o) := by
    rw [nea, ep]
    by_cases c1 : f (8 * o + 1) = 0
    · rw [if_pos c1, if_pos c1]; rfl
    · rw [if_neg c1, if_neg c1]
      by_cases c2 : f (8 * o + 0) = 0
      · rw [if_pos c2, if_pos c2, e3, show (999 : Int32) = nI 999 from rfl, nI_subI (by omega)]
      · rw [if_neg c2, if_neg c2, e3]
  have hhid : (if f (8 * o + 1) = 2 ∨ nI t = 1 then (1 : Int32) else 0) = nI (hid f o t) := by
    rw [hid]
    by_cases c1 : f (8 * o + 1) = 2 ∨ t = 1
    · rw [if_pos c1, if_pos (c1.imp id et.mpr)]; rfl
    · rw [if_neg c1, if_neg (fun z => c1 (z.imp id et.mp))]; rfl
  have hgr : (if f (8 * o + 1) = 4 then (2 : Int32) else if f (8 * o + 1) = 0 then 0 else 1) = nI (if f (8 * o + 1) = 4 then 2 else if f (8 * o + 1) = 0 then 0 else 1) := by
    split
    · rfl
    · split <;> rfl
  rw [rkf, hnea, hhid, hgr, rkN, show (1000 : Int32) = nI 1000 from rfl, pk_mul, nI_add, show (2 : Int32) = nI 2 from rfl, pk_mul, nI_add, show (64 : Int32) = nI 64 from rfl, pk_mul, nI_add]
theorem ky_n {f : Nat → Int32} {n o : Nat} (h : OW f n) (hn : n ≤ 41) (ho : o < n) : ky f o = nI (bas0 f o + nea f o * 128 + o) := by
  obtain ⟨s, kd, q, pr, sh, le, ow, g, e0, e1, e2, e3, e4, e5, e6, e7, b0, b1, b2, b3, -⟩ := h o ho
  have ep : (f (8 * o + 3)).toNatClampNeg = pr := by rw [e3]; exact nI_clamp (by omega)
  have hnl := nea_le h ho
  rw [ky, kyf]
  by_cases c1 : f (8 * o + 1) = 0
  · rw [if_pos c1, bas0, if_pos c1, nea, if_pos c1]
    show nI (0 * 2 ^ 6) ||| nI o = _
    rw [nI_or (by omega) (by omega)]
  · have hnea : (if f (8 * o + 0) = 0 then 999 - f (8 * o + 3) else f (8 * o + 3)) = nI (nea f o) := by
      rw [nea, ep, if_neg c1]
      by_cases c2 : f (8 * o + 0) = 0
      · rw [if_pos c2, if_pos c2, e3, show (999 : Int32) = nI 999 from rfl, nI_subI (by omega)]
      · rw [if_neg c2, if_neg c2, e3]
    have hb : ((if f (8 * o + 1) = 4 then (262144 : Int32) else 0) ||| 131072) = nI ((if f (8 * o + 1) = 4 then 3 else 1) * 2 ^ 17) := by
      split <;> decide
    rw [if_neg c1, hnea, hb, pk_shlN _ 7 (by decide) (by omega), bas0, if_neg c1]
    have h17 : nea f o * 2 ^ 7 < 2 ^ 17 := by omega
    have hg : (if f (8 * o + 1) = 4 then 3 else 1) ≤ 3 := by split <;> omega
    rw [nI_or h17 (by omega)]
    have e2 : (if f (8 * o + 1) = 4 then 3 else 1) * 2 ^ 17 + nea f o * 2 ^ 7 = ((if f (8 * o + 1) = 4 then 3 else 1) * 2 ^ 11 + nea f o * 2) * 2 ^ 6 := by omega
    rw [e2, nI_or (by omega) (by omega)]
theorem ky_64 {f : Nat → Int32} {n o : Nat} (h : OW f n) (hn : n ≤ 41) (ho : o < n) : ky f o ||| 64 = nI (bas0 f o + nea f o * 128 + 64 + o) := by
  have hnl := nea_le h ho
  have hb := bas0_c f o
  obtain ⟨B, hB⟩ : ∃ B, bas0 f o + nea f o * 128 = B * 2 ^ 7 ∧ B < 2 ^ 13 := by
    rcases hb with q | q | q
    · exact ⟨nea f o, by omega, by omega⟩
    · exact ⟨1024 + nea f o, by omega, by omega⟩
    · exact ⟨3072 + nea f o, by omega, by omega⟩
  have e : nI o ||| 64 = nI (64 + o) := by
    have : nI (1 * 2 ^ 6) ||| nI o = nI (1 * 2 ^ 6 + o) := nI_or (by omega) (by omega)
    rw [Int32.or_comm]
    exact this
  have k1 : ky f o = nI (B * 2 ^ 7) ||| nI o := by rw [ky_n h hn ho, hB.1, nI_or (by omega) (by omega)]
  rw [k1, Int32.or_assoc, e, nI_or (by omega) (by omega), hB.1]
  congr 1
  omega
