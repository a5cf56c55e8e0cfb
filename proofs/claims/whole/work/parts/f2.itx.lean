/-! what a text tells is in order -/
theorem nmb_in {c : Nat → Nat} {n p lo hi w p' : Nat} (h : nmb c n p lo hi = .inr (w, p')) : lo ≤ w ∧ w ≤ hi := by
  rw [nmb] at h
  split at h
  · split at h
    · rename_i z
      have := Sum.inr.inj h
      rw [← (Prod.mk.inj this).1]
      exact z
    · cases h
  · cases h
abbrev ol9 (s : Ps) (p sd kd q pr sh le ow : Nat) : Ps := (p, add8 s.2.1 s.2.2.1 (nI sd) (nI kd) (nI q) (nI pr) (nI sh) (nI le) (nI ow), s.2.2.1 + 1, s.2.2.2)
section ITX
variable {c : Nat → Nat} {n p sd kd q pr sh le : Nat} {s s' : Ps}
theorem ol5_in (h : ol5 c n s p sd kd q pr sh le = .inr s') : ∃ p' ow, ow ≤ 7 ∧ s' = ol9 s p' sd kd q pr sh le ow := by
  rw [ol5] at h
  split at h
  · cases hq : nmb c n (tkE c n p) 0 7 with
    | inl F => rw [hq] at h; cases h
    | inr w =>
      obtain ⟨w, p'⟩ := w
      rw [hq] at h
      exact ⟨p', w, (nmb_in hq).2, (Sum.inr.inj h).symm⟩
  · exact ⟨p, 0, by omega, (Sum.inr.inj h).symm⟩
theorem ol4_in (h : ol4 c n s p sd kd q pr sh = .inr s') : ∃ p' le ow, le ≤ q ∧ ow ≤ 7 ∧ s' = ol9 s p' sd kd q pr sh le ow := by
  rw [ol4] at h
  split at h
  · cases hq : nmb c n (tkE c n p) 0 q with
    | inl F => rw [hq] at h; cases h
    | inr w =>
      obtain ⟨w, p'⟩ := w
      rw [hq] at h
      obtain ⟨p2, ow, h1, h2⟩ := ol5_in h
      exact ⟨p2, w, ow, (nmb_in hq).2, h1, h2⟩
  · obtain ⟨p2, ow, h1, h2⟩ := ol5_in h
    exact ⟨p2, 0, ow, by omega, h1, h2⟩
theorem ol3_in (h : ol3 c n s p sd kd q pr = .inr s') : ∃ p' sh le ow, (kd = 3 → 1 ≤ sh ∧ sh ≤ q) ∧ (kd ≠ 3 → sh = 0) ∧ le ≤ q ∧ ow ≤ 7 ∧ s' = ol9 s p' sd kd q pr sh le ow := by
  rw [ol3] at h
  split at h
  · rename_i k3
    cases hw : wrd c n p Wsh with
    | inl F => rw [hw] at h; cases h
    | inr p1 =>
      rw [hw] at h
      have h' : ol3b c n s p1 sd kd q pr = .inr s' := h
      rw [ol3b] at h'
      cases hq : nmb c n p1 1 q with
      | inl F => rw [hq] at h'; cases h'
      | inr w =>
        obtain ⟨w, p'⟩ := w
        rw [hq] at h'
        obtain ⟨p2, le, ow, h1, h2, h3⟩ := ol4_in h'
        exact ⟨p2, w, le, ow, fun _ => nmb_in hq, fun z => absurd k3 z, h1, h2, h3⟩
  · rename_i k3
    obtain ⟨p2, le, ow, h1, h2, h3⟩ := ol4_in h
    exact ⟨p2, 0, le, ow, fun z => absurd z k3, fun _ => rfl, h1, h2, h3⟩
theorem ol2_in (h : ol2 c n s p sd kd q = .inr s') : ∃ p' pr sh le ow, (kd = 0 → pr = 0) ∧ (kd ≠ 0 → 1 ≤ pr ∧ pr ≤ 999) ∧ (kd = 3 → 1 ≤ sh ∧ sh ≤ q) ∧ (kd ≠ 3 → sh = 0) ∧ le ≤ q ∧ ow ≤ 7 ∧ s' = ol9 s p' sd kd q pr sh le ow := by
  rw [ol2] at h
  split at h
  · rename_i k0
    obtain ⟨p2, sh, le, ow, h1, h2, h3, h4, h5⟩ := ol3_in h
    exact ⟨p2, 0, sh, le, ow, fun _ => rfl, fun z => absurd k0 z, h1, h2, h3, h4, h5⟩
  · rename_i k0
    cases hw : wrd c n p Wat with
    | inl F => rw [hw] at h; cases h
    | inr p1 =>
      rw [hw] at h
      have h' : ol2b c n s p1 sd kd q = .inr s' := h
      rw [ol2b] at h'
      cases hq : nmb c n p1 1 999 with
      | inl F => rw [hq] at h'; cases h'
      | inr w =>
        obtain ⟨w, p'⟩ := w
        rw [hq] at h'
        obtain ⟨p2, sh, le, ow, h1, h2, h3, h4, h5⟩ := ol3_in h'
        exact ⟨p2, w, sh, le, ow, fun z => absurd z k0, fun _ => nmb_in hq, h1, h2, h3, h4, h5⟩
def Pok (s : Ps) : Prop := OW s.2.1 s.2.2.1 ∧ s.2.2.1 ≤ 40 ∧ s.2.2.2.1 ≤ 999 ∧ (0 < s.2.2.2.2.1 → s.2.2.2.2.1 ≤ s.2.2.2.2.2 ∧ s.2.2.2.2.2 ≤ 999)
theorem kdh_4 (h : kdh c n p = some kd) : kd ≤ 4 := by
  rw [kdh] at h
  split at h
  · have := Option.some.inj h; omega
  · split at h
    · have := Option.some.inj h; omega
    · split at h
      · have := Option.some.inj h; omega
      · split at h
        · have := Option.some.inj h; omega
        · split at h
          · have := Option.some.inj h; omega
          · cases h
theorem ow_add8 {f : Nat → Int32} {k ow : Nat} (hO : OW f k) (h0 : sd ≤ 1) (h1 : kd ≤ 4) (h2 : 1 ≤ q ∧ q ≤ 9999) (h3 : kd = 0 → pr = 0) (h4 : kd ≠ 0 → 1 ≤ pr ∧ pr ≤ 999) (h5 : kd = 3 → 1 ≤ sh ∧ sh ≤ q) (h6 : kd ≠ 3 → sh = 0) (h7 : le ≤ q) (h8 : ow ≤ 7) : OW (add8 f k (nI sd) (nI kd) (nI q) (nI pr) (nI sh) (nI le) (nI ow)) (k + 1) := by
  intro i hi
  by_cases e : i = k
  · subst e
    obtain ⟨e0, e1, e2, e3, e4, e5, e6, e7⟩ := add8_at (f := f) (k := i) (a0 := nI sd) (a1 := nI kd) (a2 := nI q) (a3 := nI pr) (a4 := nI sh) (a5 := nI le) (a6 := nI ow)
    have k0 : nI kd = 0 ↔ kd = 0 := nI_eq (b := 0) (by omega) (by omega)
    have k3 : nI kd = 3 ↔ kd = 3 := nI_eq (b := 3) (by omega) (by omega)
    have x3 : (if nI kd = 0 then (0 : Int32) else nI pr) = nI pr := by
      by_cases z : kd = 0
      · rw [if_pos (k0.mpr z), h3 z]; rfl
      · rw [if_neg (fun w => z (k0.mp w))]
    have x4 : (if nI kd = 3 then nI sh else (0 : Int32)) = nI sh := by
      by_cases z : kd = 3
      · rw [if_pos (k3.mpr z)]
      · rw [if_neg (fun w => z (k3.mp w)), h6 z]; rfl
    rw [x3] at e3
    rw [x4] at e4
    refine ⟨sd, kd, q, pr, sh, le, ow, 0, e0, e1, e2, e3, e4, e5, e6, e7, h0, h1, h2.2, ?_, ?_, ?_, h6, h7, h8, by omega, fun _ => h2.1, fun _ z => (h5 z).1⟩
    · by_cases z : kd = 0
      · rw [h3 z]; omega
      · exact (h4 z).2
    · constructor
      · exact h3
      · intro z
        by_cases w : kd = 0
        · exact w
        · have := (h4 w).1; omega
    · by_cases z : kd = 3
      · exact (h5 z).2
      · rw [h6 z]; omega
  · have L : ∀ j, j < 8 → add8 f k (nI sd) (nI kd) (nI q) (nI pr) (nI sh) (nI le) (nI ow) (8 * i + j) = f (8 * i + j) := fun j hj => add8_lo (Or.inl (by omega))
    rw [L 0 (by decide), L 1 (by decide), L 2 (by decide), L 3 (by decide), L 4 (by decide), L 5 (by decide), L 6 (by decide), L 7 (by decide)]
    exact hO i (by omega)
theorem ol0_ok (hs : sd ≤ 1) (hP : Pok s) (h : ol0 c n s sd = .inr s') : Pok s' := by
  rw [ol0] at h
  split at h
  · cases h
  · rename_i h40
    cases hk : kdh c n (tkE c n s.1) with
    | none => rw [hk] at h; cases h
    | some kd =>
      rw [hk] at h
      have h' : ol1 c n s (tkE c n (tkE c n s.1)) sd kd = .inr s' := h
      rw [ol1] at h'
      cases hq : nmb c n (tkE c n (tkE c n s.1)) 1 9999 with
      | inl F => rw [hq] at h'; cases h'
      | inr w =>
        obtain ⟨w, p'⟩ := w
        rw [hq] at h'
        obtain ⟨p2, pr, sh, le, ow, a1, a2, a3, a4, a5, a6, rfl⟩ := ol2_in h'
        obtain ⟨b1, b2, b3, b4⟩ := hP
        exact ⟨ow_add8 b1 hs (kdh_4 hk) (nmb_in hq) a1 a2 a3 a4 a5 a6, by show s.2.2.1 + 1 ≤ 40; omega, b3, b4⟩
theorem lin_ok (hP : Pok s) (h : lin c n s = .inr s') : Pok s' := by
  rw [lin] at h
  obtain ⟨b1, b2, b3, b4⟩ := hP
  split at h
  · rw [rln] at h
    split at h
    · cases h
    · cases hq : nmb c n (tkE c n s.1) 1 999 with
      | inl F => rw [hq] at h; cases h
      | inr w =>
        obtain ⟨w, p'⟩ := w
        rw [hq] at h
        have := (Sum.inr.inj h).symm
        subst this
        exact ⟨b1, b2, (nmb_in hq).2, b4⟩
  · split at h
    · rw [cln] at h
      split at h
      · cases h
      · cases hq : nmb c n (tkE c n s.1) 1 999 with
        | inl F => rw [hq] at h; cases h
        | inr w =>
          obtain ⟨w, p'⟩ := w
          rw [hq] at h
          have h' : cln2 c n s p' w = .inr s' := h
          rw [cln2] at h'
          cases hq2 : nmb c n p' w 999 with
          | inl F => rw [hq2] at h'; cases h'
          | inr w2 =>
            obtain ⟨w2, p2⟩ := w2
            rw [hq2] at h'
            have := (Sum.inr.inj h').symm
            subst this
            exact ⟨b1, b2, b3, fun _ => nmb_in hq2⟩
    · split at h
      · exact ol0_ok (by omega) ⟨b1, b2, b3, b4⟩ h
      · split at h
        · exact ol0_ok (by omega) ⟨b1, b2, b3, b4⟩ h
        · cases h
theorem lns_ok : ∀ (e : Nat) (s : Ps), Pok s → lns c n e s = .inr s' → Pok s'
  | 0, s, _, h => by rw [lns] at h; cases h
  | e + 1, s, hP, h => by
    rw [lns] at h
    split at h
    · cases hl : lin c n (tkE c n s.1, s.2) with
      | inl F => rw [hl] at h; cases h
      | inr s1 =>
        rw [hl] at h
        exact lns_ok e s1 (lin_ok (s := (tkE c n s.1, s.2)) hP hl) h
    · split at h
      · rw [← Sum.inr.inj h]; exact hP
      · cases h
theorem prs_ok {f : Nat → Int32} (h : prs0 c n f = .inr s) : Pok s := by
  rw [prs0] at h
  cases hl : lin c n (0, f, 0, 0, 0, 0) with
  | inl F => rw [hl] at h; cases h
  | inr s1 =>
    rw [hl] at h
    exact lns_ok 43 s1 (lin_ok (s := (0, f, 0, 0, 0, 0)) ⟨fun k hk => absurd hk (Nat.not_lt_zero _), Nat.zero_le _, Nat.zero_le _, fun z => absurd z (Nat.lt_irrefl _)⟩ hl) h
end ITX
theorem txb_bw {s : Ps} (h : Pok s) : BW 40 (txb s) := by
  obtain ⟨h1, h2, h3, h4⟩ := h
  obtain ⟨e8, e8', e9, e0, e1, e2, er⟩ := txb_at (s := s)
  rw [nI_clamp (by omega)] at e8
  have hr : ∃ r, 1 ≤ r ∧ r ≤ 999 ∧ txb s 330 = nI r := by
    rw [e0, rfv]
    by_cases z : 0 < s.2.2.2.1
    · rw [if_pos z]; exact ⟨_, z, h3, rfl⟩
    · rw [if_neg z]; exact ⟨100, by omega, by omega, rfl⟩
  have hl : ∃ l t, 1 ≤ l ∧ l ≤ t ∧ t ≤ 999 ∧ txb s 331 = nI l ∧ txb s 332 = nI t := by
    rw [e1, e2, lov, hiv]
    by_cases z : 0 < s.2.2.2.2.1
    · rw [if_pos z, if_pos z]
      obtain ⟨a1, a2⟩ := h4 z
      exact ⟨_, _, z, a1, a2, rfl, rfl⟩
    · rw [if_neg z, if_neg z]; exact ⟨1, 999, by omega, by omega, by omega, rfl, rfl⟩
  obtain ⟨l, t, l1, l2, l3, l4, l5⟩ := hl
  have el : blo (txb s) = l := by rw [blo, l4]; exact nI_clamp (by omega)
  have eh : bhi (txb s) = t := by rw [bhi, l5]; exact nI_clamp (by omega)
  exact ⟨by rw [e8]; exact e8', by rw [e8]; exact h2, by rw [e8]; exact h1.cm (fun j hj => (er j (by omega)).symm), by rw [el]; exact l4, by rw [eh]; exact l5, by rw [el]; exact l1, by rw [el, eh]; exact l2, by rw [eh]; exact l3, hr⟩
theorem inv_text {S : Sg} {k : Nat} {x : Int32} (h : Inv S k) : Inv (sp_text S x).2 k := by
  rw [sp_text]
  by_cases c : 0 ≤ x ∧ x ≤ nI S.2.2.2.1
  · rw [if_pos c]
    obtain ⟨⟨h1, h2, h3, h4⟩, h5, h6, h8⟩ := h
    cases hp : prs0 (cdt S.2.2.1) x.toNatClampNeg (fun _ => 0) with
    | inl F => exact ⟨⟨h1, h2, h3, Nat.zero_le _⟩, fun j hj => absurd hj (Nat.not_lt_zero _), h6, h8⟩
    | inr s =>
      obtain ⟨-, -, e9, -⟩ := txb_at (s := s)
      have hb : Bok (txb s, S.1.2) := ⟨txb_bw (prs_ok hp), Or.inl e9, fun z => by
        have z2 : txb s 329 = 2 := z
        rw [e9] at z2
        exact absurd z2 (by decide)⟩
      have ho : Own (txb s, S.1.2) := own_n (show txb s 329 ≠ 2 by rw [e9]; decide)
      exact ⟨⟨hb, fun q hq => (by cases hq), Nat.zero_le _, Nat.zero_le _⟩, fun j hj => absurd hj (Nat.not_lt_zero _), ⟨ho, fun q hq => (by cases hq)⟩, Nat.zero_le _⟩
  · rw [if_neg c]; exact h
