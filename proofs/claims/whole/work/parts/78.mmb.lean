/-! acts: what is asked of them -/
noncomputable def ad1 (b : Nat → Int32) (s k q p sh le ow : Int32) : Nat → Int32 := upd (add8 b (bn b) s k q p sh le ow) 328 (nI (bn b + 1))
abbrev tldok (b : Nat → Int32) (s k q p sh le ow : Int32) : Prop := isT s k q p ∧ (k ≠ 3 ∨ (1 ≤ sh ∧ sh ≤ q)) ∧ (0 ≤ le ∧ le ≤ q) ∧ (0 ≤ ow ∧ ow ≤ 7) ∧ b 328 ≠ 40 ∧ b 329 ≠ 2
noncomputable def sp_told (S : Sg) (s k q p sh le ow : Int32) : Int32 × Sg := if tldok S.1.1 s k q p sh le ow ∧ ¬ (S.1.1 329 = 1 ∧ ab (xR S.1.1 (-1)) < ab (xR (ad1 S.1.1 s k q p sh le ow) (-1))) then (S.1.1 328, psh S (ad1 S.1.1 s k q p sh le ow, S.1.2)) else (-1, S)
abbrev cch (b : Nat → Int32) (o : Int32) : Prop := (0 ≤ o ∧ o < b 328) ∧ b (8 * o.toNatClampNeg + 7) ≠ 1 ∧ b 329 ≠ 2
noncomputable def sp_gone (S : Sg) (o : Int32) : Int32 × Sg := if cch S.1.1 o ∧ ¬ (S.1.1 329 = 1 ∧ ab (xR S.1.1 (-1)) < ab (xR S.1.1 o)) then (S.1.1 (8 * o.toNatClampNeg + 2), psh S (upd S.1.1 (8 * o.toNatClampNeg + 7) 1, S.1.2)) else (-1, S)
noncomputable def sp_less (S : Sg) (o q : Int32) : Int32 × Sg := if (cch S.1.1 o ∧ (1 ≤ q ∧ q ≤ S.1.1 (8 * o.toNatClampNeg + 2) - 1)) ∧ ¬ (S.1.1 329 = 1 ∧ ab (xR S.1.1 (-1)) < ab (xR (low S.1.1 o.toNatClampNeg q) (-1))) then (S.1.1 (8 * o.toNatClampNeg + 2), psh S (low S.1.1 o.toNatClampNeg q, S.1.2)) else (-1, S)
noncomputable def sp_freeze (S : Sg) : Int32 × Sg := if S.1.1 329 = 0 then (1, psh S (upd S.1.1 329 1, S.1.2)) else (0, S)
noncomputable def sp_reference (S : Sg) (p : Int32) : Int32 × Sg := if S.1.1 329 = 0 ∧ 1 ≤ p ∧ p ≤ 999 then (S.1.1 330, psh S (upd S.1.1 330 p, S.1.2)) else (-1, S)
noncomputable def sp_collar (S : Sg) (l h : Int32) : Int32 × Sg := if S.1.1 329 = 0 ∧ (1 ≤ l ∧ l ≤ 999) ∧ (l ≤ h ∧ h ≤ 999) then (1, psh S (upd (upd S.1.1 331 l) 332 h, S.1.2)) else (0, S)
noncomputable def sp_back (S : Sg) : Int32 × Sg := if S.2.1.length = 0 then (0, S) else (1, ((S.2.1[S.2.1.length - 1]?).getD S.1, S.2.1.dropLast, S.2.2))
theorem int_le {x : Int32} {c : Nat} (hc : c < 1000000) (h0 : 0 ≤ x) (h1 : x ≤ nI c) : ∃ k, k ≤ c ∧ x = nI k := by
  obtain ⟨k, hk, e⟩ := nI_of (Int32.not_lt.mpr h0)
  subst e
  exact ⟨k, (nI_leI hk (by omega)).mp h1, rfl⟩
theorem int_le1 {x : Int32} {c : Nat} (hc : c < 1000000) (h0 : 1 ≤ x) (h1 : x ≤ nI c) : ∃ k, 1 ≤ k ∧ k ≤ c ∧ x = nI k := by
  obtain ⟨k, hk, e⟩ := int_le hc (Int32.le_trans (by decide) h0) h1
  refine ⟨k, ?_, hk, e⟩
  subst e
  exact (nI_leI (a := 1) (by omega) (by omega)).mp h0
theorem add8_lo {f : Nat → Int32} {k j : Nat} {a0 a1 a2 a3 a4 a5 a6 : Int32} (h : j < 8 * k ∨ 8 * k + 8 ≤ j) : add8 f k a0 a1 a2 a3 a4 a5 a6 j = f j := by
  rw [add8, pk_un (by omega), pk_un (by omega), pk_un (by omega), pk_un (by omega), pk_un (by omega), pk_un (by omega), pk_un (by omega), pk_un (by omega)]
theorem add8_at {f : Nat → Int32} {k : Nat} {a0 a1 a2 a3 a4 a5 a6 : Int32} : add8 f k a0 a1 a2 a3 a4 a5 a6 (8 * k + 0) = a0 ∧ add8 f k a0 a1 a2 a3 a4 a5 a6 (8 * k + 1) = a1 ∧ add8 f k a0 a1 a2 a3 a4 a5 a6 (8 * k + 2) = a2 ∧ add8 f k a0 a1 a2 a3 a4 a5 a6 (8 * k + 3) = (if a1 = 0 then 0 else a3) ∧ add8 f k a0 a1 a2 a3 a4 a5 a6 (8 * k + 4) = (if a1 = 3 then a4 else 0) ∧ add8 f k a0 a1 a2 a3 a4 a5 a6 (8 * k + 5) = a5 ∧ add8 f k a0 a1 a2 a3 a4 a5 a6 (8 * k + 6) = a6 ∧ add8 f k a0 a1 a2 a3 a4 a5 a6 (8 * k + 7) = 0 := by
  simp [add8, upd]
theorem ad1_n {b : Nat → Int32} {s k q p sh le ow : Int32} (h : bn b ≤ 40) : bn (ad1 b s k q p sh le ow) = bn b + 1 := by
  rw [bn, ad1, pk_us, nI_clamp (by omega)]
theorem ad1_hi {b : Nat → Int32} {s k q p sh le ow : Int32} {j : Nat} (h : bn b ≤ 40) (hj : 328 < j) : ad1 b s k q p sh le ow j = b j := by
  rw [ad1, pk_un (by omega), add8_lo (by omega)]
theorem BW.ad1 {b : Nat → Int32} {s k q p sh le ow : Int32} (hB : BW 40 b) (hT : isT s k q p) (hs : k ≠ 3 ∨ (1 ≤ sh ∧ sh ≤ q)) (hl : 0 ≤ le ∧ le ≤ q) (ho : 0 ≤ ow ∧ ow ≤ 7) : BW (bn b + 1) (ad1 b s k q p sh le ow) := by
  obtain ⟨h1, h2, h3, h4, h5, h6, h7, h8, r, r1, r2, r3⟩ := hB
  have en : bn (COpenCrossLaw_law_r5060_e2f5b9.ad1 b s k q p sh le ow) = bn b + 1 := ad1_n h2
  have elo : blo (COpenCrossLaw_law_r5060_e2f5b9.ad1 b s k q p sh le ow) = blo b := by rw [blo, ad1_hi h2 (by omega), blo]
  have ehi : bhi (COpenCrossLaw_law_r5060_e2f5b9.ad1 b s k q p sh le ow) = bhi b := by rw [bhi, ad1_hi h2 (by omega), bhi]
  refine ⟨?_, by omega, ?_, ?_, ?_, by omega, by omega, by omega, r, r1, r2, ?_⟩
  · rw [en, COpenCrossLaw_law_r5060_e2f5b9.ad1, pk_us]
  · rw [en]
    intro i hi
    by_cases e : i = bn b
    · subst e
      obtain ⟨t0, t1, t2, t3⟩ := hT
      obtain ⟨s', s1, s2⟩ := int_le (c := 1) (by omega) t0.1 t0.2
      obtain ⟨k', k1, k2⟩ := int_le (c := 4) (by omega) t1.1 t1.2
      obtain ⟨q', q0, q1, q2⟩ := int_le1 (c := 9999) (by omega) t2.1 t2.2
      obtain ⟨ow', o1, o2⟩ := int_le (c := 7) (by omega) ho.1 ho.2
      obtain ⟨le', l1, l2⟩ := int_le (c := q') (by omega) hl.1 (by rw [← q2]; exact hl.2)
      have hk0 : k = 0 ↔ k' = 0 := by rw [k2]; exact ⟨fun z => (nI_eq (by omega) (by omega)).mp (z.trans nI_0.symm), fun z => by rw [z]; exact nI_0⟩
      have hk3 : k = 3 ↔ k' = 3 := by rw [k2]; exact ⟨fun z => (nI_eq (b := 3) (by omega) (by omega)).mp z, fun z => by rw [z]; rfl⟩
      obtain ⟨e0, e1, e2, e3, e4, e5, e6, e7⟩ := add8_at (f := b) (k := bn b) (a0 := s) (a1 := k) (a2 := q) (a3 := p) (a4 := sh) (a5 := le) (a6 := ow)
      have U : ∀ j, j < 8 → COpenCrossLaw_law_r5060_e2f5b9.ad1 b s k q p sh le ow (8 * bn b + j) = add8 b (bn b) s k q p sh le ow (8 * bn b + j) := fun j hj => by rw [COpenCrossLaw_law_r5060_e2f5b9.ad1, pk_un (by omega)]
      have P : ∃ p', p' ≤ 999 ∧ (if k = 0 then (0 : Int32) else p) = nI p' ∧ (k' = 0 ↔ p' = 0) := by
        by_cases z : k = 0
        · exact ⟨0, by omega, by rw [if_pos z]; rfl, by simp [hk0.mp z]⟩
        · obtain ⟨p', p0, p1, p2⟩ := int_le1 (c := 999) (by omega) (t3.resolve_left z).1 (t3.resolve_left z).2
          exact ⟨p', p1, by rw [if_neg z]; exact p2, ⟨fun y => absurd (hk0.mpr y) z, fun y => by omega⟩⟩
      have H : ∃ h', h' ≤ q' ∧ (if k = 3 then sh else (0 : Int32)) = nI h' ∧ (k' ≠ 3 → h' = 0) ∧ (k' = 3 → 1 ≤ h') := by
        by_cases z : k = 3
        · obtain ⟨h', p0, p1, p2⟩ := int_le1 (c := q') (by omega) (hs.resolve_left (fun y => y z)).1 (by rw [← q2]; exact (hs.resolve_left (fun y => y z)).2)
          exact ⟨h', p1, by rw [if_pos z]; exact p2, fun y => absurd (hk3.mp z) y, fun _ => p0⟩
        · exact ⟨0, by omega, by rw [if_neg z]; rfl, fun _ => rfl, fun y => absurd (hk3.mpr y) z⟩
      obtain ⟨p', p1, p2, p3⟩ := P
      obtain ⟨h', c1, c2, c3, c4⟩ := H
      refine ⟨s', k', q', p', h', le', ow', 0, ?_, ?_, ?_, ?_, ?_, ?_, ?_, ?_, s1, k1, q1, p1, p3, c1, c3, l1, o1, by omega, fun _ => q0, fun _ => c4⟩
      · rw [U _ (by omega), e0, s2]
      · rw [U _ (by omega), e1, k2]
      · rw [U _ (by omega), e2, q2]
      · rw [U _ (by omega), e3, p2]
      · rw [U _ (by omega), e4, c2]
      · rw [U _ (by omega), e5, l2]
      · rw [U _ (by omega), e6, o2]
      · rw [U _ (by omega), e7, nI_0]
    · obtain ⟨s', kd, q', pr, sh', le', ow', g, e0, e1, e2, e3, e4, e5, e6, e7, b'⟩ := h3 i (by omega)
      have U : ∀ j, j < 8 → COpenCrossLaw_law_r5060_e2f5b9.ad1 b s k q p sh le ow (8 * i + j) = b (8 * i + j) := fun j hj => by rw [COpenCrossLaw_law_r5060_e2f5b9.ad1, pk_un (by omega), add8_lo (by omega)]
      exact ⟨s', kd, q', pr, sh', le', ow', g, (U _ (by omega)).trans e0, (U _ (by omega)).trans e1, (U _ (by omega)).trans e2, (U _ (by omega)).trans e3, (U _ (by omega)).trans e4, (U _ (by omega)).trans e5, (U _ (by omega)).trans e6, (U _ (by omega)).trans e7, b'⟩
  · rw [elo, ad1_hi h2 (by omega)]; exact h4
  · rw [ehi, ad1_hi h2 (by omega)]; exact h5
  · rw [ad1_hi h2 (by omega)]; exact r3
theorem Ag.ad1 {m b : Nat → Int32} {s k q p sh le ow : Int32} (hA : Ag m b) (hn : bn b ≤ 40) : Ag (upd (add8 m (bn b) s k q p sh le ow) 328 (nI (bn b + 1))) (ad1 b s k q p sh le ow) := by
  obtain ⟨g0, g1, g2, g3, g4, g5⟩ := hA
  have U : ∀ j, 328 < j → upd (add8 m (bn b) s k q p sh le ow) 328 (nI (bn b + 1)) j = m j := fun j hj => by rw [pk_un (by omega), add8_lo (by omega)]
  refine ⟨fun j hj => ?_, ?_, ?_, ?_, ?_, ?_⟩
  · rw [ad1_n hn] at hj
    rw [COpenCrossLaw_law_r5060_e2f5b9.ad1, pk_un (by omega), pk_un (by omega)]
    by_cases e : j < 8 * bn b
    · rw [add8_lo (Or.inl e), add8_lo (Or.inl e)]
      exact g0 j e
    · obtain ⟨e0, e1, e2, e3, e4, e5, e6, e7⟩ := add8_at (f := b) (k := bn b) (a0 := s) (a1 := k) (a2 := q) (a3 := p) (a4 := sh) (a5 := le) (a6 := ow)
      obtain ⟨d0, d1, d2, d3, d4, d5, d6, d7⟩ := add8_at (f := m) (k := bn b) (a0 := s) (a1 := k) (a2 := q) (a3 := p) (a4 := sh) (a5 := le) (a6 := ow)
      have : j = 8 * bn b + 0 ∨ j = 8 * bn b + 1 ∨ j = 8 * bn b + 2 ∨ j = 8 * bn b + 3 ∨ j = 8 * bn b + 4 ∨ j = 8 * bn b + 5 ∨ j = 8 * bn b + 6 ∨ j = 8 * bn b + 7 := by omega
      rcases this with rfl | rfl | rfl | rfl | rfl | rfl | rfl | rfl
      · rw [e0, d0]
      · rw [e1, d1]
      · rw [e2, d2]
      · rw [e3, d3]
      · rw [e4, d4]
      · rw [e5, d5]
      · rw [e6, d6]
      · rw [e7, d7]
  · rw [COpenCrossLaw_law_r5060_e2f5b9.ad1, pk_us, pk_us]
  · rw [U _ (by omega), ad1_hi hn (by omega)]; exact g2
  · rw [U _ (by omega), ad1_hi hn (by omega)]; exact g3
  · rw [U _ (by omega), ad1_hi hn (by omega)]; exact g4
  · rw [U _ (by omega), ad1_hi hn (by omega)]; exact g5
/-- more rows than count, and what is written down, don't matter -/
theorem Ag.same {m m' b : Nat → Int32} (hA : Ag m b) (h : ∀ j, j < 8 * bn b → m' j = m j) (h2 : ∀ j, 328 ≤ j → j ≤ 332 → m' j = m j) : Ag m' b := by
  obtain ⟨g0, g1, g2, g3, g4, g5⟩ := hA
  exact ⟨fun j hj => (h j hj).trans (g0 j hj), (h2 _ (by omega) (by omega)).trans g1, (h2 _ (by omega) (by omega)).trans g2, (h2 _ (by omega) (by omega)).trans g3, (h2 _ (by omega) (by omega)).trans g4, (h2 _ (by omega) (by omega)).trans g5⟩
section MMB
variable {G : GP} {a : Nat → Nat} {M0 M : Wd} {v : Nat → Int32} {L : Int64} {X : Nat → Nat → Int32} {S : Sg}
set_option maxRecDepth 20000 in
theorem m_told {s k q p sh le ow : Int32} (hS : Sok S) (hR : MR v X S) (hZ : MZ a M0 v L X M) : CtI G mX6_told [.ref (a 0), .int s, .int k, .int q, .int p, .int sh, .int le, .int ow] M 0 0 (fun x M' => x = (sp_told S s k q p sh le ow).1 ∧ ∃ (v' : Nat → Int32) (X' : Nat → Nat → Int32), MZ a M0 v' L X' M' ∧ MR v' X' (sp_told S s k q p sh le ow).2) := by
  obtain ⟨hA, hX⟩ := hR.1
  have hB : BW 40 S.1.1 := hS.1.1
  have hn := hB.2.1
  have e8 : X 1 328 = S.1.1 328 := hA.2.1
  have e9 : X 1 329 = S.1.1 329 := hA.2.2.1
  have en : S.1.1 328 = nI (bn S.1.1) := hB.1
  generalize hQ : (fun (u : Option Value) (M' : Wd) => ∃ x, u = some (.int x) ∧ x = (sp_told S s k q p sh le ow).1 ∧ ∃ (v' : Nat → Int32) (X' : Nat → Nat → Int32), MZ a M0 v' L X' M' ∧ MR v' X' (sp_told S s k q p sh le ow).2) = Q
  have hq0 : QT v (upd v 0 0) X X := QT.rf.t
  have hno : ∀ {M v1 X1}, ¬ (tldok S.1.1 s k q p sh le ow ∧ ¬ (S.1.1 329 = 1 ∧ ab (xR S.1.1 (-1)) < ab (xR (ad1 S.1.1 s k q p sh le ow) (-1)))) → MZ a M0 v1 L X1 M → QT v v1 X X1 → RB (X1 1) S.1.1 S.1.2 → Q (some (.int (-1))) M := by
    intro M v1 X1 hc hZ hq hr
    rw [← hQ, sp_told, if_neg hc]
    exact ⟨_, rfl, rfl, v1, X1, hZ, hR.q hq hr⟩
  have J : ∀ (c : Int32) (M : Wd), (c = 1 ∧ isT s k q p ∧ (k ≠ 3 ∨ (1 ≤ sh ∧ sh ≤ q)) ∧ (0 ≤ le ∧ le ≤ q) ∧ (0 ≤ ow ∧ ow ≤ 7)) ∨ (c = 0 ∧ ¬ (isT s k q p ∧ (k ≠ 3 ∨ (1 ≤ sh ∧ sh ≤ q)) ∧ (0 ≤ le ∧ le ≤ q) ∧ (0 ≤ ow ∧ ow ≤ 7))) → MZ a M0 (upd v 0 0) L X M → Ev G mX6_told 63 [some (.ref (a 0)), some (.int s), some (.int k), some (.int q), some (.int p), some (.int sh), some (.int le), some (.int ow), none, none, none] [.int c] M 0 0 Q := by
    intro c M hc hZ
    by_cases hok : tldok S.1.1 s k q p sh le ow
    · obtain ⟨o1, o2, o3, o4, o5, o6⟩ := hok
      have hc1 : c = 1 := hc.elim (fun z => z.1) (fun z => absurd ⟨o1, o2, o3, o4⟩ z.2)
      subst hc1
      have hlt : bn S.1.1 < 40 := by
        have : bn S.1.1 ≠ 40 := fun z => o5 (by rw [en, z]; rfl)
        omega
      have hB1 := hB.ad1 o1 o2 o3 o4
      -- behind the first rest
      have J2 : ∀ (was : Int32) (v1 : Nat → Int32) (X1 : Nat → Nat → Int32) (M : Wd), (S.1.1 329 = 1 → was = ab (xR S.1.1 (-1))) → MZ a M0 v1 L X1 M → KP (upd v 0 0) v1 X X1 → Ev G mX6_told 117 [some (.ref (a 0)), some (.int s), some (.int k), some (.int q), some (.int p), some (.int sh), some (.int le), some (.int ow), some (.int 1), none, none] [.int was] M 0 0 Q := by
        intro was v1 X1 M hwas hZ hK
        have x1 : X1 1 = X 1 := hK.1 1 (by decide)
        have hA1 := hA.ad1 (s := s) (k := k) (q := q) (p := p) (sh := sh) (le := le) (ow := ow) hn
        -- behind the second
        have J3 : ∀ (wo : Int32) (v2 : Nat → Int32) (X2 : Nat → Nat → Int32) (M : Wd) (a10 : Option Value), (wo = 1 ∧ (S.1.1 329 = 1 ∧ ab (xR S.1.1 (-1)) < ab (xR (ad1 S.1.1 s k q p sh le ow) (-1))) ∨ wo = 0 ∧ ¬ (S.1.1 329 = 1 ∧ ab (xR S.1.1 (-1)) < ab (xR (ad1 S.1.1 s k q p sh le ow) (-1)))) → MZ a M0 v2 L X2 M → QT v v2 X X2 → X2 1 = upd (add8 (X 1) (bn S.1.1) s k q p sh le ow) 328 (nI (bn S.1.1 + 1)) → Ev G mX6_told 160 [some (.ref (a 0)), some (.int s), some (.int k), some (.int q), some (.int p), some (.int sh), some (.int le), some (.int ow), some (.int 1), some (.int was), a10] [.int wo] M 0 0 Q := by
          intro wo v2 X2 M a10 hwo hZ hq x2
          have hpre : nI (bn S.1.1 + 1) - 1 = nI (bn S.1.1) := nI_pred _
          have hA2 : Ag (upd (upd (add8 (X 1) (bn S.1.1) s k q p sh le ow) 328 (nI (bn S.1.1 + 1))) 328 (nI (bn S.1.1))) S.1.1 := hA.same (fun j hj => by rw [pk_un (by omega), pk_un (by omega), add8_lo (Or.inl hj)]) (fun j h1 h2 => by
            by_cases z : j = 328
            · rw [z, pk_us, e8, en]
            · rw [pk_un z, pk_un z, add8_lo (Or.inr (by omega))])
          have hR2 : RB (upd (upd (add8 (X 1) (bn S.1.1) s k q p sh le ow) 328 (nI (bn S.1.1 + 1))) 328 (nI (bn S.1.1))) S.1.1 S.1.2 := ⟨hA2, fun z => absurd z o6⟩
          refine Ev.ist10 dX6_told_160 rfl rfl ?_
          refine Ev.ald0 dX6_told_162 ?_
          refine Ev.mgr (kx := 1) dX6_told_163 fX6_13 hZ rfl ?_
          refine Ev.sipush (v := 328) dX6_told_166 (by decide) ?_
          refine Ev.dup2 dX6_told_169 rfl rfl ?_
          refine Ev.mld (j := 328) mq1 dX6_told_170 hZ (by first | assumption | (simp only [nI, Int32.ofNat_add, Int32.ofNat_mul]; done) | (simp only [nI, Int32.ofNat_add, Int32.ofNat_mul]; rfl) | rfl) (by omega) ?_
          (try simp only [ux_s, ux_n, ne_eq, Nat.reduceEqDiff, Nat.succ_ne_self, not_false_eq_true])
          rw [x2, pk_us]
          refine Ev.iconst (v := 1) dX6_told_171 (by decide) ?_
          refine Ev.isub dX6_told_172 ?_
          rw [hpre]
          refine Ev.mst (j := 328) mq1 dX6_told_173 hZ (by first | assumption | (simp only [nI, Int32.ofNat_add, Int32.ofNat_mul]; done) | (simp only [nI, Int32.ofNat_add, Int32.ofNat_mul]; rfl) | rfl) (by omega) (fun M hZ => ?_)
          (try simp only [ux_u, ux_s, ux_n, ne_eq, Nat.reduceEqDiff, Nat.succ_ne_self, not_false_eq_true] at hZ)
          rw [x2] at hZ
          refine Ev.ild10 dX6_told_174 ?_
          refine Ev.if_eq (tgt := 181) dX6_told_176 (by decide) (fun c176 => ?_) (fun c176 => ?_)
          · refine Ev.ald0 dX6_told_181 ?_
            refine Ev.cvV (Yc := mX6_keepsBack) (ci := 6) dX6_told_182 lX6_302 vX6_keepsBack rfl (m_keep hS hR hq.m (by rw [ux_s]; exact hR2) hZ) ⟨_, hZ.2.1.1⟩ rfl rfl rfl rfl ?_
            rintro M1 ⟨v3, X3, hZ, y1, y2, y3, y4⟩
            rw [ux_s] at y1
            refine Ev.ald0 dX6_told_185 ?_
            refine Ev.ild1 dX6_told_186 ?_
            refine Ev.ild2 dX6_told_187 ?_
            refine Ev.ild3 dX6_told_188 ?_
            refine Ev.ild4 dX6_told_189 ?_
            refine Ev.ild5 dX6_told_191 ?_
            refine Ev.ild6 dX6_told_193 ?_
            refine Ev.ild7 dX6_told_195 ?_
            refine Ev.cvV (Yc := mX6_puts_) (ci := 6) dX6_told_197 lX6_299 vX6_puts_ rfl (m_puts (n := bn S.1.1) (by rw [y1, pk_us]) hn hZ) ⟨_, hZ.2.1.1⟩ rfl rfl rfl rfl ?_
            rintro M2 hZ
            refine Ev.ald0 dX6_told_200 ?_
            refine Ev.mgr (kx := 1) dX6_told_201 fX6_13 hZ rfl ?_
            refine Ev.sipush (v := 328) dX6_told_204 (by decide) ?_
            refine Ev.mld (j := 328) mq1 dX6_told_207 hZ (by first | assumption | (simp only [nI, Int32.ofNat_add, Int32.ofNat_mul]; done) | (simp only [nI, Int32.ofNat_add, Int32.ofNat_mul]; rfl) | rfl) (by omega) ?_
            (try simp only [ux_s, ux_n, ne_eq, Nat.reduceEqDiff, Nat.succ_ne_self, not_false_eq_true])
            rw [pk_us]
            refine Ev.iconst (v := 1) dX6_told_208 (by decide) ?_
            refine Ev.isub dX6_told_209 ?_
            rw [hpre]
            refine Ev.iret dX6_told_210 rfl rfl ?_
            rw [← hQ]
            have hyes : tldok S.1.1 s k q p sh le ow ∧ ¬ (S.1.1 329 = 1 ∧ ab (xR S.1.1 (-1)) < ab (xR (ad1 S.1.1 s k q p sh le ow) (-1))) := ⟨⟨o1, o2, o3, o4, o5, o6⟩, (hwo.resolve_left (fun y => absurd (y.1.symm.trans c176) (by decide))).2⟩
            rw [sp_told, if_pos hyes]
            refine ⟨_, rfl, en.symm, _, _, hZ, y4 _ _ _ QT.rf.m ⟨?_, fun z => ?_⟩⟩
            · rw [ux_s, y1]
              exact hA2.ad1 hn
            · exact absurd z (by show ¬ ad1 S.1.1 s k q p sh le ow 329 = 2; rw [ad1_hi hn (by omega)]; exact o6)
          · refine Ev.iconst (v := -1) dX6_told_179 (by decide) ?_
            refine Ev.iret dX6_told_180 rfl rfl ?_
            exact hno (fun z => z.2 ((hwo.resolve_right (fun y => c176 y.1)).2)) hZ hq.m (by rw [ux_s]; exact hR2)
        have hAf : Ag (upd (add8 (X 1) (bn S.1.1) s k q p sh le ow) 328 (nI (bn S.1.1 + 1))) (ad1 S.1.1 s k q p sh le ow) := hA1
        have e9' : upd (add8 (X 1) (bn S.1.1) s k q p sh le ow) 328 (nI (bn S.1.1 + 1)) 329 = S.1.1 329 := by rw [pk_un (by omega), add8_lo (by omega), e9]
        refine Ev.ist9 dX6_told_117 rfl rfl ?_
        refine Ev.ald0 dX6_told_119 ?_
        refine Ev.ild1 dX6_told_120 ?_
        refine Ev.ild2 dX6_told_121 ?_
        refine Ev.ild3 dX6_told_122 ?_
        refine Ev.ild4 dX6_told_123 ?_
        refine Ev.ild5 dX6_told_125 ?_
        refine Ev.ild6 dX6_told_127 ?_
        refine Ev.ild7 dX6_told_129 ?_
        refine Ev.cvV (Yc := mX6_puts_) (ci := 6) dX6_told_131 lX6_299 vX6_puts_ rfl (m_puts (n := bn S.1.1) (by rw [x1, e8, en]) hn hZ) ⟨_, hZ.2.1.1⟩ rfl rfl rfl rfl ?_
        rintro M2 hZ
        rw [x1] at hZ
        refine Ev.ald0 dX6_told_134 ?_
        refine Ev.mgr (kx := 1) dX6_told_135 fX6_13 hZ rfl ?_
        refine Ev.sipush (v := 329) dX6_told_138 (by decide) ?_
        refine Ev.mld (j := 329) mq1 dX6_told_141 hZ (by first | assumption | (simp only [nI, Int32.ofNat_add, Int32.ofNat_mul]; done) | (simp only [nI, Int32.ofNat_add, Int32.ofNat_mul]; rfl) | rfl) (by omega) ?_
        (try simp only [ux_s, ux_n, ne_eq, Nat.reduceEqDiff, Nat.succ_ne_self, not_false_eq_true])
        rw [e9']
        refine Ev.iconst (v := 1) dX6_told_142 (by decide) ?_
        refine Ev.icmp_ne (tgt := 159) dX6_told_143 (by decide) (fun c143 => ?_) (fun c143 => ?_)
        · refine Ev.iconst (v := 0) dX6_told_159 (by decide) ?_
          exact J3 0 _ _ _ _ (Or.inr ⟨rfl, fun z => c143 z.1⟩) hZ ((hq0.tr hK.q).m) ux_s
        · refine Ev.ald0 dX6_told_146 ?_
          refine Ev.cvI (Yc := mX6_restNow) (ci := 6) dX6_told_147 lX6_296 vX6_restNow rfl (m_restNow hZ (by rw [ux_s]; exact hAf) (hB1.mono (by omega))) ⟨_, hZ.2.1.1⟩ rfl rfl rfl rfl ?_
          rintro y M3 ⟨hy, v3, X3, hZ, hK3⟩
          have x3 : X3 1 = upd (add8 (X 1) (bn S.1.1) s k q p sh le ow) 328 (nI (bn S.1.1 + 1)) := (hK3.1 1 (by decide)).trans ux_s
          refine Ev.ild9 dX6_told_150 ?_
          refine Ev.icmp_le (tgt := 159) dX6_told_152 (by decide) (fun c152 => ?_) (fun c152 => ?_)
          · refine Ev.iconst (v := 0) dX6_told_159 (by decide) ?_
            exact J3 0 _ _ _ _ (Or.inr ⟨rfl, fun z => absurd z.2 (Int32.not_lt.mpr (by rw [← hy, ← hwas c143]; exact c152))⟩) hZ (((hq0.tr hK.q).m).tr hK3.q) x3
          · refine Ev.iconst (v := 1) dX6_told_155 (by decide) ?_
            refine Ev.goto (tgt := 160) dX6_told_156 (by decide) ?_
            exact J3 1 _ _ _ _ (Or.inl ⟨rfl, c143, by rw [← hy, ← hwas c143]; exact Int32.not_le.mp c152⟩) hZ (((hq0.tr hK.q).m).tr hK3.q) x3
      have n40 : ¬ nI (bn S.1.1) = 40 := fun z => o5 (en.trans z)
      refine Ev.ist8 dX6_told_63 rfl rfl ?_
      refine Ev.ild8 dX6_told_65 ?_
      refine Ev.if_eq (tgt := 95) dX6_told_67 (by decide) (fun c67 => by first | exact absurd c67 (by decide) | exact absurd (by decide) c67) (fun c67 => ?_)
      refine Ev.ald0 dX6_told_70 ?_
      refine Ev.mgr (kx := 1) dX6_told_71 fX6_13 hZ rfl ?_
      refine Ev.sipush (v := 328) dX6_told_74 (by decide) ?_
      refine Ev.mld (j := 328) mq1 dX6_told_77 hZ (by first | assumption | (simp only [nI, Int32.ofNat_add, Int32.ofNat_mul]; done) | (simp only [nI, Int32.ofNat_add, Int32.ofNat_mul]; rfl) | rfl) (by omega) ?_
      (try simp only [ux_s, ux_n, ne_eq, Nat.reduceEqDiff, Nat.succ_ne_self, not_false_eq_true])
      rw [e8, en]
      refine Ev.bipush (v := 40) dX6_told_78 (by decide) ?_
      refine Ev.icmp_eq (tgt := 95) dX6_told_80 (by decide) (fun c80 => by first | exact absurd c80 n40 | exact absurd n40 c80) (fun c80 => ?_)
      refine Ev.ald0 dX6_told_83 ?_
      refine Ev.mgr (kx := 1) dX6_told_84 fX6_13 hZ rfl ?_
      refine Ev.sipush (v := 329) dX6_told_87 (by decide) ?_
      refine Ev.mld (j := 329) mq1 dX6_told_90 hZ (by first | assumption | (simp only [nI, Int32.ofNat_add, Int32.ofNat_mul]; done) | (simp only [nI, Int32.ofNat_add, Int32.ofNat_mul]; rfl) | rfl) (by omega) ?_
      (try simp only [ux_s, ux_n, ne_eq, Nat.reduceEqDiff, Nat.succ_ne_self, not_false_eq_true])
      rw [e9]
      refine Ev.iconst (v := 2) dX6_told_91 (by decide) ?_
      refine Ev.icmp_ne (tgt := 97) dX6_told_92 (by decide) (fun c92 => ?_) (fun c92 => by first | exact absurd o6 c92 | exact absurd c92 o6)
      refine Ev.ald0 dX6_told_97 ?_
      refine Ev.mgr (kx := 1) dX6_told_98 fX6_13 hZ rfl ?_
      refine Ev.sipush (v := 329) dX6_told_101 (by decide) ?_
      refine Ev.mld (j := 329) mq1 dX6_told_104 hZ (by first | assumption | (simp only [nI, Int32.ofNat_add, Int32.ofNat_mul]; done) | (simp only [nI, Int32.ofNat_add, Int32.ofNat_mul]; rfl) | rfl) (by omega) ?_
      (try simp only [ux_s, ux_n, ne_eq, Nat.reduceEqDiff, Nat.succ_ne_self, not_false_eq_true])
      rw [e9]
      refine Ev.iconst (v := 1) dX6_told_105 (by decide) ?_
      refine Ev.icmp_ne (tgt := 116) dX6_told_106 (by decide) (fun c106 => ?_) (fun c106 => ?_)
      · refine Ev.iconst (v := 0) dX6_told_116 (by decide) ?_
        exact J2 _ _ _ M (fun z => absurd z c106) hZ KP.rf
      · refine Ev.ald0 dX6_told_109 ?_
        refine Ev.cvI (Yc := mX6_restNow) (ci := 6) dX6_told_110 lX6_296 vX6_restNow rfl (m_restNow hZ hA (hB.mono (by omega))) ⟨_, hZ.2.1.1⟩ rfl rfl rfl rfl ?_
        rintro y M3 ⟨hy, v3, X3, hZ, hK3⟩
        refine Ev.goto (tgt := 117) dX6_told_113 (by decide) ?_
        exact J2 _ _ _ M3 (fun _ => hy) hZ hK3
    · have hc2 : ¬ (tldok S.1.1 s k q p sh le ow ∧ ¬ (S.1.1 329 = 1 ∧ ab (xR S.1.1 (-1)) < ab (xR (ad1 S.1.1 s k q p sh le ow) (-1)))) := fun z => hok z.1
      refine Ev.ist8 dX6_told_63 rfl rfl ?_
      refine Ev.ild8 dX6_told_65 ?_
      refine Ev.if_eq (tgt := 95) dX6_told_67 (by decide) (fun c67 => ?_) (fun c67 => ?_)
      · refine Ev.iconst (v := -1) dX6_told_95 (by decide) ?_
        refine Ev.iret dX6_told_96 rfl rfl ?_
        exact hno hc2 hZ hq0 hR.1
      · refine Ev.ald0 dX6_told_70 ?_
        refine Ev.mgr (kx := 1) dX6_told_71 fX6_13 hZ rfl ?_
        refine Ev.sipush (v := 328) dX6_told_74 (by decide) ?_
        refine Ev.mld (j := 328) mq1 dX6_told_77 hZ (by first | assumption | (simp only [nI, Int32.ofNat_add, Int32.ofNat_mul]; done) | (simp only [nI, Int32.ofNat_add, Int32.ofNat_mul]; rfl) | rfl) (by omega) ?_
        (try simp only [ux_s, ux_n, ne_eq, Nat.reduceEqDiff, Nat.succ_ne_self, not_false_eq_true])
        rw [e8]
        refine Ev.bipush (v := 40) dX6_told_78 (by decide) ?_
        refine Ev.icmp_eq (tgt := 95) dX6_told_80 (by decide) (fun c80 => ?_) (fun c80 => ?_)
        · refine Ev.iconst (v := -1) dX6_told_95 (by decide) ?_
          refine Ev.iret dX6_told_96 rfl rfl ?_
          exact hno hc2 hZ hq0 hR.1
        · refine Ev.ald0 dX6_told_83 ?_
          refine Ev.mgr (kx := 1) dX6_told_84 fX6_13 hZ rfl ?_
          refine Ev.sipush (v := 329) dX6_told_87 (by decide) ?_
          refine Ev.mld (j := 329) mq1 dX6_told_90 hZ (by first | assumption | (simp only [nI, Int32.ofNat_add, Int32.ofNat_mul]; done) | (simp only [nI, Int32.ofNat_add, Int32.ofNat_mul]; rfl) | rfl) (by omega) ?_
          (try simp only [ux_s, ux_n, ne_eq, Nat.reduceEqDiff, Nat.succ_ne_self, not_false_eq_true])
          rw [e9]
          refine Ev.iconst (v := 2) dX6_told_91 (by decide) ?_
          refine Ev.icmp_ne (tgt := 97) dX6_told_92 (by decide) (fun c92 => ?_) (fun c92 => ?_)
          · exact absurd ⟨(hc.resolve_right (fun y => c67 y.1)).2.1, (hc.resolve_right (fun y => c67 y.1)).2.2.1, (hc.resolve_right (fun y => c67 y.1)).2.2.2.1, (hc.resolve_right (fun y => c67 y.1)).2.2.2.2, c80, c92⟩ hok
          · refine Ev.iconst (v := -1) dX6_told_95 (by decide) ?_
            refine Ev.iret dX6_told_96 rfl rfl ?_
            exact hno hc2 hZ hq0 hR.1
  refine Ct.of (ls := [some (.ref (a 0)), some (.int s), some (.int k), some (.int q), some (.int p), some (.int sh), some (.int le), some (.int ow), none, none, none]) (by decide) (by decide) rfl rfl rfl ?_
  rw [hQ]
  refine Ev.ald0 dX6_told_0 ?_
  refine Ev.iconst (v := 0) dX6_told_1 (by decide) ?_
  refine Ev.mput (kx := 0) dX6_told_2 fX6_1 hZ rfl rfl (fun M hZ => ?_)
  refine Ev.ild1 dX6_told_5 ?_
  refine Ev.ild2 dX6_told_6 ?_
  refine Ev.ild3 dX6_told_7 ?_
  refine Ev.ild4 dX6_told_8 ?_
  refine Ev.csI (Yc := mX6_isTold) dX6_told_10 lX6_290 vX6_isTold rfl m_isTold rfl rfl rfl ?_
  rintro y10 M9 ⟨rfl, hy10⟩
  refine Ev.if_eq (tgt := 62) dX6_told_13 (by decide) (fun c13 => ?_) (fun c13 => ?_)
  · refine Ev.iconst (v := 0) dX6_told_62 (by decide) ?_
    exact J 0 _ (Or.inr ⟨rfl, fun z => absurd c13 (by rw [(hy10.resolve_right (fun y => y.1 z.1)).2]; decide)⟩) hZ
  · refine Ev.ild2 dX6_told_16 ?_
    refine Ev.iconst (v := 3) dX6_told_17 (by decide) ?_
    refine Ev.icmp_ne (tgt := 33) dX6_told_18 (by decide) (fun c18 => ?_) (fun c18 => ?_)
    · refine Ev.ild6 dX6_told_33 ?_
      refine Ev.i2l dX6_told_35 ?_
      refine Ev.lconst (v := 0) dX6_told_36 (by decide) ?_
      refine Ev.ild3 dX6_told_37 ?_
      refine Ev.i2l dX6_told_38 ?_
      refine Ev.csI (Yc := mX6_within) dX6_told_39 lX6_93 vX6_within rfl (m_wI (y := 0) (z := q) (by decide) rfl) rfl rfl rfl ?_
      rintro y39 M9 ⟨hy39, rfl⟩
      refine Ev.if_eq (tgt := 62) dX6_told_42 (by decide) (fun c42 => ?_) (fun c42 => ?_)
      · refine Ev.iconst (v := 0) dX6_told_62 (by decide) ?_
        exact J 0 _ (Or.inr ⟨rfl, fun z => v01_f hy39 c42 z.2.2.1⟩) hZ
      · refine Ev.ild7 dX6_told_45 ?_
        refine Ev.i2l dX6_told_47 ?_
        refine Ev.lconst (v := 0) dX6_told_48 (by decide) ?_
        refine Ev.ldc2 dX6_told_49 kX6_294 ?_
        refine Ev.csI (Yc := mX6_within) dX6_told_52 lX6_93 vX6_within rfl (m_wI (y := 0) (z := 7) (by decide) (by decide)) rfl rfl rfl ?_
        rintro y52 M9 ⟨hy52, rfl⟩
        refine Ev.if_eq (tgt := 62) dX6_told_55 (by decide) (fun c55 => ?_) (fun c55 => ?_)
        · refine Ev.iconst (v := 0) dX6_told_62 (by decide) ?_
          exact J 0 _ (Or.inr ⟨rfl, fun z => v01_f hy52 c55 z.2.2.2⟩) hZ
        · refine Ev.iconst (v := 1) dX6_told_58 (by decide) ?_
          refine Ev.goto (tgt := 63) dX6_told_59 (by decide) ?_
          exact J 1 _ (Or.inl ⟨rfl, (hy10.resolve_right (fun y => c13 y.2)).1, Or.inl c18, v01_t hy39 c42, v01_t hy52 c55⟩) hZ
    · refine Ev.ild5 dX6_told_21 ?_
      refine Ev.i2l dX6_told_23 ?_
      refine Ev.lconst (v := 1) dX6_told_24 (by decide) ?_
      refine Ev.ild3 dX6_told_25 ?_
      refine Ev.i2l dX6_told_26 ?_
      refine Ev.csI (Yc := mX6_within) dX6_told_27 lX6_93 vX6_within rfl (m_wI (y := 1) (z := q) (by decide) rfl) rfl rfl rfl ?_
      rintro y27 M9 ⟨hy27, rfl⟩
      refine Ev.if_eq (tgt := 62) dX6_told_30 (by decide) (fun c30 => ?_) (fun c30 => ?_)
      · refine Ev.iconst (v := 0) dX6_told_62 (by decide) ?_
        exact J 0 _ (Or.inr ⟨rfl, fun z => v01_f hy27 c30 (z.2.1.resolve_left (fun y => y c18))⟩) hZ
      · refine Ev.ild6 dX6_told_33 ?_
        refine Ev.i2l dX6_told_35 ?_
        refine Ev.lconst (v := 0) dX6_told_36 (by decide) ?_
        refine Ev.ild3 dX6_told_37 ?_
        refine Ev.i2l dX6_told_38 ?_
        refine Ev.csI (Yc := mX6_within) dX6_told_39 lX6_93 vX6_within rfl (m_wI (y := 0) (z := q) (by decide) rfl) rfl rfl rfl ?_
        rintro y39 M9 ⟨hy39, rfl⟩
        refine Ev.if_eq (tgt := 62) dX6_told_42 (by decide) (fun c42 => ?_) (fun c42 => ?_)
        · refine Ev.iconst (v := 0) dX6_told_62 (by decide) ?_
          exact J 0 _ (Or.inr ⟨rfl, fun z => v01_f hy39 c42 z.2.2.1⟩) hZ
        · refine Ev.ild7 dX6_told_45 ?_
          refine Ev.i2l dX6_told_47 ?_
          refine Ev.lconst (v := 0) dX6_told_48 (by decide) ?_
          refine Ev.ldc2 dX6_told_49 kX6_294 ?_
          refine Ev.csI (Yc := mX6_within) dX6_told_52 lX6_93 vX6_within rfl (m_wI (y := 0) (z := 7) (by decide) (by decide)) rfl rfl rfl ?_
          rintro y52 M9 ⟨hy52, rfl⟩
          refine Ev.if_eq (tgt := 62) dX6_told_55 (by decide) (fun c55 => ?_) (fun c55 => ?_)
          · refine Ev.iconst (v := 0) dX6_told_62 (by decide) ?_
            exact J 0 _ (Or.inr ⟨rfl, fun z => v01_f hy52 c55 z.2.2.2⟩) hZ
          · refine Ev.iconst (v := 1) dX6_told_58 (by decide) ?_
            refine Ev.goto (tgt := 63) dX6_told_59 (by decide) ?_
            exact J 1 _ (Or.inl ⟨rfl, (hy10.resolve_right (fun y => c13 y.2)).1, Or.inr (v01_t hy27 c30), v01_t hy39 c42, v01_t hy52 c55⟩) hZ
end MMB
