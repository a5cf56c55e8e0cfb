/-! notice: hidden orders stand with nothing -/
def NZ (f fz : Nat → Int32) (n : Nat) : Prop := (∀ k, k < n → ∀ i, i < 8 → i ≠ 2 → f (8 * k + i) = fz (8 * k + i)) ∧ ∀ k, k < n → (f (8 * k + 1) = 2 ∧ f (8 * k + 2) = 0) ∨ (¬ f (8 * k + 1) = 2 ∧ f (8 * k + 2) = fz (8 * k + 2))
def saz (f sa : Nat → Int32) : Nat → Int32 := fun k => if f (8 * k + 1) = 2 then 1 else sa k
def nzc (f : Nat → Int32) : Nat → Int32 := fun k => if f (8 * k + 7) ≠ 0 ∨ f (8 * k + 1) = 2 then 0 else 1
theorem ad4_0 {t : T4} {sd kd : Int32} : ad4 t sd kd 0 = t := by
  rw [ad4]
  split
  · simp only [ite_self, Int32.add_zero]
  · simp only [ite_self, Int32.add_zero]
section NTC
variable {f fz sa tu : Nat → Int32} {n : Nat}
theorem hs2_nz (h : NZ f fz n) {k : Nat} (hk : k < n) {H : Hs} : hs2 H f k = hs2 H fz k ∧ ht1 H f k = ht1 H fz k := by
  have c0 := h.1 k hk 0 (by decide) (by decide)
  have c1 := h.1 k hk 1 (by decide) (by decide)
  have c3 := h.1 k hk 3 (by decide) (by decide)
  have c4 := h.1 k hk 4 (by decide) (by decide)
  refine ⟨?_, by rw [ht1, ht1, c0, c1, c3]⟩
  rw [hs2, hs2, ky, ky]
  rcases h.2 k hk with ⟨e1, -⟩ | ⟨-, e2⟩
  · have e1' : fz (8 * k + 1) = 2 := by rw [← c1]; exact e1
    rw [c0, c1, c3, c4, e1', if_neg (show ¬ ((2 : Int32) = 3 ∧ fz (8 * k + 4) < f (8 * k + 2)) from fun z => absurd z.1 (by decide)), if_neg (show ¬ ((2 : Int32) = 3 ∧ fz (8 * k + 4) < fz (8 * k + 2)) from fun z => absurd z.1 (by decide))]
  · rw [c0, c1, c3, c4, e2]
theorem hld_nz (h : NZ f fz n) {H0 : Hs} : ∀ k, k ≤ n → hld f H0 k = hld fz H0 k
  | 0, _ => rfl
  | k + 1, hk => by
    rw [hld, hld, hld_nz h k (by omega), h.1 k (by omega) 7 (by decide) (by decide), (hs2_nz h (show k < n by omega)).1, (hs2_nz h (show k < n by omega)).2]
theorem pas_nz (h : NZ f fz n) {k : Nat} (hk : k < n) {t : T4} : pas t f sa k = pas t fz (saz f sa) k := by
  rw [pas, pas, saz]
  have c0 := h.1 k hk 0 (by decide) (by decide)
  have c1 := h.1 k hk 1 (by decide) (by decide)
  rcases h.2 k hk with ⟨e1, e2⟩ | ⟨e1, e2⟩
  · rw [if_pos e1, if_neg (show ¬ (1 : Int32) = 0 by decide), e2]
    by_cases c : sa k = 0
    · rw [if_pos c]
      have : (if f (8 * k + 0) = 0 then -(0 : Int32) else 0) = 0 := by split <;> rfl
      rw [this, ad4_0]
    · rw [if_neg c]
  · rw [if_neg e1, c0, c1, e2]
theorem sba_nz (h : NZ f fz n) : ∀ k, k ≤ n → sba f sa k = sba fz (saz f sa) k
  | 0, _ => rfl
  | k + 1, hk => by
    have hk' : k < n := by omega
    have c0 := h.1 k hk' 0 (by decide) (by decide)
    have c1 := h.1 k hk' 1 (by decide) (by decide)
    rw [sba, sba, sba_nz h k (by omega), saz]
    rcases h.2 k hk' with ⟨e1, e2⟩ | ⟨e1, e2⟩
    · rw [if_pos e1, if_neg (show ¬ ((1 : Int32) = 0 ∧ (fz (8 * k + 1) = 0 ∨ fz (8 * k + 0) = 0)) from fun z => absurd z.1 (by decide)), e2, ad4_0]
      split <;> rfl
    · rw [if_neg e1, c0, c1, e2]
theorem adv_nz (h : NZ f fz n) {tc : Nat} (ht : ∀ j, j < tc → nb (tu j) < n) {fr : Int32} : ∀ (d j : Nat) (t : T4), j + d ≤ tc → adv f sa tu fr d j t = adv fz (saz f sa) tu fr d j t
  | 0, _, _, _ => rfl
  | d + 1, j, t, hj => by
    rw [adv, adv, pas_nz h (ht j (by omega)), adv_nz h ht d (j + 1) _ (by omega)]
theorem fpl_nz (h : NZ f fz n) {tc : Nat} (ht : ∀ j, j < tc → nb (tu j) < n) {hi : Int32} : ∀ (e : Nat) (fr : Int32) (j : Nat) (t : T4) (g : Nat → Int32), j ≤ tc → fpl f sa tu tc hi e fr j t g = fpl fz (saz f sa) tu tc hi e fr j t g
  | 0, _, _, _, _, _ => rfl
  | e + 1, fr, j, t, g, hj => by
    have hl := adv_le (f := fz) (sa := saz f sa) (tu := tu) (fr := fr) (tc - j) j t
    rw [fpl, fpl, adv_nz h ht (tc - j) j t (by omega), fpl_nz h ht e _ _ _ _ (by omega)]
end NTC
/-- what a price's search found -/
def PRg (g m ct : Nat → Int32) : Prop := g 0 = (rP m ct (qt m) (bn m) (blo m) (bhi m)).1 ∧ g 1 = rV m ct (qt m) (bn m) (blo m) (bhi m) ∧ g 2 = rR m ct (qt m) (bn m) (blo m) (bhi m) ∧ g 3 = (rP m ct (qt m) (bn m) (blo m) (bhi m)).2.1 ∧ g 4 = (rP m ct (qt m) (bn m) (blo m) (bhi m)).2.2 ∧ ((rP m ct (qt m) (bn m) (blo m) (bhi m)).1 < 0 → rV m ct (qt m) (bn m) (blo m) (bhi m) = 0 ∧ (rP m ct (qt m) (bn m) (blo m) (bhi m)).2.1 = 0)
theorem lus_no {f fl : Nat → Int32} : ∀ i, (∀ k, k < i → f (8 * k + 5) = 0) → lus f fl i = -1
  | 0, _ => rfl
  | i + 1, h => by
    rw [lus, if_neg, lus_no i (fun k hk => h k (by omega))]
    rintro ⟨z2, z3⟩
    rw [h i (by omega)] at z3
    exact Int32.lt_irrefl (Int32.lt_trans z2 z3)
section NTK
variable {G : GP} {M : Wd} {q : Nat → Nat} {na : Nat} {S : Sg}
theorem k_hrN {h rr z r w : Nat} {ph : Int32} {f fz b : Nat → Int32} (hj : Inj (AD (aq q) h rr)) (hb : BW 41 b) (hB : gt M h = some (bk r w (bn b) ph (b 330) (b 331) (b 332))) (hR : gt M rr = some (ia 0 z f)) (hz : 8 * bn b ≤ z) (hz2 : z ≤ 100000) (hNZ : NZ f fz (bn b)) (hf : Ar (bn b) fz b) (hle : ∀ k, k < bn b → f (8 * k + 5) = 0) (hA : AWc (aq q) M) : CtV G mX0_hold [.ref (q 13), .ref h, .ref rr] M 0 0 (fun M' => Fr (afr (aq q)) M M' ∧ AWc (aq q) M' ∧ CtV G mX0_run [.ref (q 13), .int (-1)] M' 0 0 (fun M2 => Fr (afr (aq q)) M M2 ∧ AWc (aq q) M2 ∧ ∃ (g : Nat → Int32) (i1 i2 i3 i4 : Int32), gt M2 (q 13) = some (auc (AD (aq q) h rr) i1 i2 i3 i4) ∧ gt M2 (q 11) = some (cc g) ∧ PRg g b (nzc f))) := by
  obtain ⟨e8, hn, hO, elo, ehi, b1, b2, b3, rf, r1, r2, e0⟩ := hb
  have hOz : OW fz (bn b) := hO.cm hf.sy
  rw [e0, elo, ehi] at hB
  obtain ⟨so, po, t0, r0, i1, i2, i3, i4, ov, hp, vo, re, t, g, fl, tr, sa, cn, tu, s0, s1, p0, p1, hs, q3, q0, q1, q2, q6, q7, q8, q9, q10, q11, q15, q16, q17, q18⟩ := hA
  have C := a_hold (G := G) (ad := AD (aq q) h rr) hj hs.1 hs.2.1 q3 q8 q10 q11 q15 q16 hR hB hn hz hz2 (fun k hk => by
    have := hOz.sd hk
    rw [← hNZ.1 k hk 0 (by decide) (by decide)] at this
    exact this)
  refine C.imp ?_
  rintro M' ⟨hP, hF⟩
  rw [hld_nz hNZ _ (Nat.le_refl _)] at hP
  obtain ⟨⟨c0, c1, hS, -, -⟩, u1, u2, u3⟩ := hld_sp hOz hn (s0, s1, cn, tu, 0) (bn b) (Nat.le_refl _)
  obtain ⟨l0, k0, k1⟩ := LSl_of hOz hn hS.2.2.1 hS.2.2.2.2.1
  obtain ⟨l1, k2, k3⟩ := LSl_of hOz hn hS.2.2.2.1 hS.2.2.2.2.2
  have hRO : RO fz b (hld fz (s0, s1, cn, tu, 0) (bn b)).2.2.2.1 (hld fz (s0, s1, cn, tu, 0) (bn b)).1 (hld fz (s0, s1, cn, tu, 0) (bn b)).2.1 (bn b) (hld fz (s0, s1, cn, tu, 0) (bn b)).2.2.2.2 rf (blo b) (bhi b) l0 l1 := ⟨hOz, hn, hf, e0, by omega, b1, b2, b3, TU_of u1 u2, k0, k2⟩
  have hc0 : (hld fz (s0, s1, cn, tu, 0) (bn b)).2.2.1 0 = nI l0.length := by rw [k1]; exact hS.1
  have hc1 : (hld fz (s0, s1, cn, tu, 0) (bn b)).2.2.1 1 = nI l1.length := by rw [k3]; exact hS.2.1
  have htu := fun j hj => tu_at hOz hn hRO.tu (i := j) hj
  generalize hld fz (s0, s1, cn, tu, 0) (bn b) = HH at *
  obtain ⟨p3, p8, p10, p11, p15, p16, p14⟩ := hP
  have N : ∀ i, i < 20 → i ∉ [3, 10, 11, 15, 16] → AD (aq q) h rr i ∉ hfr (AD (aq q) h rr) := fun i hi hn => nin hj hi (by decide) hn
  have m0 := hF.rd (N 0 (by decide) (by decide)) q0
  have m1 := hF.rd (N 1 (by decide) (by decide)) q1
  have m2 := hF.rd (N 2 (by decide) (by decide)) q2
  have m6 := hF.rd (N 6 (by decide) (by decide)) q6
  have m7 := hF.rd (N 7 (by decide) (by decide)) q7
  have m9 := hF.rd (N 9 (by decide) (by decide)) q9
  have m17 := hF.rd (N 17 (by decide) (by decide)) q17
  have m18 := hF.rd (N 18 (by decide) (by decide)) q18
  have m13 : gt M' (AD (aq q) h rr 13) = _ := hF.rd (N 13 (by decide) (by decide)) hB
  have hF1 : Fr (afr (aq q)) M M' := by
    refine hF.mono (fun a ha => ?_)
    simp only [hfr, List.mem_cons, List.not_mem_nil, or_false] at ha
    simp only [afr, List.mem_cons, List.not_mem_nil, or_false]
    rcases ha with e | e | e | e | e <;> simp [e, AD]
  refine ⟨hF1, ⟨so, po, h, rr, i1, i2, i3, _, ov, hp, vo, re, t, g, fl, tr, sa, _, _, _, _, p0, p1, hs, p3, m0, m1, m2, m6, m7, p8, m9, p10, p11, p15, p16, m17, m18⟩, ?_⟩
  obtain ⟨e1, e2, e3, e4, e5⟩ := hRO.cnt
  have C2 := a_run (G := G) (x := -1) (ad := AD (aq q) h rr) (K := mkK f HH.2.2.2.1 HH.2.2.2.2 (bn b) rf (blo b) (bhi b) HH.1 HH.2.1 l0.length l1.length) (so := so) (po := po) (z := z) (cn := HH.2.2.1) (r := r) (w := w) (ph := ph) (D := (sa, g, fl, p0, p1)) (i1 := i1) (i2 := i2) (i3 := i3) (M := M') hj ⟨hs.1, hs.2.1, hs.2.2.1, hs.2.2.2, hc0, hc1, e1, e2, hn, hz, hz2, by show HH.2.2.2.2 ≤ 41; omega, e3, e4, e5⟩ ⟨p8, m9, p10, p11, m13, p14, p15, p16⟩ ⟨t, ov, hp, vo, re, p3, m0, m1, m2, m7, m17, m18⟩
  refine C2.imp ?_
  rintro M2 ⟨⟨t', ov', hp', vo', re', g3, g0, g1, g2, g7, g17, g18⟩, hF2⟩
  have N2 : ∀ i, i < 20 → i ∉ [3, 0, 1, 2, 7, 17, 18] → AD (aq q) h rr i ∉ rfr (AD (aq q) h rr) := fun i hi hn => nin hj hi (by decide) hn
  have hF3 : Fr (afr (aq q)) M' M2 := by
    refine hF2.mono (fun a ha => ?_)
    simp only [rfr, List.mem_cons, List.not_mem_nil, or_false] at ha
    simp only [afr, List.mem_cons, List.not_mem_nil, or_false]
    rcases ha with e | e | e | e | e | e | e <;> simp [e, AD]
  refine ⟨hF1.tr hF3, ⟨so, po, h, rr, _, _, i3, _, ov', hp', vo', re', t', _, _, tr, _, _, _, _, _, _, _, hs, g3, g0, g1, g2, hF2.rd (N2 6 (by decide) (by decide)) m6, g7, hF2.rd (N2 8 (by decide) (by decide)) p8, hF2.rd (N2 9 (by decide) (by decide)) m9, hF2.rd (N2 10 (by decide) (by decide)) p10, hF2.rd (N2 11 (by decide) (by decide)) p11, hF2.rd (N2 15 (by decide) (by decide)) p15, hF2.rd (N2 16 (by decide) (by decide)) p16, g17, g18⟩, _, _, _, _, _, g3, g1, ?_⟩
  have eR : (rlp (mkK f HH.2.2.2.1 HH.2.2.2.2 (bn b) rf (blo b) (bhi b) HH.1 HH.2.1 l0.length l1.length) ((mkK f HH.2.2.2.1 HH.2.2.2.2 (bn b) rf (blo b) (bhi b) HH.1 HH.2.1 l0.length l1.length).2.2.2.1 + 1) 1 (st0 (mkK f HH.2.2.2.1 HH.2.2.2.2 (bn b) rf (blo b) (bhi b) HH.1 HH.2.1 l0.length l1.length).1 (-1) sa (mkK f HH.2.2.2.1 HH.2.2.2.2 (bn b) rf (blo b) (bhi b) HH.1 HH.2.1 l0.length l1.length).2.2.2.1, g, fl, p0, p1)).2.2.1 = rdg (mkK f HH.2.2.2.1 HH.2.2.2.2 (bn b) rf (blo b) (bhi b) HH.1 HH.2.1 l0.length l1.length) (st0 f (-1) sa (bn b), g, fl, p0, p1) := by
    rw [rlp, if_pos (lus_no _ hle)]
    rfl
  have eG : rdg (mkK f HH.2.2.2.1 HH.2.2.2.2 (bn b) rf (blo b) (bhi b) HH.1 HH.2.1 l0.length l1.length) (st0 f (-1) sa (bn b), g, fl, p0, p1) = rdg (mkK fz HH.2.2.2.1 HH.2.2.2.2 (bn b) rf (blo b) (bhi b) HH.1 HH.2.1 l0.length l1.length) (saz f (st0 f (-1) sa (bn b)), g, fl, p0, p1) := by
    rw [rdg, rdg]
    show dcd (fpl f (st0 f (-1) sa (bn b)) HH.2.2.2.1 HH.2.2.2.2 (nI (bhi b)) (HH.2.2.2.2 + 1) (nI (blo b)) 0 (sba f (st0 f (-1) sa (bn b)) (bn b)) _) = dcd (fpl fz (saz f (st0 f (-1) sa (bn b))) HH.2.2.2.1 HH.2.2.2.2 (nI (bhi b)) (HH.2.2.2.2 + 1) (nI (blo b)) 0 (sba fz (saz f (st0 f (-1) sa (bn b))) (bn b)) _)
    rw [sba_nz hNZ _ (Nat.le_refl _), fpl_nz hNZ (fun j hj => by
      obtain ⟨o, o1, -, -, -, o2, -⟩ := htu j hj
      rw [o2]
      exact o1) _ _ _ _ _ (Nat.zero_le _)]
  have hCA : CA fz (bn b) (saz f (st0 f (-1) sa (bn b))) (nzc f) := by
    have key : ∀ k, k < bn b → (saz f (st0 f (-1) sa (bn b)) k = 0 ↔ ¬ (f (8 * k + 7) ≠ 0 ∨ f (8 * k + 1) = 2)) := by
      intro k hk
      rw [saz, st0_at (bn b) k hk]
      by_cases a : f (8 * k + 1) = 2
      · rw [if_pos a]
        exact ⟨fun z => absurd z (by decide), fun z => absurd (Or.inr a) z⟩
      · rw [if_neg a]
        by_cases c : f (8 * k + 7) ≠ 0
        · rw [if_pos (Or.inr c)]
          exact ⟨fun z => absurd z (by decide), fun z => absurd (Or.inl c) z⟩
        · rw [if_neg (fun z => z.elim (nI_n1 (by omega)) c)]
          exact ⟨fun _ z => z.elim c a, fun _ => rfl⟩
    refine ⟨fun k hk => ?_, fun k hk z => ?_⟩
    · rw [key k hk, nzc]
      by_cases a : f (8 * k + 7) ≠ 0 ∨ f (8 * k + 1) = 2
      · rw [if_pos a]
        exact ⟨fun z => absurd rfl z, fun z => absurd a z⟩
      · rw [if_neg a]
        exact ⟨fun _ => a, fun _ => by decide⟩
    · rw [← hNZ.1 k hk 7 (by decide) (by decide)]
      exact Classical.not_not.mp (fun w => (key k hk).mp z (Or.inl w))
  obtain ⟨a0, a1, a2, a3, a4, -, a5⟩ := rd_g hRO (D := (saz f (st0 f (-1) sa (bn b)), g, fl, p0, p1)) hCA
  have eT := eR.trans eG
  refine ⟨?_, ?_, ?_, ?_, ?_, a5⟩
  · rw [← a0]; exact congrFun eT 0
  · rw [← a1]; exact congrFun eT 1
  · rw [← a2]; exact congrFun eT 2
  · rw [← a3]; exact congrFun eT 3
  · rw [← a4]; exact congrFun eT 4
end NTK
