/-! what the reference's rows come to: sums in one line, slices as one list -/
noncomputable def bs4 (m ct my : Nat → Int32) (p : Int32) : Nat → T4
  | 0 => (0, 0, 0, 0)
  | k + 1 => if ct k ≠ 0 ∧ (m (8 * k + 1) = 0 ∨ (m (8 * k + 0) = 0 ∧ p ≤ m (8 * k + 3) ∨ m (8 * k + 0) ≠ 0 ∧ m (8 * k + 3) ≤ p)) then ad4 (bs4 m ct my p k) (m (8 * k + 0)) (m (8 * k + 1)) (my k) else bs4 m ct my p k
theorem sfx_lo (b : Nat → Int32) : ∀ (d p : Nat), d ≤ 999 → p ≤ 999 - d → sfx b d p = b p
  | 0, p, _, _ => rfl
  | d + 1, p, hd, h => by
    rw [sfx, pk_un (by omega)]
    exact sfx_lo b d p (by omega) (by omega)
theorem sfx_top (b : Nat → Int32) : ∀ (d p : Nat), 999 < p → sfx b d p = b p
  | 0, p, _ => rfl
  | d + 1, p, h => by
    rw [sfx, pk_un (by omega)]
    exact sfx_top b d p h
theorem sfx_st (b : Nat → Int32) (p d : Nat) (h0 : 1 ≤ p) (h : 999 < p + d) : ∀ e, sfx b (d + e) p = sfx b d p
  | 0 => rfl
  | e + 1 => by
    rw [show d + (e + 1) = (d + e) + 1 by omega, sfx, pk_un (by omega)]
    exact sfx_st b p d h0 h e
theorem sfx_rec (b : Nat → Int32) (p : Nat) (h1 : 1 ≤ p) (h2 : p ≤ 999) : sfx b 999 p = b p + sfx b 999 (p + 1) := by
  have e1 := sfx_st b p (999 - p + 1) (by omega) (by omega) (p - 1)
  rw [show 999 - p + 1 + (p - 1) = 999 by omega] at e1
  rw [e1, sfx, show 999 - (999 - p) = p by omega, pk_us, sfx_lo b (999 - p) p (by omega) (by omega)]
  have e2 := sfx_st b (p + 1) (999 - p) (by omega) (by omega) p
  rw [show 999 - p + p = 999 by omega] at e2
  rw [e2]
theorem sfx_add (b : Nat → Int32) (q : Nat) (x : Int32) (hq : q ≤ 999) : ∀ d p, p + d = 1000 → 1 ≤ p → sfx (upd b q (b q + x)) 999 p = sfx b 999 p + (if p ≤ q then x else 0) := by
  intro d
  induction d with
  | zero =>
    intro p hp h1
    rw [sfx_top _ _ _ (by omega), sfx_top _ _ _ (by omega), pk_un (by omega), if_neg (by omega), Int32.add_zero]
  | succ d ih =>
    intro p hp h1
    rw [sfx_rec _ p h1 (by omega), sfx_rec b p h1 (by omega), ih (p + 1) (by omega) (by omega)]
    by_cases h : p = q
    · subst h
      rw [pk_us, if_neg (by omega), if_pos (by omega), Int32.add_zero, Int32.add_assoc, Int32.add_comm x, Int32.add_assoc]
    · rw [pk_un h]
      by_cases h3 : p < q
      · rw [if_pos (by omega), if_pos (by omega), Int32.add_assoc]
      · rw [if_neg (by omega), if_neg (by omega), Int32.add_assoc]
theorem sfx_0 (b : Nat → Int32) (hb : ∀ j, j ≤ 1000 → b j = 0) : ∀ d p, p + d = 1000 → 1 ≤ p → sfx b 999 p = 0 := by
  intro d
  induction d with
  | zero =>
    intro p hp h1
    rw [sfx_top _ _ _ (by omega)]
    exact hb p (by omega)
  | succ d ih =>
    intro p hp h1
    rw [sfx_rec _ p h1 (by omega), ih (p + 1) (by omega) (by omega), hb p (by omega)]
    rfl
theorem pfx_hi (b : Nat → Int32) : ∀ (d p : Nat), d < p → pfx b d p = b p
  | 0, p, _ => rfl
  | d + 1, p, h => by
    rw [pfx, pk_un (by omega)]
    exact pfx_hi b d p (by omega)
theorem pfx_0b (b : Nat → Int32) : ∀ (d : Nat), pfx b d 0 = b 0
  | 0 => rfl
  | d + 1 => by
    rw [pfx, pk_un (by omega)]
    exact pfx_0b b d
theorem pfx_st (b : Nat → Int32) (p d : Nat) (h : p ≤ d) : ∀ e, pfx b (d + e) p = pfx b d p
  | 0 => rfl
  | e + 1 => by
    rw [show d + (e + 1) = (d + e) + 1 by omega, pfx, pk_un (by omega)]
    exact pfx_st b p d h e
theorem pfx_rec (b : Nat → Int32) (p : Nat) (h2 : p + 1 ≤ 999) : pfx b 999 (p + 1) = b (p + 1) + pfx b 999 p := by
  have e1 := pfx_st b (p + 1) (p + 1) (by omega) (998 - p)
  rw [show p + 1 + (998 - p) = 999 by omega] at e1
  rw [e1, pfx, pk_us, pfx_hi b p (p + 1) (by omega)]
  have e2 := pfx_st b p p (by omega) (999 - p)
  rw [show p + (999 - p) = 999 by omega] at e2
  rw [e2]
theorem pfx_add (b : Nat → Int32) (q : Nat) (x : Int32) (hq : 1 ≤ q) : ∀ p, p ≤ 999 → pfx (upd b q (b q + x)) 999 p = pfx b 999 p + (if q ≤ p then x else 0) := by
  intro p
  induction p with
  | zero =>
    intro h1
    rw [pfx_0b, pfx_0b, pk_un (by omega), if_neg (by omega), Int32.add_zero]
  | succ p ih =>
    intro h1
    rw [pfx_rec _ p h1, pfx_rec b p h1, ih (by omega)]
    by_cases h : p + 1 = q
    · subst h
      rw [pk_us, if_neg (by omega), if_pos (by omega), Int32.add_zero, Int32.add_assoc, Int32.add_comm x, Int32.add_assoc]
    · rw [pk_un h]
      by_cases h3 : q < p + 1
      · rw [if_pos (by omega), if_pos (by omega), Int32.add_assoc]
      · rw [if_neg (by omega), if_neg (by omega), Int32.add_assoc]
theorem pfx_00 (b : Nat → Int32) (hb : ∀ j, j ≤ 1000 → b j = 0) : ∀ p, p ≤ 999 → pfx b 999 p = 0 := by
  intro p
  induction p with
  | zero =>
    intro h1
    rw [pfx_0b]
    exact hb 0 (by omega)
  | succ p ih =>
    intro h1
    rw [pfx_rec _ p h1, ih (by omega), hb (p + 1) (by omega)]
    rfl
theorem ite_and0 {p q : Prop} [Decidable p] [Decidable q] {x : Int32} : (if p ∧ q then x else 0) = (if p then (if q then x else 0) else 0) := by
  by_cases hp : p <;> by_cases hq : q <;> simp [hp, hq]
theorem fl0_in (f : Nat → Int32) : ∀ (n j : Nat), j < n → fl0 f 0 n j = 0
  | 0, j, h => by omega
  | n + 1, j, h => by
    rw [fl0]
    by_cases e : j = n
    · subst e
      exact pk_us
    · rw [pk_un e]
      exact fl0_in f n j (by omega)
theorem sm_eq {m ct my : Nat → Int32} {B : F4} (hB : (∀ j, j ≤ 1000 → B.1 j = 0) ∧ (∀ j, j ≤ 1000 → B.2.1 j = 0) ∧ (∀ j, j ≤ 1000 → B.2.2.1 j = 0) ∧ (∀ j, j ≤ 1000 → B.2.2.2 j = 0)) {p : Nat} (h1 : 1 ≤ p) (h2 : p ≤ 999) : ∀ n, (∀ k, k < n → ct k ≠ 0 → ∃ q, 1 ≤ q ∧ q ≤ 999 ∧ ppf m k = nI q) →
    (sfx (ls2 m ct my B n).1 999 p, pfx (ls2 m ct my B n).2.1 999 p, sfx (ls2 m ct my B n).2.2.1 999 p, pfx (ls2 m ct my B n).2.2.2 999 p) = bs4 m ct my (nI p) n
  | 0, _ => by
    rw [bs4, ls2, sfx_0 _ hB.1 (1000 - p) p (by omega) h1, pfx_00 _ hB.2.1 p h2, sfx_0 _ hB.2.2.1 (1000 - p) p (by omega) h1, pfx_00 _ hB.2.2.2 p h2]
  | n + 1, hp => by
    have ih := sm_eq hB h1 h2 n (fun k hk => hp k (by omega)) (m := m) (ct := ct) (my := my)
    rw [ls2, bs4]
    by_cases hc : ct n ≠ 0
    · obtain ⟨q, q1, q2, q3⟩ := hp n (by omega) hc
      have hz : (ppf m n).toNatClampNeg = q := by rw [q3]; exact nI_clamp (by omega)
      rw [if_pos hc, hz]
      simp only []
      rw [sfx_add _ q _ q2 (1000 - p) p (by omega) h1, pfx_add _ q _ q1 p h2, sfx_add _ q _ q2 (1000 - p) p (by omega) h1, pfx_add _ q _ q1 p h2]
      generalize bs4 m ct my (nI p) n = t at ih ⊢
      obtain ⟨t1, t2, t3, t4⟩ := t
      simp only [Prod.mk.injEq] at ih
      obtain ⟨i1, i2, i3, i4⟩ := ih
      rw [i1, i2, i3, i4]
      have hq3 : nI q = ppf m n := q3.symm
      by_cases hk : m (8 * n + 1) = 0
      · have h4 : ¬ (m (8 * n + 1) = 4) := by rw [hk]; decide
        have hw : ct n ≠ 0 ∧ (m (8 * n + 1) = 0 ∨ (m (8 * n + 0) = 0 ∧ nI p ≤ m (8 * n + 3) ∨ m (8 * n + 0) ≠ 0 ∧ m (8 * n + 3) ≤ nI p)) := ⟨hc, Or.inl hk⟩
        rw [if_pos hw]
        by_cases hs : m (8 * n + 0) = 0
        · have : q = 999 := by
            rw [ppf, if_pos hk, if_pos hs] at q3
            exact (nI_eq (by omega) (by omega)).mp q3.symm
          subst this
          simp only [ad4, if_pos hs, if_neg h4, hs, h4, not_true, not_false_eq_true, and_true, true_and, false_and, and_false, if_true, if_false, if_pos h2, ite_self, Int32.add_zero]
        · have : q = 1 := by
            rw [ppf, if_pos hk, if_neg hs] at q3
            exact (nI_eq (by omega) (by omega)).mp q3.symm
          subst this
          simp only [ad4, if_neg hs, if_neg h4, hs, h4, not_true, not_false_eq_true, and_true, true_and, false_and, and_false, if_true, if_false, if_pos h1, ite_self, Int32.add_zero]
      · rw [ppf, if_neg hk] at hq3
        have c1 : (nI p ≤ m (8 * n + 3)) = (p ≤ q) := by rw [← hq3]; exact propext (nI_leI (by omega) (by omega))
        have c2 : (m (8 * n + 3) ≤ nI p) = (q ≤ p) := by rw [← hq3]; exact propext (nI_leI (by omega) (by omega))
        simp only [c1, c2]
        generalize m (8 * n + 0) = S0
        generalize m (8 * n + 1) = K0 at hk ⊢
        by_cases hs : S0 = 0 <;> by_cases h4 : K0 = 4 <;> by_cases c : p ≤ q <;> by_cases c' : q ≤ p <;> simp [ad4, hs, h4, c, c', hc, hk]
    · rw [if_neg hc, if_neg (fun q => hc q.1)]
      exact ih
/-- orders in order -/
def OW (m : Nat → Int32) (n : Nat) : Prop := ∀ k, k < n → ∃ s kd q pr sh le ow g : Nat, m (8 * k + 0) = nI s ∧ m (8 * k + 1) = nI kd ∧ m (8 * k + 2) = nI q ∧ m (8 * k + 3) = nI pr ∧ m (8 * k + 4) = nI sh ∧ m (8 * k + 5) = nI le ∧ m (8 * k + 6) = nI ow ∧ m (8 * k + 7) = nI g ∧ s ≤ 1 ∧ kd ≤ 4 ∧ q ≤ 9999 ∧ pr ≤ 999 ∧ (kd = 0 ↔ pr = 0) ∧ sh ≤ q ∧ (kd ≠ 3 → sh = 0) ∧ le ≤ q ∧ ow ≤ 7 ∧ g ≤ 1 ∧ (g = 0 → 1 ≤ q) ∧ (g = 0 → kd = 3 → 1 ≤ sh)
theorem OW.pp {m : Nat → Int32} {n k : Nat} (h : OW m n) (hk : k < n) : ∃ q, 1 ≤ q ∧ q ≤ 999 ∧ ppf m k = nI q := by
  obtain ⟨s, kd, q, pr, sh, le, ow, g, e0, e1, e2, e3, e4, e5, e6, e7, b0, b1, b2, b3, b4, -⟩ := h k hk
  rw [ppf, e0, e1, e3]
  by_cases hkd : kd = 0
  · rw [hkd, if_pos nI_0]
    by_cases hs : s = 0
    · rw [hs, if_pos nI_0]
      exact ⟨999, by omega, by omega, rfl⟩
    · rw [if_neg (nI_ne0 (by omega) (by omega))]
      exact ⟨1, by omega, by omega, rfl⟩
  · rw [if_neg (nI_ne0 (by omega) (by omega))]
    exact ⟨pr, by omega, b3, rfl⟩
/-- a rank as a number -/
theorem OW.rk {m : Nat → Int32} {n k : Nat} (h : OW m n) (hk : k < n) (hn : n ≤ 41) (t : Nat) (ht : t < 2) : ∃ g e hd : Nat, g ≤ 2 ∧ e ≤ 999 ∧ hd ≤ 1 ∧ rkf m k (nI t) = nI (((g * 1000 + e) * 2 + hd) * 64 + k) ∧ (m (8 * k + 1) = 3 → hd = t) := by
  obtain ⟨s, kd, q, pr, sh, le, ow, g, e0, e1, e2, e3, e4, e5, e6, e7, b0, b1, b2, b3, b4, -⟩ := h k hk
  rw [rkf, e0, e1, e3]
  have G1 : ∃ g : Nat, g ≤ 2 ∧ (if nI kd = 4 then (2 : Int32) else if nI kd = 0 then 0 else 1) = nI g := by
    by_cases h4 : nI kd = 4
    · exact ⟨2, by omega, by rw [if_pos h4]; rfl⟩
    · by_cases h0 : nI kd = 0
      · exact ⟨0, by omega, by rw [if_neg h4, if_pos h0]; rfl⟩
      · exact ⟨1, by omega, by rw [if_neg h4, if_neg h0]; rfl⟩
  have G2 : ∃ e : Nat, e ≤ 999 ∧ (if nI kd = 0 then (0 : Int32) else if nI s = 0 then 999 - nI pr else nI pr) = nI e := by
    by_cases h0 : nI kd = 0
    · exact ⟨0, by omega, by rw [if_pos h0]; rfl⟩
    · by_cases hs : nI s = 0
      · refine ⟨999 - pr, by omega, ?_⟩
        rw [if_neg h0, if_pos hs]
        have : nI (999 - pr) + nI pr = 999 := by rw [nI_add, Nat.sub_add_cancel b3]; rfl
        rw [← this, Int32.add_sub_cancel]
      · exact ⟨pr, b3, by rw [if_neg h0, if_neg hs]⟩
  have G3 : ∃ hd : Nat, hd ≤ 1 ∧ (if nI kd = 2 ∨ nI t = 1 then (1 : Int32) else 0) = nI hd ∧ (nI kd = 3 → hd = t) := by
    by_cases h0 : nI kd = 2 ∨ nI t = 1
    · refine ⟨1, by omega, by rw [if_pos h0]; rfl, fun q => ?_⟩
      rcases h0 with h0 | h0
      · rw [h0] at q
        exact absurd q (by decide)
      · have : t = 1 := (nI_eq (by omega) (by omega)).mp (h0.trans (show (1 : Int32) = nI 1 from rfl))
        omega
    · refine ⟨0, by omega, by rw [if_neg h0]; rfl, fun q => ?_⟩
      by_cases ht1 : t = 1
      · exact absurd (Or.inr (by rw [ht1]; rfl)) h0
      · omega
  obtain ⟨g1, a1, a2⟩ := G1
  obtain ⟨e, a3, a4⟩ := G2
  obtain ⟨hd, a5, a6, a7⟩ := G3
  refine ⟨g1, e, hd, a1, a3, a5, ?_, a7⟩
  rw [a2, a4, a6]
  rw [show (1000 : Int32) = nI 1000 from rfl, show (64 : Int32) = nI 64 from rfl, show (2 : Int32) = nI 2 from rfl, pk_mul, nI_add, pk_mul, nI_add, pk_mul, nI_add]
theorem ptf_1 {m my : Nat → Int32} {k : Nat} (h : ¬ m (8 * k + 1) = 3) : ptf m my k (nI 1) = 0 := by
  rw [ptf, if_neg h]
  exact if_neg (by decide)
theorem OW.rko {m ct my : Nat → Int32} {n : Nat} {sd p : Int32} (h : OW m n) (hn : n ≤ 41) : RKo m ct my sd p n := by
  refine ⟨fun o t ho ht hv => ?_, fun o t o' t' ho ht ho' ht' hv hv' e => ?_⟩
  · obtain ⟨g, e, hd, a1, a2, a3, a4, -⟩ := h.rk ho hn t ht
    rw [a4]
    have := nI_pos' (n := ((g * 1000 + e) * 2 + hd) * 64 + o) (by omega)
    exact Int32.lt_of_lt_of_le (by decide) this
  · obtain ⟨g, e1, hd, a1, a2, a3, a4, a5⟩ := h.rk ho hn t ht
    obtain ⟨g', e1', hd', a1', a2', a3', a4', a5'⟩ := h.rk ho' hn t' ht'
    rw [a4, a4'] at e
    have e := (nI_eq (by omega) (by omega)).mp e
    have ho2 : o = o' := by omega
    subst ho2
    have hh : hd = hd' := by omega
    refine ⟨rfl, ?_⟩
    by_cases h3 : m (8 * o + 1) = 3
    · rw [← a5 h3, ← a5' h3, hh]
    · have z : ∀ u, u < 2 → val m ct my sd p o (nI u) → u = 0 := by
        intro u hu hv
        by_cases h1 : u = 1
        · subst h1
          have := hv.2.2
          rw [ptf_1 h3] at this
          exact absurd this Int32.lt_irrefl
        · omega
      rw [z t ht hv, z t' ht' hv']
/-- two sorted lists of one set are one -/
theorem srt_uniq {α : Type} {R : α → α → Prop} (hi : ∀ x, ¬ R x x) (ht : ∀ x y z, R x y → R y z → R x z) : ∀ (l r : List α), l.Pairwise R → r.Pairwise R → (∀ x, x ∈ l ↔ x ∈ r) → l = r
  | [], [], _, _, _ => rfl
  | [], y :: r, _, _, h => absurd ((h y).mpr List.mem_cons_self) List.not_mem_nil
  | x :: l, [], _, _, h => absurd ((h x).mp List.mem_cons_self) List.not_mem_nil
  | x :: l, y :: r, hl, hr, h => by
    have hl' := List.pairwise_cons.mp hl
    have hr' := List.pairwise_cons.mp hr
    have e : x = y := by
      rcases List.mem_cons.mp ((h x).mp List.mem_cons_self) with e | hx
      · exact e
      · rcases List.mem_cons.mp ((h y).mpr List.mem_cons_self) with e | hy
        · exact e.symm
        · exact absurd (ht _ _ _ (hr'.1 x hx) (hl'.1 y hy)) (hi y)
    subst e
    refine congrArg _ (srt_uniq hi ht l r hl'.2 hr'.2 (fun z => ⟨fun hz => ?_, fun hz => ?_⟩))
    · rcases List.mem_cons.mp ((h z).mp (List.mem_cons_of_mem _ hz)) with e | q
      · subst e
        exact absurd (hl'.1 _ hz) (hi _)
      · exact q
    · rcases List.mem_cons.mp ((h z).mpr (List.mem_cons_of_mem _ hz)) with e | q
      · subst e
        exact absurd (hr'.1 _ hz) (hi _)
      · exact q
theorem srt_uniqK {α : Type} (K : α → Int32) (l r : List α) (h : l.Pairwise (fun q r => K q < K r)) (h' : r.Pairwise (fun q r => K q < K r)) (hm : ∀ x, x ∈ l ↔ x ∈ r) : l = r := srt_uniq (R := fun q r => K q < K r) (fun x => @Int32.lt_irrefl (K x)) (fun x y z a b => Int32.lt_trans a b) l r h h' hm
theorem SLs.uniq {m ct my : Nat → Int32} {sd p : Int32} {n : Nat} {l r : List (Nat × Nat)} (h : SLs m ct my sd p n l) (h' : SLs m ct my sd p n r) : l = r := by
  obtain ⟨a1, a2, a3⟩ := h
  obtain ⟨b1, b2, b3⟩ := h'
  have key : ∀ q, q ∈ l ↔ q ∈ r := fun q => ⟨fun hq => b2 q.1 q.2 (a1 q hq).1 (a1 q hq).2.1 (a1 q hq).2.2, fun hq => a2 q.1 q.2 (b1 q hq).1 (b1 q hq).2.1 (b1 q hq).2.2⟩
  generalize hK : (fun q : Nat × Nat => rkf m q.1 (nI q.2)) = K
  have e : ∀ q : Nat × Nat, rkf m q.1 (nI q.2) = K q := fun q => by rw [← hK]
  simp only [e] at a3 b3
  exact srt_uniqK K l r a3 b3 key
noncomputable def slc (m ct my : Nat → Int32) (sd p : Int32) (n : Nat) : List (Nat × Nat) := @dite _ (∃ l, SLs m ct my sd p n l) (Classical.propDecidable _) (fun h => Classical.choose h) (fun _ => [])
theorem slc_eq {m ct my : Nat → Int32} {sd p : Int32} {n : Nat} {l : List (Nat × Nat)} (h : SLs m ct my sd p n l) : slc m ct my sd p n = l := by
  have he : ∃ l, SLs m ct my sd p n l := ⟨l, h⟩
  rw [slc, dif_pos he]
  exact (Classical.choose_spec he).uniq h
theorem ptf_cg {m my my' : Nat → Int32} {k : Nat} {t : Int32} (h : my k = my' k) : ptf m my k t = ptf m my' k t := by rw [ptf, ptf, h]
theorem val_cg {m ct my ct' my' : Nat → Int32} {sd p : Int32} {k : Nat} {t : Int32} (h : ct k = ct' k) (h2 : my k = my' k) : val m ct my sd p k t ↔ val m ct' my' sd p k t := by
  rw [val, val, h, ptf_cg h2]
theorem SLs.cg {m ct my ct' my' : Nat → Int32} {sd p : Int32} {n : Nat} {l : List (Nat × Nat)} (hc : ∀ k, k < n → ct k = ct' k) (hm : ∀ k, k < n → my k = my' k) (h : SLs m ct my sd p n l) : SLs m ct' my' sd p n l :=
  ⟨fun q hq => ⟨(h.1 q hq).1, (h.1 q hq).2.1, (val_cg (hc _ (h.1 q hq).1) (hm _ (h.1 q hq).1)).mp (h.1 q hq).2.2⟩, fun o t ho ht hv => h.2.1 o t ho ht ((val_cg (hc _ ho) (hm _ ho)).mpr hv), h.2.2⟩
theorem bs4_cg {m ct my ct' my' : Nat → Int32} {p : Int32} : ∀ n, (∀ k, k < n → ct k = ct' k) → (∀ k, k < n → my k = my' k) → bs4 m ct my p n = bs4 m ct' my' p n
  | 0, _, _ => rfl
  | n + 1, hc, hm => by
    rw [bs4, bs4, bs4_cg n (fun k hk => hc k (by omega)) (fun k hk => hm k (by omega)), hc n (by omega), hm n (by omega)]
/-- only the prices between count -/
theorem mxv_cg {V V' : Nat → Int32} {lo : Nat} : ∀ D, (∀ p, lo ≤ p → p < lo + D → V p = V' p) → mxv V lo D = mxv V' lo D
  | 0, _ => rfl
  | D + 1, h => by
    rw [mxv, mxv, mxv_cg D (fun p h1 h2 => h p h1 (by omega)), h (lo + D) (by omega) (by omega)]
theorem sl2_cg {V V' R R' : Nat → Int32} {lo : Nat} {mo : Int32} : ∀ D, (∀ p, lo ≤ p → p < lo + D → V p = V' p ∧ R p = R' p) → sl2 V R lo mo D = sl2 V' R' lo mo D
  | 0, _ => rfl
  | D + 1, h => by
    rw [sl2, sl2, sl2_cg D (fun p h1 h2 => h p h1 (by omega)), (h (lo + D) (by omega) (by omega)).1, (h (lo + D) (by omega) (by omega)).2]
theorem pr6_cg {V V' R R' : Nat → Int32} {lo : Nat} {mo le rf : Int32} : ∀ D, (∀ p, lo ≤ p → p < lo + D → V p = V' p ∧ R p = R' p) → pr6 V R lo mo le rf D = pr6 V' R' lo mo le rf D
  | 0, _ => rfl
  | D + 1, h => by
    rw [pr6, pr6, pr6_cg D (fun p h1 h2 => h p h1 (by omega)), (h (lo + D) (by omega) (by omega)).1, (h (lo + D) (by omega) (by omega)).2]
theorem fp3_cg {V V' R R' : Nat → Int32} {lo D : Nat} {rf : Int32} (h : ∀ p, lo ≤ p → p < lo + D → V p = V' p ∧ R p = R' p) : fp3 V R lo D rf = fp3 V' R' lo D rf := by
  rw [fp3, fp3, mxv_cg D (fun p h1 h2 => (h p h1 h2).1), sl2_cg D h, pr6_cg D h]
/-- the price is none, or one between -/
theorem sl2_pr {V R : Nat → Int32} {lo : Nat} {mo : Int32} : ∀ D, (sl2 V R lo mo D).2.1 = -1 ∨ ∃ p, lo ≤ p ∧ p < lo + D ∧ (sl2 V R lo mo D).2.1 = nI p
  | 0 => Or.inl rfl
  | D + 1 => by
    rw [sl2]
    by_cases h : V (lo + D) = mo
    · rw [if_pos h]
      exact Or.inr ⟨lo + D, by omega, by omega, rfl⟩
    · rw [if_neg h]
      rcases sl2_pr (V := V) (R := R) (lo := lo) (mo := mo) D with q | ⟨p, h1, h2, h3⟩
      · exact Or.inl q
      · exact Or.inr ⟨p, h1, by omega, h3⟩
theorem pr6_pr {V R : Nat → Int32} {lo : Nat} {mo le rf : Int32} : ∀ D, ((pr6 V R lo mo le rf D).2.2.2.1 = -1 ∨ ∃ p, lo ≤ p ∧ p < lo + D ∧ (pr6 V R lo mo le rf D).2.2.2.1 = nI p) ∧ ((pr6 V R lo mo le rf D).2.2.2.2.1 = -1 ∨ ∃ p, lo ≤ p ∧ p < lo + D ∧ (pr6 V R lo mo le rf D).2.2.2.2.1 = nI p) ∧ ((pr6 V R lo mo le rf D).2.2.2.2.2 = -1 ∨ ∃ p, lo ≤ p ∧ p < lo + D ∧ (pr6 V R lo mo le rf D).2.2.2.2.2 = nI p)
  | 0 => ⟨Or.inl rfl, Or.inl rfl, Or.inl rfl⟩
  | D + 1 => by
    have ih := pr6_pr (V := V) (R := R) (lo := lo) (mo := mo) (le := le) (rf := rf) D
    generalize hP : pr6 V R lo mo le rf D = P at ih
    rw [pr6, hP]
    have w : ∀ x : Int32, (x = -1 ∨ ∃ p, lo ≤ p ∧ p < lo + D ∧ x = nI p) → (x = -1 ∨ ∃ p, lo ≤ p ∧ p < lo + (D + 1) ∧ x = nI p) := fun x h => h.elim Or.inl (fun ⟨p, a, b, c⟩ => Or.inr ⟨p, a, by omega, c⟩)
    have nw : (nI (lo + D) = -1 ∨ ∃ p, lo ≤ p ∧ p < lo + (D + 1) ∧ nI (lo + D) = nI p) := Or.inr ⟨lo + D, by omega, by omega, rfl⟩
    split
    · refine ⟨?_, nw, ?_⟩
      · show (if P.2.2.2.1 < 0 then nI (lo + D) else P.2.2.2.1) = -1 ∨ _
        split
        · exact nw
        · exact w _ ih.1
      · show (if P.2.2.2.2.2 < 0 ∨ ab (nI (lo + D) - rf) ≤ ab (P.2.2.2.2.2 - rf) then nI (lo + D) else P.2.2.2.2.2) = -1 ∨ _
        split
        · exact nw
        · exact w _ ih.2.2
    · exact ⟨w _ ih.1, w _ ih.2.1, w _ ih.2.2⟩
theorem fp3_pr {V R : Nat → Int32} {lo D : Nat} {rf : Int32} : (fp3 V R lo D rf).1 = -1 ∨ ∃ p, lo ≤ p ∧ p < lo + D ∧ (fp3 V R lo D rf).1 = nI p := by
  rw [fp3]
  split
  · exact Or.inl rfl
  · split
    · have := pr6_pr (V := V) (R := R) (lo := lo) (mo := mxv V lo D) (le := (sl2 V R lo (mxv V lo D) D).2.2) (rf := rf) D
      rw [ppr]
      dsimp only
      split
      · exact this.2.1
      · split
        · exact this.1
        · exact this.2.2
    · exact sl2_pr D
