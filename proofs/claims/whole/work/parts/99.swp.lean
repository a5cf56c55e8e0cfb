/-! the sweep over the turns: what is passed, what is summed -/
theorem nI_or {a b k : Nat} (hb : b < 2 ^ k) (h : 2 ^ k * a + b < 2 ^ 31) : nI (a * 2 ^ k) ||| nI b = nI (a * 2 ^ k + b) := by
  have e : 2 ^ k * a + b = 2 ^ k * a ||| b := Nat.two_pow_add_eq_or_of_lt hb a
  refine Int32.toBitVec_inj.mp ?_
  refine BitVec.eq_of_toNat_eq ?_
  rw [Int32.toBitVec_or, BitVec.toNat_or, pk_tn (by rw [Nat.mul_comm]; omega), pk_tn (by omega), pk_tn (by rw [Nat.mul_comm]; omega), Nat.mul_comm a, e]
def ta (t u : T4) : T4 := (t.1 + u.1, t.2.1 + u.2.1, t.2.2.1 + u.2.2.1, t.2.2.2 + u.2.2.2)
abbrev tz : T4 := (0, 0, 0, 0)
def u4 (sd kd q : Int32) : T4 := ad4 tz sd kd q
theorem ta_a (t u w : T4) : ta (ta t u) w = ta t (ta u w) := by simp only [ta, Int32.add_assoc]
theorem ta_c (t u : T4) : ta t u = ta u t := by simp only [ta, Int32.add_comm]
theorem ta_z (t : T4) : ta t tz = t := by simp only [ta, Int32.add_zero]
theorem ta_0 (t : T4) : ta tz t = t := by rw [ta_c, ta_z]
theorem ta_sw (a b c d : T4) : ta (ta a b) (ta c d) = ta (ta a c) (ta b d) := by rw [ta_a, ta_a, ← ta_a b c d, ta_c b c, ta_a c b d]
theorem ad4_ta (t : T4) (sd kd q : Int32) : ad4 t sd kd q = ta t (u4 sd kd q) := by
  rw [u4, ad4, ad4, ta]
  by_cases h : sd = 0
  · simp only [h, if_true, Int32.zero_add, Int32.add_zero]
  · simp only [h, if_false, Int32.zero_add, Int32.add_zero]
theorem u4_neg (sd kd q : Int32) : ta (u4 sd kd q) (u4 sd kd (-q)) = tz := by
  rw [u4, u4, ad4, ad4, ta]
  by_cases h : sd = 0 <;> by_cases h2 : kd = 4 <;> simp [h, h2, Int32.add_right_neg]
def tS (w : Nat → T4) : Nat → T4
  | 0 => tz
  | k + 1 => ta (tS w k) (w k)
theorem tS_cg {w x : Nat → T4} : ∀ n, (∀ k, k < n → w k = x k) → tS w n = tS x n
  | 0, _ => rfl
  | n + 1, h => by rw [tS, tS, tS_cg n (fun k hk => h k (by omega)), h n (by omega)]
theorem tS_ta {w x : Nat → T4} : ∀ n, tS (fun k => ta (w k) (x k)) n = ta (tS w n) (tS x n)
  | 0 => by rw [tS, tS, tS, ta_z]
  | n + 1 => by rw [tS, tS, tS, tS_ta n, ta_sw]
theorem tS_z : ∀ n, tS (fun _ => tz) n = tz
  | 0 => rfl
  | n + 1 => by rw [tS, tS_z n, ta_z]
theorem tS_one {k : Nat} {c : T4} : ∀ n, tS (fun o => if o = k then c else tz) n = if k < n then c else tz
  | 0 => by simp [tS]
  | n + 1 => by
    rw [tS, tS_one n]
    by_cases h : n = k
    · subst h
      rw [if_neg (by omega), if_pos rfl, if_pos (by omega), ta_0]
    · rw [if_neg h, ta_z]
      by_cases h2 : k < n
      · rw [if_pos h2, if_pos (by omega)]
      · rw [if_neg h2, if_neg (by omega)]
/-- sums along a list -/
def tL (w : Nat → T4) : List Nat → T4
  | [] => tz
  | k :: l => ta (w k) (tL w l)
theorem tL_ap {w : Nat → T4} : ∀ l r, tL w (l ++ r) = ta (tL w l) (tL w r)
  | [], r => by rw [List.nil_append, tL, ta_0]
  | k :: l, r => by rw [List.cons_append, tL, tL, tL_ap l r, ta_a]
theorem tL_mem {w : Nat → T4} {n : Nat} : ∀ l : List Nat, l.Nodup → (∀ k ∈ l, k < n) → tL w l = tS (fun o => if o ∈ l then w o else tz) n
  | [], _, _ => by simp [tL, tS_z]
  | k :: l, hn, hb => by
    have hn' := List.nodup_cons.mp hn
    rw [tL, tL_mem l hn'.2 (fun q hq => hb q (List.mem_cons_of_mem _ hq))]
    have e : ∀ o, o < n → (if o ∈ k :: l then w o else tz) = ta (if o = k then w k else tz) (if o ∈ l then w o else tz) := by
      intro o ho
      by_cases e1 : o = k
      · subst e1
        rw [if_pos List.mem_cons_self, if_pos rfl, if_neg hn'.1, ta_z]
      · rw [if_neg e1, ta_0]
        by_cases e2 : o ∈ l
        · rw [if_pos e2, if_pos (List.mem_cons_of_mem _ e2)]
        · rw [if_neg e2, if_neg (fun z => (List.mem_cons.mp z).elim e1 e2)]
    rw [tS_cg n e, tS_ta, tS_one, if_pos (hb k List.mem_cons_self)]
/-- what an order brings as it is passed -/
noncomputable def dlt (f sa : Nat → Int32) (k : Nat) : T4 := if sa k = 0 then u4 (f (8 * k + 0)) (f (8 * k + 1)) (if f (8 * k + 0) = 0 then -f (8 * k + 2) else f (8 * k + 2)) else tz
theorem pas_d {t : T4} {f sa : Nat → Int32} {k : Nat} : pas t f sa k = ta t (dlt f sa k) := by
  rw [pas, dlt]
  by_cases h : sa k = 0
  · rw [if_pos h, if_pos h, ad4_ta]
  · rw [if_neg h, if_neg h, ta_z]
noncomputable def bse (f sa : Nat → Int32) (k : Nat) : T4 := if sa k = 0 ∧ (f (8 * k + 1) = 0 ∨ f (8 * k + 0) = 0) then u4 (f (8 * k + 0)) (f (8 * k + 1)) (f (8 * k + 2)) else tz
theorem sba_s {f sa : Nat → Int32} : ∀ n, sba f sa n = tS (bse f sa) n
  | 0 => rfl
  | n + 1 => by
    rw [sba, tS, sba_s n, bse]
    by_cases h : sa n = 0 ∧ (f (8 * n + 1) = 0 ∨ f (8 * n + 0) = 0)
    · rw [if_pos h, if_pos h, ad4_ta]
    · rw [if_neg h, if_neg h, ta_z]
noncomputable def wls (m ct my : Nat → Int32) (p : Int32) (k : Nat) : T4 := if ct k ≠ 0 ∧ (m (8 * k + 1) = 0 ∨ (m (8 * k + 0) = 0 ∧ p ≤ m (8 * k + 3) ∨ m (8 * k + 0) ≠ 0 ∧ m (8 * k + 3) ≤ p)) then u4 (m (8 * k + 0)) (m (8 * k + 1)) (my k) else tz
theorem bs4_s {m ct my : Nat → Int32} {p : Int32} : ∀ n, bs4 m ct my p n = tS (wls m ct my p) n
  | 0 => rfl
  | n + 1 => by
    rw [bs4, tS, bs4_s n, wls]
    by_cases h : ct n ≠ 0 ∧ (m (8 * n + 1) = 0 ∨ (m (8 * n + 0) = 0 ∧ p ≤ m (8 * n + 3) ∨ m (8 * n + 0) ≠ 0 ∧ m (8 * n + 3) ≤ p))
    · rw [if_pos h, if_pos h, ad4_ta]
    · rw [if_neg h, if_neg h, ta_z]
/-- from which price on an order is willing, or no longer -/
def frm (f : Nat → Int32) (o : Nat) : Nat := (f (8 * o + 3)).toNatClampNeg + (if f (8 * o + 0) = 0 then 1 else 0)
def tkey (f : Nat → Int32) (o : Nat) : Nat := frm f o * 64 + o
/-- the turns as they are held -/
def TU (f : Nat → Int32) (n : Nat) (tu : Nat → Int32) (tc : Nat) : Prop := (∀ i, i < tc → ∃ o, o < n ∧ f (8 * o + 7) = 0 ∧ f (8 * o + 1) ≠ 0 ∧ tu i = nI (tkey f o)) ∧ (∀ i j, i < j → j < tc → tu i < tu j) ∧ ∀ o, o < n → f (8 * o + 7) = 0 → f (8 * o + 1) ≠ 0 → ∃ i, i < tc ∧ tu i = nI (tkey f o)
theorem OW.fr {f : Nat → Int32} {n o : Nat} (h : OW f n) (ho : o < n) : frm f o ≤ 1000 ∧ f (8 * o + 3) = nI (f (8 * o + 3)).toNatClampNeg ∧ (f (8 * o + 3)).toNatClampNeg ≤ 999 := by
  obtain ⟨s, kd, q, pr, sh, le, ow, g, e0, e1, e2, e3, e4, e5, e6, e7, b0, b1, b2, b3, -⟩ := h o ho
  have e : (f (8 * o + 3)).toNatClampNeg = pr := by rw [e3]; exact nI_clamp (by omega)
  refine ⟨?_, by rw [e]; exact e3, by omega⟩
  rw [frm, e]
  split <;> omega
section SWP
variable {f sa tu : Nat → Int32} {n tc lo hi r : Nat}
theorem tu_at (hO : OW f n) (hn : n ≤ 41) (hT : TU f n tu tc) {i : Nat} (hi : i < tc) : ∃ o, o < n ∧ f (8 * o + 7) = 0 ∧ f (8 * o + 1) ≠ 0 ∧ tu i = nI (tkey f o) ∧ nb (tu i) = o ∧ tp (tu i) = nI (frm f o) := by
  obtain ⟨o, h1, h2, h3, h4⟩ := hT.1 i hi
  have hf := (hO.fr h1).1
  refine ⟨o, h1, h2, h3, h4, ?_, ?_⟩
  · rw [nb, h4, tkey, pk_andN (by omega) 6 (by decide), show (frm f o * 64 + o) % 2 ^ 6 = o by omega, nI_clamp (by omega)]
  · rw [tp, h4, tkey, pk_shrN (by omega) _ 6 (by decide), show (frm f o * 64 + o) / 2 ^ 6 = frm f o by omega]
theorem tu_nd (hO : OW f n) (hn : n ≤ 41) (hT : TU f n tu tc) {i j : Nat} (hi : i < tc) (hj : j < tc) (h : nb (tu i) = nb (tu j)) : i = j := by
  obtain ⟨o, h1, h2, h3, h4, h5, -⟩ := tu_at hO hn hT hi
  obtain ⟨o', k1, k2, k3, k4, k5, -⟩ := tu_at hO hn hT hj
  have e : o = o' := by rw [← h5, ← k5, h]
  subst e
  by_cases q : i < j
  · exact absurd (hT.2.1 i j q hj) (by rw [h4, k4]; exact Int32.lt_irrefl)
  · by_cases q2 : j < i
    · exact absurd (hT.2.1 j i q2 hi) (by rw [h4, k4]; exact Int32.lt_irrefl)
    · omega
theorem tu_mono (hO : OW f n) (hn : n ≤ 41) (hT : TU f n tu tc) {i j : Nat} (hij : i ≤ j) (hj : j < tc) : frm f (nb (tu i)) ≤ frm f (nb (tu j)) := by
  by_cases e : i = j
  · rw [e]; exact Nat.le_refl _
  · obtain ⟨o, h1, h2, h3, h4, h5, -⟩ := tu_at hO hn hT (show i < tc by omega)
    obtain ⟨o', k1, k2, k3, k4, k5, -⟩ := tu_at hO hn hT hj
    have := hT.2.1 i j (by omega) hj
    have f1 := (hO.fr h1).1
    have f2 := (hO.fr k1).1
    rw [h4, k4, tkey, tkey, nI_ltI (by omega) (by omega)] at this
    rw [h5, k5]
    omega
/-- the sums when the first j turns are passed -/
noncomputable def tpj (f sa tu : Nat → Int32) (n : Nat) : Nat → T4
  | 0 => sba f sa n
  | j + 1 => pas (tpj f sa tu n j) f sa (nb (tu j))
theorem tpj_l : ∀ j, tpj f sa tu n j = ta (tS (bse f sa) n) (tL (dlt f sa) ((List.range j).map (fun i => nb (tu i))))
  | 0 => by rw [tpj, sba_s]; show _ = ta _ tz; rw [ta_z]
  | j + 1 => by rw [tpj, pas_d, tpj_l j, List.range_succ, List.map_append, tL_ap, ta_a]; show _ = ta _ (ta _ (ta (dlt f sa (nb (tu j))) tz)); rw [ta_z]
/-- all that turns at p or ahead is passed: the sums at p -/
theorem tpj_p (hO : OW f n) (hn : n ≤ 41) (hT : TU f n tu tc) (hsa : ∀ k, k < n → sa k = 0 → f (8 * k + 7) = 0) {ct : Nat → Int32} (hct : ∀ k, k < n → (ct k ≠ 0 ↔ sa k = 0)) {j p : Nat} (hj : j ≤ tc) (hp : p ≤ 1000) (h1 : ∀ i, i < j → frm f (nb (tu i)) ≤ p) (h2 : j < tc → p < frm f (nb (tu j))) : tpj f sa tu n j = bs4 f ct (qt f) (nI p) n := by
  have hnd : ((List.range j).map (fun i => nb (tu i))).Nodup := by
    rw [List.Nodup, List.pairwise_map]
    refine List.Pairwise.imp_of_mem ?_ (List.nodup_range (n := j))
    intro x y hx hy hne e
    exact hne (tu_nd hO hn hT (by have := List.mem_range.mp hx; omega) (by have := List.mem_range.mp hy; omega) e)
  have hlt : ∀ k ∈ (List.range j).map (fun i => nb (tu i)), k < n := by
    intro k hk
    obtain ⟨i, hi, rfl⟩ := List.mem_map.mp hk
    obtain ⟨o, g1, g2, g3, g4, g5, -⟩ := tu_at hO hn hT (show i < tc by have := List.mem_range.mp hi; omega)
    rw [g5]; exact g1
  rw [tpj_l, tL_mem _ hnd hlt, bs4_s, ← tS_ta]
  refine tS_cg n (fun k hk => ?_)
  have hmem : k ∈ (List.range j).map (fun i => nb (tu i)) ↔ f (8 * k + 7) = 0 ∧ f (8 * k + 1) ≠ 0 ∧ frm f k ≤ p := by
    constructor
    · intro hm
      obtain ⟨i, hi, rfl⟩ := List.mem_map.mp hm
      have hi := List.mem_range.mp hi
      obtain ⟨o, g1, g2, g3, g4, g5, -⟩ := tu_at hO hn hT (show i < tc by omega)
      have := h1 i hi
      rw [g5] at this ⊢
      exact ⟨g2, g3, this⟩
    · rintro ⟨w1, w2, w3⟩
      obtain ⟨i, i1, i2⟩ := hT.2.2 k hk w1 w2
      have hf := (hO.fr hk).1
      have enb : nb (tu i) = k := by rw [nb, i2, tkey, pk_andN (by omega) 6 (by decide), show (frm f k * 64 + k) % 2 ^ 6 = k by omega, nI_clamp (by omega)]
      refine List.mem_map.mpr ⟨i, List.mem_range.mpr ?_, enb⟩
      by_cases q : i < j
      · exact q
      · have a1 := h2 (by omega)
        have a2 := tu_mono hO hn hT (i := j) (j := i) (by omega) i1
        rw [enb] at a2
        omega
  obtain ⟨-, epr, hpr⟩ := hO.fr hk
  have hq : qt f k = f (8 * k + 2) := rfl
  rw [bse, wls, hq]
  by_cases hs : sa k = 0
  · have hg := hsa k hk hs
    have hc : ct k ≠ 0 := (hct k hk).mpr hs
    have hd : dlt f sa k = u4 (f (8 * k + 0)) (f (8 * k + 1)) (if f (8 * k + 0) = 0 then -f (8 * k + 2) else f (8 * k + 2)) := by rw [dlt, if_pos hs]
    by_cases hm : f (8 * k + 1) = 0
    · rw [if_pos ⟨hs, Or.inl hm⟩, if_neg (fun w => (hmem.mp w).2.1 hm), ta_z, if_pos ⟨hc, Or.inl hm⟩]
    · by_cases hb : f (8 * k + 0) = 0
      · have ef : frm f k = (f (8 * k + 3)).toNatClampNeg + 1 := by rw [frm, if_pos hb]
        have hle : nI p ≤ f (8 * k + 3) ↔ p ≤ (f (8 * k + 3)).toNatClampNeg := by rw [epr]; rw [nI_clamp (by omega)]; exact nI_leI (by omega) (by omega)
        rw [if_pos ⟨hs, Or.inr hb⟩]
        by_cases w : frm f k ≤ p
        · rw [if_pos (hmem.mpr ⟨hg, hm, w⟩), hd, if_pos hb, u4_neg, if_neg]
          rintro ⟨-, y | y | y⟩
          · exact hm y
          · have := hle.mp y.2; omega
          · exact y.1 hb
        · rw [if_neg (fun y => w (hmem.mp y).2.2), ta_z, if_pos ⟨hc, Or.inr (Or.inl ⟨hb, hle.mpr (by omega)⟩)⟩]
      · have ef : frm f k = (f (8 * k + 3)).toNatClampNeg := by rw [frm, if_neg hb]; rfl
        have hle : f (8 * k + 3) ≤ nI p ↔ (f (8 * k + 3)).toNatClampNeg ≤ p := by rw [epr]; rw [nI_clamp (by omega)]; exact nI_leI (by omega) (by omega)
        rw [if_neg (fun y => y.2.elim hm hb), ta_0]
        by_cases w : frm f k ≤ p
        · rw [if_pos (hmem.mpr ⟨hg, hm, w⟩), hd, if_neg hb, if_pos ⟨hc, Or.inr (Or.inr ⟨hb, hle.mpr (by omega)⟩)⟩]
        · rw [if_neg (fun y => w (hmem.mp y).2.2), if_neg]
          rintro ⟨-, y | y | y⟩
          · exact hm y
          · exact hb y.1
          · have := hle.mp y.2; omega
  · have hc : ¬ ct k ≠ 0 := fun w => hs ((hct k hk).mp w)
    have d0 : dlt f sa k = tz := by rw [dlt, if_neg hs]
    rw [d0, ite_self, ta_z, if_neg (fun w => hs w.1), if_neg (fun w => hc w.1)]
theorem adv_sp (hO : OW f n) (hn : n ≤ 41) (hT : TU f n tu tc) {p : Nat} (hp : p ≤ 1000) : ∀ d j, j + d = tc → (∀ i, i < j → frm f (nb (tu i)) ≤ p) → ∃ j', (adv f sa tu (nI p) d j (tpj f sa tu n j)) = (j', tpj f sa tu n j') ∧ j ≤ j' ∧ j' ≤ tc ∧ (∀ i, i < j' → frm f (nb (tu i)) ≤ p) ∧ (j' < tc → p < frm f (nb (tu j')))
  | 0, j, hj, h1 => ⟨j, rfl, Nat.le_refl _, by omega, h1, fun w => by omega⟩
  | d + 1, j, hj, h1 => by
    obtain ⟨o, g1, g2, g3, g4, g5, g6⟩ := tu_at hO hn hT (show j < tc by omega)
    have hf := (hO.fr g1).1
    have hc : tp (tu j) ≤ nI p ↔ frm f (nb (tu j)) ≤ p := by rw [g6, g5]; exact nI_leI (by omega) (by omega)
    rw [adv]
    by_cases w : tp (tu j) ≤ nI p
    · rw [if_pos w]
      have ih := adv_sp hO hn hT hp d (j + 1) (by omega) (fun i hi => by
        by_cases e : i = j
        · rw [e]; exact hc.mp w
        · exact h1 i (by omega))
      obtain ⟨j', e1, e2, e3, e4, e5⟩ := ih
      rw [tpj] at e1
      exact ⟨j', e1, by omega, e3, e4, e5⟩
    · rw [if_neg w]
      exact ⟨j, rfl, Nat.le_refl _, by omega, h1, fun _ => by have := mt hc.mpr w; omega⟩
/-- the whole sweep -/
theorem fpl_ci (hO : OW f n) (hn : n ≤ 41) (hT : TU f n tu tc) (hsa : ∀ k, k < n → sa k = 0 → f (8 * k + 7) = 0) {ct : Nat → Int32} (hct : ∀ k, k < n → (ct k ≠ 0 ↔ sa k = 0)) (hr : r < 1000000) (hlo : 1 ≤ lo) (hhi : hi ≤ 999) : ∀ (e p j : Nat) (g : Nat → Int32), lo ≤ p → p ≤ hi + 1 → j ≤ tc → (∀ i, i < j → frm f (nb (tu i)) ≤ p) → (p ≤ hi → tc + 1 ≤ e + j ∨ (j < tc ∧ frm f (nb (tu j)) ≤ p ∧ tc ≤ e + j)) → CI (fun q => vof (bs4 f ct (qt f) (nI q) n)) (fun q => ref (bs4 f ct (qt f) (nI q) n)) lo r (p - lo) g → CI (fun q => vof (bs4 f ct (qt f) (nI q) n)) (fun q => ref (bs4 f ct (qt f) (nI q) n)) lo r (hi + 1 - lo) (fpl f sa tu tc (nI hi) e (nI p) j (tpj f sa tu n j) g) := by
  intro e
  induction e with
  | zero =>
    intro p j g h1 h2 h3 h4 h5 hC
    have : p = hi + 1 := by
      by_cases w : p ≤ hi
      · rcases h5 w with q | q <;> omega
      · omega
    subst this
    rw [fpl]
    exact hC
  | succ e ih =>
    intro p j g h1 h2 h3 h4 h5 hC
    rw [fpl]
    by_cases w : p ≤ hi
    · rw [if_pos (nI_le w (by omega))]
      obtain ⟨j', e1, e2, e3, e4, e5⟩ := adv_sp (sa := sa) hO hn hT (show p ≤ 1000 by omega) (tc - j) j (by omega) h4
      rw [e1]
      show CI _ _ lo r (hi + 1 - lo) (fpl f sa tu tc (nI hi) e (mn (nI hi) (if j' < tc then tp (tu j') - 1 else 999) + 1) j' (tpj f sa tu n j') (wgh g (nI p) (mn (nI hi) (if j' < tc then tp (tu j') - 1 else 999)) (vof (tpj f sa tu n j')) (ref (tpj f sa tu n j'))))
      -- where the stretch ends
      obtain ⟨b, b1, b2, b3, b4⟩ : ∃ b, mn (nI hi) (if j' < tc then tp (tu j') - 1 else 999) = nI b ∧ p ≤ b ∧ b ≤ hi ∧ (j' < tc → b < frm f (nb (tu j')) ∧ (b < hi → frm f (nb (tu j')) = b + 1)) ∧ (¬ j' < tc → b = hi) := by
        by_cases q : j' < tc
        · obtain ⟨o, g1, g2, g3, g4, g5, g6⟩ := tu_at hO hn hT q
          have hf := (hO.fr g1).1
          have q5 := e5 q
          rw [g5] at q5
          have es : nI (frm f o) - 1 = nI (frm f o - 1) := nI_subI (b := 1) (by omega)
          refine ⟨min hi (frm f o - 1), ?_, by omega, by omega, fun _ => ?_, fun y => absurd q y⟩
          · rw [if_pos q, g6, es, mn_n (by omega) (by omega)]
          · rw [g5]
            omega
        · refine ⟨hi, ?_, w, Nat.le_refl _, fun y => absurd y q, fun _ => rfl⟩
          rw [if_neg q, show (999 : Int32) = nI 999 from rfl, mn_n (by omega) (by omega), Nat.min_eq_left (by omega)]
      have es : nI b + 1 = nI (b + 1) := nI_1 b
      rw [b1, es]
      have sums : ∀ q, p ≤ q → q ≤ b → tpj f sa tu n j' = bs4 f ct (qt f) (nI q) n := fun q q1 q2 => tpj_p hO hn hT hsa hct e3 (by omega) (fun i hi => Nat.le_trans (e4 i hi) q1) (fun y => by have := (b4.1 y).1; omega)
      obtain ⟨tv, tv1, tv2, -⟩ := hO.vol (ct := ct) (p := nI p) hn
      have hv0 : 0 ≤ vof (tpj f sa tu n j') := by
        rw [sums p (Nat.le_refl _) b2, tv1]
        exact nI_pos' (by omega)
      have hC2 := ci_step (v := vof (tpj f sa tu n j')) (z := ref (tpj f sa tu n j')) (L := b + 1 - p) (a := p) (b := b) hr (by omega) (by omega) (by omega) (by omega) (by omega) (fun q q1 q2 => by rw [sums q q1 q2]) (fun q q1 q2 => by rw [sums q q1 q2]) hv0 hC
      rw [show p - lo + (b + 1 - p) = b + 1 - lo by omega] at hC2
      refine ih (b + 1) j' _ (by omega) (by omega) e3 (fun i hi => by have := e4 i hi; omega) (fun y => ?_) hC2
      by_cases q : j' < tc
      · have hb4 := b4.1 q
        refine Or.inr ⟨q, by have := hb4.2 (by omega); omega, ?_⟩
        rcases h5 w with z | ⟨z1, z2, z3⟩
        · omega
        · -- one at least was passed
          have : j < j' := by
            by_cases u : j < j'
            · exact u
            · have e6 : j' = j := by omega
              have := e5 q
              rw [e6] at this
              omega
          omega
      · have := b4.2 q
        omega
    · have : p = hi + 1 := by omega
      subst this
      rw [if_neg (nI_ge (by omega) (by omega))]
      exact hC
end SWP
