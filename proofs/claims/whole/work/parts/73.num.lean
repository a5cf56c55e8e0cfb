/-! sums as numbers -/
def sN (h : Nat → Nat) : Nat → Nat
  | 0 => 0
  | k + 1 => sN h k + h k
theorem sN_le {h : Nat → Nat} {c : Nat} : ∀ n, (∀ k, k < n → h k ≤ c) → sN h n ≤ n * c
  | 0, _ => by simp [sN]
  | n + 1, hb => by
    rw [sN, Nat.succ_mul]
    have := sN_le n (fun k hk => hb k (by omega))
    have := hb n (by omega)
    omega
theorem sN_cg {h g : Nat → Nat} : ∀ n, (∀ k, k < n → h k = g k) → sN h n = sN g n
  | 0, _ => rfl
  | n + 1, hb => by rw [sN, sN, sN_cg n (fun k hk => hb k (by omega)), hb n (by omega)]
theorem sN_add {h g : Nat → Nat} : ∀ n, sN (fun k => h k + g k) n = sN h n + sN g n
  | 0 => rfl
  | n + 1 => by rw [sN, sN, sN, sN_add n]; omega
theorem sN_z : ∀ n, sN (fun _ => 0) n = 0
  | 0 => rfl
  | n + 1 => by rw [sN, sN_z n]
theorem sN_one {k c : Nat} : ∀ n, sN (fun o => if o = k then c else 0) n = if k < n then c else 0
  | 0 => by simp [sN]
  | n + 1 => by
    rw [sN, sN_one n]
    by_cases h : n = k
    · subst h
      rw [if_neg (by omega), if_pos rfl, if_pos (by omega)]
      omega
    · rw [if_neg h]
      by_cases h2 : k < n
      · rw [if_pos h2, if_pos (by omega)]; omega
      · rw [if_neg h2, if_neg (by omega)]
noncomputable def wt (m ct my : Nat → Int32) (p : Int32) (sd ev k : Nat) : Nat :=
  if ct k ≠ 0 ∧ (m (8 * k + 1) = 0 ∨ (m (8 * k + 0) = 0 ∧ p ≤ m (8 * k + 3) ∨ m (8 * k + 0) ≠ 0 ∧ m (8 * k + 3) ≤ p)) ∧ (m (8 * k + 0) = 0 ↔ sd = 0) ∧ (m (8 * k + 1) = 4 ↔ ev = 1) then (my k).toNatClampNeg else 0
theorem wt_le {m ct my : Nat → Int32} {p : Int32} {sd ev k : Nat} : wt m ct my p sd ev k ≤ (my k).toNatClampNeg := by
  rw [wt]
  split <;> omega
theorem bs4_num {m ct my : Nat → Int32} {p : Int32} : ∀ n, (∀ k, k < n → my k = nI (my k).toNatClampNeg) → bs4 m ct my p n = (nI (sN (wt m ct my p 0 0) n), nI (sN (wt m ct my p 1 0) n), nI (sN (wt m ct my p 0 1) n), nI (sN (wt m ct my p 1 1) n))
  | 0, _ => by simp only [bs4, sN]; rfl
  | n + 1, hq => by
    rw [bs4, bs4_num n (fun k hk => hq k (by omega))]
    simp only [sN, ← nI_add]
    have e := hq n (by omega)
    by_cases hX : ct n ≠ 0 ∧ (m (8 * n + 1) = 0 ∨ (m (8 * n + 0) = 0 ∧ p ≤ m (8 * n + 3) ∨ m (8 * n + 0) ≠ 0 ∧ m (8 * n + 3) ≤ p))
    · have hc1 := hX.1
      have hc2 := hX.2
      have W4 : ∀ sd ev, wt m ct my p sd ev n = if (m (8 * n + 0) = 0 ↔ sd = 0) ∧ (m (8 * n + 1) = 4 ↔ ev = 1) then (my n).toNatClampNeg else 0 := by
        intro sd ev
        rw [wt]
        by_cases q : (m (8 * n + 0) = 0 ↔ sd = 0) ∧ (m (8 * n + 1) = 4 ↔ ev = 1)
        · rw [if_pos q, if_pos ⟨hc1, hc2, q⟩]
        · rw [if_neg q, if_neg (fun z => q z.2.2)]
      rw [if_pos hX]
      simp only [W4]
      clear W4 hc1 hc2 hX
      generalize m (8 * n + 0) = s0
      generalize m (8 * n + 1) = k0
      by_cases hs : s0 = 0 <;> by_cases h4 : k0 = 4 <;> simp [ad4, hs, h4, ← e, nI_0]
    · have W0 : ∀ sd ev, wt m ct my p sd ev n = 0 := by
        intro sd ev
        rw [wt, if_neg]
        intro z
        exact hX ⟨z.1, z.2.1⟩
      rw [if_neg hX]
      simp only [W0, nI_0, Int32.add_zero]
/-- help, volume, rest, as numbers -/
def hpN (B S EB ES : Nat) : Nat := if B ≤ S then min EB (S - B) else min ES (B - S)
def voN (B S EB ES : Nat) : Nat := min B S + hpN B S EB ES
def reN (B S EB ES : Nat) : Int := if B ≤ S then (B : Int) - S + hpN B S EB ES else (B : Int) - S - hpN B S EB ES
theorem iI_le0 {z : Int} (h1 : -2147483648 ≤ z) (h2 : z < 2147483648) : iI z ≤ 0 ↔ z ≤ 0 := by
  have := iI_le (a := z) (b := 0) h1 h2 (by omega) (by omega)
  exact this
theorem mn_n {a b : Nat} (ha : a < 2 ^ 31) (hb : b < 2 ^ 31) : mn (nI a) (nI b) = nI (min a b) := by
  rw [mn]
  by_cases h : b < a
  · rw [if_pos (nI_lt h ha), Nat.min_eq_right (by omega)]
  · rw [if_neg (nI_nlt (by omega) hb), Nat.min_eq_left (by omega)]
theorem nI_subI {a b : Nat} (h : b ≤ a) : nI a - nI b = nI (a - b) := by
  have : nI (a - b) + nI b = nI a := by rw [nI_add, Nat.sub_add_cancel h]
  rw [← this, Int32.add_sub_cancel]
section NUM
variable {B S EB ES : Nat} (hB : B < 1000000) (hS : S < 1000000) (hEB : EB < 1000000) (hES : ES < 1000000)
theorem ovf_n : ovf (nI B, nI S, nI EB, nI ES) = iI ((B : Int) - S) := by
  show nI B - nI S = _
  rw [nI_iI, nI_iI, iI_sub]
theorem hpf_n (hB : B < 1000000) (hS : S < 1000000) (hEB : EB < 1000000) (hES : ES < 1000000) : hpf (nI B, nI S, nI EB, nI ES) = nI (hpN B S EB ES) := by
  rw [hpf, ovf_n, hpN]
  by_cases h : B ≤ S
  · have h2 : iI ((B : Int) - S) ≤ 0 := (iI_le0 (by omega) (by omega)).mpr (by omega)
    rw [if_pos h2, if_pos h, iI_neg, show -((B : Int) - S) = ((S - B : Nat) : Int) by omega, iI_n]
    exact mn_n (by omega) (by omega)
  · have h2 : ¬ iI ((B : Int) - S) ≤ 0 := fun q => h (by have := (iI_le0 (by omega) (by omega)).mp q; omega)
    rw [if_neg h2, if_neg h, show ((B : Int) - S) = ((B - S : Nat) : Int) by omega, iI_n]
    exact mn_n (by omega) (by omega)
theorem vof_n (hB : B < 1000000) (hS : S < 1000000) (hEB : EB < 1000000) (hES : ES < 1000000) : vof (nI B, nI S, nI EB, nI ES) = nI (voN B S EB ES) := by
  rw [vof, hpf_n hB hS hEB hES, voN]
  show mn (nI B) (nI S) + _ = _
  rw [mn_n (by omega) (by omega), nI_add]
theorem ref_n (hB : B < 1000000) (hS : S < 1000000) (hEB : EB < 1000000) (hES : ES < 1000000) : ref (nI B, nI S, nI EB, nI ES) = iI (reN B S EB ES) := by
  rw [ref, hpf_n hB hS hEB hES, ovf_n, reN]
  by_cases h : B ≤ S
  · have h2 : iI ((B : Int) - S) ≤ 0 := (iI_le0 (by omega) (by omega)).mpr (by omega)
    rw [if_pos h2, if_pos h, nI_iI, iI_add]
  · have h2 : ¬ iI ((B : Int) - S) ≤ 0 := fun q => h (by have := (iI_le0 (by omega) (by omega)).mp q; omega)
    rw [if_neg h2, if_neg h, nI_iI, iI_sub]
end NUM
theorem voN_le {B S EB ES : Nat} : voN B S EB ES ≤ B + EB ∧ voN B S EB ES ≤ S + ES := by
  rw [voN, hpN]
  split <;> omega
theorem lsum_mem (g : Nat × Nat → Nat) (n : Nat) : ∀ l : List (Nat × Nat), l.Nodup → (∀ q ∈ l, q.1 < n ∧ q.2 < 2) → (l.map g).sum = sN (fun o => (if (o, 0) ∈ l then g (o, 0) else 0) + (if (o, 1) ∈ l then g (o, 1) else 0)) n
  | [], _, _ => by simp [sN_z]
  | (k, t) :: l, hn, hb => by
    have hn' := List.nodup_cons.mp hn
    have hk := hb (k, t) List.mem_cons_self
    rw [List.map_cons, List.sum_cons, lsum_mem g n l hn'.2 (fun q hq => hb q (List.mem_cons_of_mem _ hq))]
    have e : ∀ o, o < n → (if (o, 0) ∈ (k, t) :: l then g (o, 0) else 0) + (if (o, 1) ∈ (k, t) :: l then g (o, 1) else 0) = ((if (o, 0) ∈ l then g (o, 0) else 0) + (if (o, 1) ∈ l then g (o, 1) else 0)) + (if o = k then g (k, t) else 0) := by
      intro o ho
      by_cases e1 : o = k
      · subst e1
        have ht : t = 0 ∨ t = 1 := by have := hk.2; simp only at this; omega
        rcases ht with rfl | rfl
        · have h0 : (o, 0) ∉ l := hn'.1
          simp [h0]
          omega
        · have h0 : (o, 1) ∉ l := hn'.1
          simp [h0]
      · simp [e1]
    rw [sN_cg n e, sN_add (h := fun o => (if (o, 0) ∈ l then g (o, 0) else 0) + (if (o, 1) ∈ l then g (o, 1) else 0)) (g := fun o => if o = k then g (k, t) else 0) n, sN_one, if_pos hk.1]
    omega
theorem SLs.nd {m ct my : Nat → Int32} {sd p : Int32} {n : Nat} {l : List (Nat × Nat)} (h : SLs m ct my sd p n l) : l.Nodup := by
  rw [List.Nodup]
  exact h.2.2.imp (fun {q r} hlt e => by rw [e] at hlt; exact Int32.lt_irrefl hlt)
def pn (m my : Nat → Int32) (q : Nat × Nat) : Nat := (ptf m my q.1 (nI q.2)).toNatClampNeg
/-- of one order, both slices together are all it has -/
theorem SLs.sum {m ct my : Nat → Int32} {p : Int32} {n sd : Nat} {l : List (Nat × Nat)} (hsd : sd < 2) (h : SLs m ct my (nI sd) p n l) (hq : ∀ k, k < n → ∃ q, q ≤ 9999 ∧ my k = nI q) (hs : ∀ k, k < n → m (8 * k + 0) = 0 ∨ m (8 * k + 0) = 1) (hh : ∀ k, k < n → ∃ s, s ≤ 9999 ∧ m (8 * k + 4) = nI s) : (l.map (pn m my)).sum = sN (wt m ct my p sd 0) n + sN (wt m ct my p sd 1) n := by
  rw [lsum_mem (pn m my) n l h.nd (fun q hq => ⟨(h.1 q hq).1, (h.1 q hq).2.1⟩), ← sN_add]
  refine sN_cg n (fun o ho => ?_)
  have M : ∀ t, t < 2 → ((o, t) ∈ l ↔ val m ct my (nI sd) p o (nI t)) := fun t ht => ⟨fun q => (h.1 _ q).2.2, fun q => h.2.1 o t ho ht q⟩
  obtain ⟨q, q1, q2⟩ := hq o ho
  obtain ⟨s, s1, s2⟩ := hh o ho
  have sdq : m (8 * o + 0) = nI sd ↔ (m (8 * o + 0) = 0 ↔ sd = 0) := by
    rcases hs o ho with z | z
    · rw [z]
      by_cases e : sd = 0
      · subst e; simp [nI_0]
      · have : sd = 1 := by omega
        subst this
        simp [show (0 : Int32) ≠ nI 1 by decide]
    · rw [z]
      by_cases e : sd = 0
      · subst e; simp [nI_0]
      · have : sd = 1 := by omega
        subst this
        simp [show (1 : Int32) = nI 1 from rfl, show nI 1 ≠ 0 by decide]
  have ev : ((ct o ≠ 0 ∧ wl m o p ∧ m (8 * o + 0) = nI sd) → wt m ct my p sd 0 o + wt m ct my p sd 1 o = q) ∧ (¬ (ct o ≠ 0 ∧ wl m o p ∧ m (8 * o + 0) = nI sd) → wt m ct my p sd 0 o + wt m ct my p sd 1 o = 0) := by
    have qq : (my o).toNatClampNeg = q := by rw [q2]; exact nI_clamp (by omega)
    rw [wt, wt, qq]
    by_cases h4 : m (8 * o + 1) = 4
    · rw [if_neg (fun z => absurd (z.2.2.2.mp h4) (by decide)), Nat.zero_add]
      refine ⟨fun z => ?_, fun z => ?_⟩
      · rw [if_pos ⟨z.1, z.2.1, sdq.mp z.2.2, by simp [h4]⟩]
      · rw [if_neg (fun y => z ⟨y.1, y.2.1, sdq.mpr y.2.2.1⟩)]
    · rw [if_neg (c := _ ∧ _ ∧ _ ∧ (m (8 * o + 1) = 4 ↔ 1 = 1)) (fun z => h4 (z.2.2.2.mpr rfl))]
      refine ⟨fun z => ?_, fun z => ?_⟩
      · rw [if_pos ⟨z.1, z.2.1, sdq.mp z.2.2, by simp [h4]⟩]; rfl
      · rw [if_neg (fun y => z ⟨y.1, y.2.1, sdq.mpr y.2.2.1⟩)]
  show (if (o, 0) ∈ l then pn m my (o, 0) else 0) + (if (o, 1) ∈ l then pn m my (o, 1) else 0) = wt m ct my p sd 0 o + wt m ct my p sd 1 o
  have V : ∀ t, val m ct my (nI sd) p o (nI t) ↔ (ct o ≠ 0 ∧ wl m o p ∧ m (8 * o + 0) = nI sd) ∧ 0 < ptf m my o (nI t) := fun t => ⟨fun z => ⟨⟨z.2.1.1, z.2.1.2, z.1⟩, z.2.2⟩, fun z => ⟨z.1.2.2, ⟨z.1.1, z.1.2.1⟩, z.2⟩⟩
  by_cases z : ct o ≠ 0 ∧ wl m o p ∧ m (8 * o + 0) = nI sd
  · rw [ev.1 z]
    have P : ∀ t, t < 2 → ∃ x, ptf m my o (nI t) = nI x ∧ x ≤ 9999 ∧ (t = 0 → x = if m (8 * o + 1) = 3 then min s q else q) ∧ (t = 1 → x = if m (8 * o + 1) = 3 then q - min s q else 0) := by
      intro t ht
      rw [ptf, q2, s2, mn_n (by omega) (by omega)]
      by_cases h3 : m (8 * o + 1) = 3
      · rw [if_pos h3]
        by_cases t0 : t = 0
        · subst t0
          refine ⟨min s q, if_pos nI_0, by omega, fun _ => by rw [if_pos h3], fun y => by omega⟩
        · refine ⟨q - min s q, ?_, by omega, fun y => by omega, fun _ => by rw [if_pos h3]⟩
          rw [if_neg (nI_ne0 (by omega) (by omega)), nI_subI (by omega)]
      · rw [if_neg h3]
        by_cases t0 : t = 0
        · subst t0
          refine ⟨q, if_pos nI_0, by omega, fun _ => by rw [if_neg h3], fun y => by omega⟩
        · refine ⟨0, ?_, by omega, fun y => by omega, fun _ => by rw [if_neg h3]⟩
          rw [if_neg (nI_ne0 (by omega) (by omega)), nI_0]
    have PN : ∀ t, t < 2 → (if (o, t) ∈ l then pn m my (o, t) else 0) = pn m my (o, t) := by
      intro t ht
      obtain ⟨x, x1, x2, -⟩ := P t ht
      by_cases y : (o, t) ∈ l
      · rw [if_pos y]
      · rw [if_neg y, pn, x1, nI_clamp (by omega)]
        by_cases x0 : x = 0
        · exact x0.symm
        · exact absurd ((M t ht).mpr ((V t).mpr ⟨z, by rw [x1]; exact Int32.not_le.mp (nI_nle (by omega) (by omega))⟩)) y
    rw [PN 0 (by omega), PN 1 (by omega), pn, pn]
    obtain ⟨x, x1, x2, x3, -⟩ := P 0 (by omega)
    obtain ⟨y, y1, y2, -, y3⟩ := P 1 (by omega)
    show (ptf m my o (nI 0)).toNatClampNeg + (ptf m my o (nI 1)).toNatClampNeg = q
    rw [x1, y1, nI_clamp (by omega), nI_clamp (by omega), x3 rfl, y3 rfl]
    split <;> omega
  · rw [ev.2 z, if_neg (fun y => z ((V 0).mp ((M 0 (by omega)).mp y)).1), if_neg (fun y => z ((V 1).mp ((M 1 (by omega)).mp y)).1)]
