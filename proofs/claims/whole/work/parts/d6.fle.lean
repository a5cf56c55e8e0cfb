/-! no order is filled by more than it has; the greatest volume -/
def pwk (m my : Nat → Int32) (k : Nat) : List (Nat × Nat) → Nat
  | [] => 0
  | q :: r => (if q.1 = k then pn m my q else 0) + pwk m my k r
theorem fil_pw {m my : Nat → Int32} {k : Nat} : ∀ (l : List (Nat × Nat)) (x y : Nat) (fl : Nat → Int32), (∀ q ∈ l, ∃ z, z ≤ 9999 ∧ ptf m my q.1 (nI q.2) = nI z) → x < 2 ^ 31 → fl k = nI y → ∃ y', y' ≤ y + pwk m my k l ∧ fil m my l (nI x) fl k = nI y'
  | [], x, y, fl, _, _, h => ⟨y, by rw [pwk]; omega, h⟩
  | q :: r, x, y, fl, hl, hx, h => by
    obtain ⟨z, z1, z2⟩ := hl q List.mem_cons_self
    have hp : pn m my q = z := by rw [pn, z2]; exact nI_clamp (by omega)
    rw [fil, z2, mn_n hx (by omega), nI_subI (by omega), pwk, hp]
    by_cases e : q.1 = k
    · obtain ⟨y', y1, y2⟩ := fil_pw r (x - min x z) (y + min x z) (upd fl q.1 (fl q.1 + nI (min x z))) (fun p hp => hl p (List.mem_cons_of_mem _ hp)) (by omega) (by rw [e, pk_us, h, nI_add])
      rw [if_pos e]
      exact ⟨y', by omega, y2⟩
    · obtain ⟨y', y1, y2⟩ := fil_pw r (x - min x z) y (upd fl q.1 (fl q.1 + nI (min x z))) (fun p hp => hl p (List.mem_cons_of_mem _ hp)) (by omega) (by rw [pk_un (fun w => e w.symm)]; exact h)
      rw [if_neg e]
      exact ⟨y', by omega, y2⟩
theorem pwk_nd {m my : Nat → Int32} {k : Nat} : ∀ (l : List (Nat × Nat)), l.Nodup → (∀ q ∈ l, q.2 < 2) → pwk m my k l ≤ (if (k, 0) ∈ l then pn m my (k, 0) else 0) + (if (k, 1) ∈ l then pn m my (k, 1) else 0)
  | [], _, _ => Nat.zero_le _
  | q :: r, hn, hb => by
    have hn2 := List.nodup_cons.mp hn
    have ih := pwk_nd (m := m) (my := my) (k := k) r hn2.2 (fun p hp => hb p (List.mem_cons_of_mem _ hp))
    have h2 := hb q List.mem_cons_self
    obtain ⟨a, t⟩ := q
    have ht : t = 0 ∨ t = 1 := by have : t < 2 := h2; omega
    have m0 : (k, 0) ∈ r → (k, 0) ∈ (a, t) :: r := List.mem_cons_of_mem _
    have m1 : (k, 1) ∈ r → (k, 1) ∈ (a, t) :: r := List.mem_cons_of_mem _
    have l0 : (if (k, 0) ∈ r then pn m my (k, 0) else 0) ≤ (if (k, 0) ∈ (a, t) :: r then pn m my (k, 0) else 0) := by
      by_cases c : (k, 0) ∈ r
      · rw [if_pos c, if_pos (m0 c)]; exact Nat.le_refl _
      · rw [if_neg c]; exact Nat.zero_le _
    have l1 : (if (k, 1) ∈ r then pn m my (k, 1) else 0) ≤ (if (k, 1) ∈ (a, t) :: r then pn m my (k, 1) else 0) := by
      by_cases c : (k, 1) ∈ r
      · rw [if_pos c, if_pos (m1 c)]; exact Nat.le_refl _
      · rw [if_neg c]; exact Nat.zero_le _
    rw [pwk]
    by_cases e : a = k
    · subst e
      rw [if_pos rfl]
      rcases ht with rfl | rfl
      · rw [if_neg hn2.1] at ih
        rw [if_pos (show (a, 0) ∈ (a, 0) :: r from List.mem_cons_self)]
        omega
      · rw [if_neg hn2.1] at ih
        rw [if_pos (show (a, 1) ∈ (a, 1) :: r from List.mem_cons_self)]
        omega
    · rw [if_neg e]
      omega
theorem OW.pq {m : Nat → Int32} {n k : Nat} (h : OW m n) (hk : k < n) : ∃ q, q ≤ 9999 ∧ m (8 * k + 2) = nI q ∧ pn m (qt m) (k, 0) + pn m (qt m) (k, 1) ≤ q := by
  obtain ⟨s, kd, q, pr, sh, le, ow, g, e0, e1, e2, e3, e4, e5, e6, e7, b0, b1, b2, b3, b4, b5, -⟩ := h k hk
  have eq : qt m k = nI q := e2
  refine ⟨q, b2, e2, ?_⟩
  rw [pn, pn]
  simp only [ptf]
  rw [e1, e4, eq]
  by_cases h3 : nI kd = 3
  · rw [if_pos h3, if_pos h3, if_pos nI_0, if_neg (by decide)]
    rw [mn_n (by omega) (by omega), nI_subI (by omega), nI_clamp (by omega), nI_clamp (by omega)]
    omega
  · rw [if_neg h3, if_neg h3, if_pos nI_0, if_neg (by decide), nI_clamp (by omega)]
    show q + 0 ≤ q
    omega
theorem slc_nd {m ct my : Nat → Int32} {sd p : Int32} {n : Nat} : (slc m ct my sd p n).Nodup ∧ ∀ q ∈ slc m ct my sd p n, q.1 < n ∧ q.2 < 2 ∧ m (8 * q.1 + 0) = sd := by
  by_cases he : ∃ l, SLs m ct my sd p n l
  · obtain ⟨l, hl⟩ := he
    rw [slc_eq hl]
    exact ⟨hl.nd, fun q hq => ⟨(hl.1 q hq).1, (hl.1 q hq).2.1, (hl.1 q hq).2.2.1⟩⟩
  · rw [slc, dif_neg he]
    exact ⟨List.nodup_nil, fun q hq => by cases hq⟩
theorem OW.rFq {m ct : Nat → Int32} {n lo hi k : Nat} (h : OW m n) (hn : n ≤ 41) (hk : k < n) : ∃ y q, q ≤ 9999 ∧ m (8 * k + 2) = nI q ∧ y ≤ q ∧ rF m ct (qt m) n lo hi k = nI y := by
  obtain ⟨q, q1, q2, q3⟩ := h.pq hk
  rw [rF]
  split
  · exact ⟨0, q, q1, q2, by omega, rfl⟩
  · rename_i hneg
    have hp : ∀ sd, ∀ q ∈ slc m ct (qt m) sd (rP m ct (qt m) n lo hi).1 n, ∃ z, z ≤ 9999 ∧ ptf m (qt m) q.1 (nI q.2) = nI z := fun sd q hq => h.pt (slc_lt rfl q hq).1 (slc_lt rfl q hq).2.1
    obtain ⟨v, v1, v2, -⟩ := h.vol (ct := ct) (p := (rP m ct (qt m) n lo hi).1) hn
    have eV : rV m ct (qt m) n lo hi = nI v := by rw [rV, if_neg hneg]; exact v1
    rw [eV]
    have W : ∀ sd, pwk m (qt m) k (slc m ct (qt m) sd (rP m ct (qt m) n lo hi).1 n) ≤ q := fun sd => by
      have := pwk_nd (m := m) (my := qt m) (k := k) (slc m ct (qt m) sd (rP m ct (qt m) n lo hi).1 n) slc_nd.1 (fun q hq => (slc_nd.2 q hq).2.1)
      have a0 : (if (k, 0) ∈ slc m ct (qt m) sd (rP m ct (qt m) n lo hi).1 n then pn m (qt m) (k, 0) else 0) ≤ pn m (qt m) (k, 0) := by split <;> omega
      have a1 : (if (k, 1) ∈ slc m ct (qt m) sd (rP m ct (qt m) n lo hi).1 n then pn m (qt m) (k, 1) else 0) ≤ pn m (qt m) (k, 1) := by split <;> omega
      omega
    by_cases s0 : m (8 * k + 0) = 0
    · rw [fil_out (k := k) _ _ _ (fun q hq w => by
        have := (slc_nd.2 q hq).2.2
        rw [w, s0] at this
        exact absurd this (by decide))]
      obtain ⟨y, y1, y2⟩ := fil_pw (k := k) _ v 0 (fun _ => 0) (hp 0) (by omega) rfl
      have := W 0
      exact ⟨y, q, q1, q2, by omega, y2⟩
    · have e0 : fil m (qt m) (slc m ct (qt m) 0 (rP m ct (qt m) n lo hi).1 n) (nI v) (fun _ => 0) k = nI 0 := by
        rw [fil_out (k := k) _ _ _ (fun q hq w => by
          have := (slc_nd.2 q hq).2.2
          rw [w] at this
          exact s0 this)]
        rfl
      obtain ⟨y, y1, y2⟩ := fil_pw (k := k) _ v 0 _ (hp 1) (by omega) e0
      have := W 1
      exact ⟨y, q, q1, q2, by omega, y2⟩
/-- the volume of the price is the greatest -/
theorem rV_mx {m ct : Nat → Int32} {n lo hi r : Nat} (hO : OW m n) (hn : n ≤ 41) (h330 : m 330 = nI r) (hr : r < 1000000) (hlo : 1 ≤ lo) (hlh : lo ≤ hi) (hhi : hi ≤ 999) (hct : ∀ k, k < n → ct k ≠ 0 → m (8 * k + 7) = 0) : rV m ct (qt m) n lo hi = mxv (fun p => vof (bs4 m ct (qt m) (nI p) n)) lo (hi + 1 - lo) := by
  obtain ⟨-, u1, u2, u3⟩ := hld_sp hO hn ((fun _ => 0), (fun _ => 0), (fun _ => 0), (fun _ => 0), 0) n (Nat.le_refl _)
  have hT := TU_of u1 u2
  have hci := fpl_ci (r := r) (lo := lo) (hi := hi) (sa := fun k => if ct k = 0 then 1 else 0) (ct := ct) hO hn hT (fun k hk z => hct k hk (fun w => by rw [if_pos w] at z; exact absurd z (by decide))) (fun k hk => by
    by_cases w : ct k = 0
    · rw [if_pos w]; exact ⟨fun z => absurd w z, fun z => absurd z (by decide)⟩
    · rw [if_neg w]; exact ⟨fun _ => rfl, fun _ => w⟩) hr hlo hhi ((hld m ((fun _ => 0), (fun _ => 0), (fun _ => 0), (fun _ => 0), 0) n).2.2.2.2 + 1) lo 0 (upd (upd (upd (upd (fun _ => 0) 5 (nI r)) 1 0) 4 0) 6 0) (Nat.le_refl _) (by omega) (by omega) (fun i hi => by omega) (fun _ => Or.inl (by omega)) (by rw [Nat.sub_self]; exact ci_0)
  obtain ⟨-, -, -, -, d5⟩ := fp3_dcd hr (by omega) (fun p _ _ => hO.abz (ct := ct) (p := nI p) hn) hci
  obtain ⟨m1, m2, m3⟩ := mxv_sp (V := fun p => vof (bs4 m ct (qt m) (nI p) n)) (lo := lo) (hi + 1 - lo)
  have hle := hci.2.1
  have hg0 := hci.1.2
  generalize fpl m (fun k => if ct k = 0 then 1 else 0) _ _ (nI hi) _ (nI lo) 0 _ _ = g at *
  have eP : rP m ct (qt m) n lo hi = fp3 (fun q => vof (bs4 m ct (qt m) (nI q) n)) (fun q => ref (bs4 m ct (qt m) (nI q) n)) lo (hi + 1 - lo) (nI r) := by rw [rP, h330]
  rw [← eP] at d5
  have hm : mxv (fun p => vof (bs4 m ct (qt m) (nI p) n)) lo (hi + 1 - lo) ≤ g 1 := by
    rcases m3 with e | ⟨p, p1, p2, p3⟩
    · rw [e]; exact hg0
    · rw [← p3]; exact hle p p1 p2
  rcases d5 with ⟨c1, c2, -⟩ | ⟨c1, q, q1, q2, q3, q4, -⟩
  · rw [rV, if_pos (by rw [c2]; decide)]
    rw [c1] at hm
    exact Int32.le_antisymm m1 hm
  · have hneg : ¬ (rP m ct (qt m) n lo hi).1 < 0 := by
      rw [q3]
      exact Int32.not_lt.mpr (nI_pos' (by omega))
    rw [rV, if_neg hneg, q3]
    have := m2 q q1 q2
    have q4' : vof (bs4 m ct (qt m) (nI q) n) = g 1 := q4
    rw [q4']
    exact Int32.le_antisymm (by rw [← q4']; exact this) hm
