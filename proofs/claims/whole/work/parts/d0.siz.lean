/-! the size that the class reads off a key -/
theorem siz_sp {f : Nat → Int32} {n sd o t : Nat} (hO : OW f n) (hn : n ≤ 41) (ho : o < n) (hv : sv f sd o t) : nI (skey f o t) &&& 63 = nI o ∧ (if f (8 * o + 1) = 3 then (if nI (skey f o t) &&& 64 = 0 then f (8 * o + 4) else f (8 * o + 2) - f (8 * o + 4)) else f (8 * o + 2)) = ptf f (qt f) o (nI t) := by
  have hk := skey_lt (t := t) hO hn ho
  have hm := skey_o (t := t) hO hn ho
  refine ⟨by rw [pk_andN (by omega) 6 (by decide), show skey f o t % 2 ^ 6 = o from hm], ?_⟩
  have a1 := nea_le hO ho
  obtain ⟨s, kd, q, pr, sh, le, ow, g, e0, e1, e2, e3, e4, e5, e6, e7, b0, b1, b2, b3, b4, b5, -⟩ := hO o ho
  have eq : qt f o = nI q := e2
  have h64 : (nI (skey f o t) &&& 64 = 0) ↔ hid f o t = 0 := by
    rw [nI_64 (by omega)]
    have b1 := hid_le (f := f) (o := o) (t := t)
    have c1 := bas0_c f o
    rw [skey]
    omega
  rw [ptf, eq, e2, e4, mn_n (by omega) (by omega), Nat.min_eq_left b5]
  by_cases c3 : f (8 * o + 1) = 3
  · rw [if_pos c3, if_pos c3]
    rcases hv.2.2 with z | ⟨z, -⟩
    · rw [z] at h64 ⊢
      rw [if_pos nI_0, if_pos (h64.mpr (by rw [hid, if_neg (fun w => w.elim (fun u => by rw [c3] at u; exact absurd u (by decide)) (by decide))]))]
    · rw [z] at h64 ⊢
      rw [if_neg (show ¬ nI 1 = 0 by decide), if_neg (fun u => by have := h64.mp u; rw [hid, if_pos (Or.inr rfl)] at this; omega)]
  · rw [if_neg c3, if_neg c3]
    rcases hv.2.2 with z | ⟨z, z3, -⟩
    · rw [z, if_pos nI_0]
    · exact absurd z3 c3
/-- a number below -1 finds no slice -/
theorem fds_neg {f s : Nat → Int32} {p wt : Int32} : ∀ (e i c : Nat), c + e < 1000 → wt < 0 → fds f s p wt e i (nI c) = -1
  | 0, _, _, _, _ => rfl
  | e + 1, i, c, h, hw => by
    have hne : ¬ nI c = wt := fun z => by
      have := nI_pos' (n := c) (by omega)
      rw [z] at this
      exact absurd hw (Int32.not_lt.mpr this)
    rw [fds]
    split
    · rw [nI_1]
      exact fds_neg e (i + 1) (c + 1) (by omega) hw
    · exact fds_neg e (i + 1) c (by omega) hw
