/-! slices counted and found -/
section SLI
variable {f s : Nat → Int32} {n sd : Nat} {l : List (Nat × Nat)} {ct : Nat → Int32} {p : Int32}
theorem cts_sp (hO : OW f n) (hn : n ≤ 41) (hl : LSl f n sd s l) (hct : ∀ k, k < n → f (8 * k + 7) = 0 → ct k ≠ 0) : ∀ i, i ≤ l.length → cts f s p i = nI (lwv ct f p (l.take i)).length
  | 0, _ => rfl
  | i + 1, hi => by
    have hg : l[i]? = some l[i] := List.getElem?_eq_getElem (by omega)
    have hm := (hl.2.2 l[i].1 l[i].2).mp (List.getElem_mem (by omega))
    have en := (prt_sp (sa := f) (op := 0) (pr := 0) hO hn hm.1 hm.2).1
    rw [← hl.1 i _ hg] at en
    have et : l.take (i + 1) = l.take i ++ [l[i]] := by rw [List.take_add_one, hg]; rfl
    rw [cts, cts_sp hO hn hl hct i (by omega), en, et, lwv_ap, List.length_append]
    by_cases c : f (8 * l[i].1 + 1) = 0 ∨ (f (8 * l[i].1 + 0) = 0 ∧ p ≤ f (8 * l[i].1 + 3) ∨ f (8 * l[i].1 + 0) ≠ 0 ∧ f (8 * l[i].1 + 3) ≤ p)
    · rw [if_pos c, lwv_t ⟨hct _ hm.1 hm.2.1, c⟩, nI_1]
      rfl
    · rw [if_neg c, lwv_f (fun z => c z.2), Int32.add_zero]
      rfl
theorem fds_sp (hO : OW f n) (hn : n ≤ 41) (hl : LSl f n sd s l) (hct : ∀ k, k < n → f (8 * k + 7) = 0 → ct k ≠ 0) {w : Nat} (hw : w < 2 ^ 31) : ∀ e i c, i + e = l.length → c ≤ w → c + e < 1000 → fds f s p (nI w) e i (nI c) = match (lwv ct f p (l.drop i))[w - c]? with
    | some q => nI (skey f q.1 q.2)
    | none => -1
  | 0, i, c, hi, _, _ => by
    rw [fds, List.drop_eq_nil_of_le (by omega)]
    rfl
  | e + 1, i, c, hi, hc, hb => by
    have hg : l[i]? = some l[i] := List.getElem?_eq_getElem (by omega)
    have hm := (hl.2.2 l[i].1 l[i].2).mp (List.getElem_mem (by omega))
    have en := (prt_sp (sa := f) (op := 0) (pr := 0) hO hn hm.1 hm.2).1
    rw [← hl.1 i _ hg] at en
    have ed : l.drop i = l[i] :: l.drop (i + 1) := List.drop_eq_getElem_cons (by omega)
    rw [fds, en, ed]
    by_cases c1 : f (8 * l[i].1 + 1) = 0 ∨ (f (8 * l[i].1 + 0) = 0 ∧ p ≤ f (8 * l[i].1 + 3) ∨ f (8 * l[i].1 + 0) ≠ 0 ∧ f (8 * l[i].1 + 3) ≤ p)
    · rw [if_pos c1, lwv_t ⟨hct _ hm.1 hm.2.1, c1⟩]
      by_cases c2 : c = w
      · subst c2
        rw [if_pos rfl, Nat.sub_self]
        exact hl.1 i _ hg
      · rw [if_neg (fun z => c2 ((nI_eq (by omega) hw).mp z)), nI_1, fds_sp hO hn hl hct hw e (i + 1) (c + 1) (by omega) (by omega) (by omega)]
        obtain ⟨d, hd⟩ : ∃ d, w - c = d + 1 := ⟨w - c - 1, by omega⟩
        rw [hd, show w - (c + 1) = d by omega, List.getElem?_cons_succ]
    · rw [if_neg c1, lwv_f (fun z => c1 z.2), fds_sp hO hn hl hct hw e (i + 1) c (by omega) hc (by omega)]
end SLI
