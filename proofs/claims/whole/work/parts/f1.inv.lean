/-! what holds of every state -/
def Inv (S : Sg) (k : Nat) : Prop := Sok S ∧ Tby S ∧ (Own S.1 ∧ ∀ q ∈ S.2.1, Own q) ∧ S.2.2.2.2.2 ≤ k
theorem kpt_mem {S : Sg} {p : Bw} (h : p ∈ kpt S) : p ∈ S.2.1 ∨ p = S.1 := by
  rw [kpt] at h
  rcases List.mem_append.mp h with h | h
  · left
    split at h
    · exact List.mem_of_mem_tail h
    · exact h
  · right
    simpa using h
theorem Inv.psh {S : Sg} {k : Nat} {p : Bw} (h : Inv S k) (hp : Bok p) (ho : Own p) : Inv (psh S p) k := by
  obtain ⟨⟨h1, h2, h3, h4⟩, h5, ⟨h6, h7⟩, h8⟩ := h
  refine ⟨⟨hp, fun q hq => ?_, ?_, h4⟩, h5, ⟨ho, fun q hq => ?_⟩, h8⟩
  · rcases kpt_mem hq with z | z
    · exact h2 q z
    · rw [z]; exact h1
  · show (kpt S).length ≤ 12
    rw [kpt_ln h3]
    omega
  · rcases kpt_mem hq with z | z
    · exact h7 q z
    · rw [z]; exact h6
theorem Inv.up {S : Sg} {k : Nat} (h : Inv S k) : Inv S (k + 1) := ⟨h.1, h.2.1, h.2.2.1, by have := h.2.2.2; omega⟩
theorem own_n {p : Bw} (h : p.1 329 ≠ 2) : Own p := fun z => absurd z h
theorem inv_told {S : Sg} {k : Nat} {s kd q p sh le ow : Int32} (h : Inv S k) : Inv (sp_told S s kd q p sh le ow).2 k := by
  rw [sp_told]
  by_cases c : tldok S.1.1 s kd q p sh le ow ∧ ¬ (S.1.1 329 = 1 ∧ ab (xR S.1.1 (-1)) < ab (xR (ad1 S.1.1 s kd q p sh le ow) (-1)))
  · rw [if_pos c]
    obtain ⟨⟨t1, t2, t3, t4, t5, t6⟩, -⟩ := c
    have hB := h.1.1.1
    have hn := hB.2.1
    have hne : bn S.1.1 ≠ 40 := fun z => t5 (by rw [hB.1, z]; rfl)
    have e9 : ad1 S.1.1 s kd q p sh le ow 329 = S.1.1 329 := ad1_hi hn (by decide)
    refine h.psh ⟨(hB.ad1 t1 t2 t3 t4).mono (by omega), ?_, fun z => ?_⟩ (own_n ?_)
    · show ad1 S.1.1 s kd q p sh le ow 329 = 0 ∨ ad1 S.1.1 s kd q p sh le ow 329 = 1 ∨ ad1 S.1.1 s kd q p sh le ow 329 = 2
      rw [e9]; exact h.1.1.2.1
    · have z2 : ad1 S.1.1 s kd q p sh le ow 329 = 2 := z
      rw [e9] at z2; exact absurd z2 t6
    · show ad1 S.1.1 s kd q p sh le ow 329 ≠ 2
      rw [e9]; exact t6
  · rw [if_neg c]; exact h
theorem inv_gone {S : Sg} {k : Nat} {o : Int32} (h : Inv S k) : Inv (sp_gone S o).2 k := by
  rw [sp_gone]
  by_cases c : cch S.1.1 o ∧ ¬ (S.1.1 329 = 1 ∧ ab (xR S.1.1 (-1)) < ab (xR S.1.1 o))
  · rw [if_pos c]
    obtain ⟨⟨⟨t1, t2⟩, t3, t4⟩, -⟩ := c
    have hB := h.1.1.1
    have hn := hB.2.1
    rw [hB.1] at t2
    obtain ⟨j, hj, rfl⟩ := nI_in_of t1 t2 (by omega)
    rw [nI_clamp (by omega)]
    have e9 : upd S.1.1 (8 * j + 7) 1 329 = S.1.1 329 := pk_un (by omega)
    refine h.psh ⟨hB.gn hj, ?_, fun z => ?_⟩ (own_n ?_)
    · show upd S.1.1 (8 * j + 7) 1 329 = 0 ∨ upd S.1.1 (8 * j + 7) 1 329 = 1 ∨ upd S.1.1 (8 * j + 7) 1 329 = 2
      rw [e9]; exact h.1.1.2.1
    · have z2 : upd S.1.1 (8 * j + 7) 1 329 = 2 := z
      rw [e9] at z2; exact absurd z2 t4
    · show upd S.1.1 (8 * j + 7) 1 329 ≠ 2
      rw [e9]; exact t4
  · rw [if_neg c]; exact h
theorem inv_less {S : Sg} {k : Nat} {o q : Int32} (h : Inv S k) : Inv (sp_less S o q).2 k := by
  rw [sp_less]
  by_cases c : (cch S.1.1 o ∧ (1 ≤ q ∧ q ≤ S.1.1 (8 * o.toNatClampNeg + 2) - 1)) ∧ ¬ (S.1.1 329 = 1 ∧ ab (xR S.1.1 (-1)) < ab (xR (low S.1.1 o.toNatClampNeg q) (-1)))
  · rw [if_pos c]
    obtain ⟨⟨⟨⟨t1, t2⟩, t3, t4⟩, t5, t6⟩, -⟩ := c
    have hB := h.1.1.1
    have hn := hB.2.1
    rw [hB.1] at t2
    obtain ⟨j, hj, rfl⟩ := nI_in_of t1 t2 (by omega)
    rw [nI_clamp (by omega)] at t6 ⊢
    have e9 : low S.1.1 j q 329 = S.1.1 329 := low_n (by omega)
    have hq2 : q ≤ S.1.1 (8 * j + 2) := by
      obtain ⟨s, kd, q0, pr, sh, le, ow, g, e0, e1, e2, e3, e4, e5, e6, e7, b0, b1, b2, -⟩ := hB.2.2.1 j hj
      rw [e2] at t6 ⊢
      have e : nI q0 - 1 ≤ nI q0 := by
        by_cases z : q0 = 0
        · rw [z]; decide
        · have : nI q0 - 1 = nI (q0 - 1) := nI_subI (b := 1) (by omega)
          rw [this, nI_leI (by omega) (by omega)]
          omega
      exact Int32.le_trans t6 e
    refine h.psh ⟨hB.low hj t5 hq2, ?_, fun z => ?_⟩ (own_n ?_)
    · show low S.1.1 j q 329 = 0 ∨ low S.1.1 j q 329 = 1 ∨ low S.1.1 j q 329 = 2
      rw [e9]; exact h.1.1.2.1
    · have z2 : low S.1.1 j q 329 = 2 := z
      rw [e9] at z2; exact absurd z2 t4
    · show low S.1.1 j q 329 ≠ 2
      rw [e9]; exact t4
  · rw [if_neg c]; exact h
theorem ow_up {b : Nat → Int32} {n j : Nat} {x : Int32} (h : OW b n) (hj : 8 * n ≤ j) : OW (upd b j x) n := h.cm (fun i hi => (pk_un (by omega)).symm)
theorem inv_freeze {S : Sg} {k : Nat} (h : Inv S k) : Inv (sp_freeze S).2 k := by
  rw [sp_freeze]
  by_cases c : S.1.1 329 = 0
  · rw [if_pos c]
    have hB := h.1.1.1
    have hn := hB.2.1
    have e9 : upd S.1.1 329 1 329 = 1 := pk_us
    refine h.psh ⟨hB.cg (fun j h1 h2 h3 => pk_un h3) (ow_up hB.2.2.1 (by omega)), Or.inr (Or.inl e9), fun z => ?_⟩ (own_n ?_)
    · have z2 : upd S.1.1 329 1 329 = 2 := z
      rw [e9] at z2; exact absurd z2 (by decide)
    · show upd S.1.1 329 1 329 ≠ 2
      rw [e9]; decide
  · rw [if_neg c]; exact h
theorem inv_reference {S : Sg} {k : Nat} {p : Int32} (h : Inv S k) : Inv (sp_reference S p).2 k := by
  rw [sp_reference]
  by_cases c : S.1.1 329 = 0 ∧ 1 ≤ p ∧ p ≤ 999
  · rw [if_pos c]
    have hB := h.1.1.1
    have hn := hB.2.1
    obtain ⟨r, r1, r2, rfl⟩ := int_le1 (c := 999) (by omega) c.2.1 c.2.2
    have e9 : upd S.1.1 330 (nI r) 329 = 0 := (pk_un (by decide)).trans c.1
    obtain ⟨h1, h2, h3, h4, h5, h6, h7, h8, -⟩ := hB
    have en : bn (upd S.1.1 330 (nI r)) = bn S.1.1 := by rw [bn, bn, pk_un (by decide)]
    have el : blo (upd S.1.1 330 (nI r)) = blo S.1.1 := by rw [blo, blo, pk_un (by decide)]
    have eh : bhi (upd S.1.1 330 (nI r)) = bhi S.1.1 := by rw [bhi, bhi, pk_un (by decide)]
    have hBW : BW 40 (upd S.1.1 330 (nI r)) := ⟨by rw [en, pk_un (by decide)]; exact h1, by rw [en]; exact h2, by rw [en]; exact ow_up h3 (by omega), by rw [el, pk_un (by decide)]; exact h4, by rw [eh, pk_un (by decide)]; exact h5, by rw [el]; exact h6, by rw [el, eh]; exact h7, by rw [eh]; exact h8, r, r1, r2, pk_us⟩
    refine h.psh ⟨hBW, Or.inl e9, fun z => ?_⟩ (own_n ?_)
    · have z2 : upd S.1.1 330 (nI r) 329 = 2 := z
      rw [e9] at z2; exact absurd z2 (by decide)
    · show upd S.1.1 330 (nI r) 329 ≠ 2
      rw [e9]; decide
  · rw [if_neg c]; exact h
theorem inv_collar {S : Sg} {k : Nat} {l t : Int32} (h : Inv S k) : Inv (sp_collar S l t).2 k := by
  rw [sp_collar]
  by_cases c : S.1.1 329 = 0 ∧ (1 ≤ l ∧ l ≤ 999) ∧ (l ≤ t ∧ t ≤ 999)
  · rw [if_pos c]
    have hB := h.1.1.1
    have hn := hB.2.1
    obtain ⟨c0, ⟨c1, c2⟩, c3, c4⟩ := c
    obtain ⟨a, a1, a2, rfl⟩ := int_le1 (c := 999) (by omega) c1 c2
    obtain ⟨d, d1, d2, rfl⟩ := int_le1 (c := 999) (by omega) (Int32.le_trans c1 c3) c4
    have had := (nI_leI (by omega) (by omega)).mp c3
    obtain ⟨h1, h2, h3, h4, h5, h6, h7, h8, r, r1, r2, r3⟩ := hB
    have e9 : upd (upd S.1.1 331 (nI a)) 332 (nI d) 329 = 0 := by rw [pk_un (by decide), pk_un (by decide)]; exact c0
    have e1 : upd (upd S.1.1 331 (nI a)) 332 (nI d) 331 = nI a := by rw [pk_un (by decide), pk_us]
    have e2 : upd (upd S.1.1 331 (nI a)) 332 (nI d) 332 = nI d := pk_us
    have en : bn (upd (upd S.1.1 331 (nI a)) 332 (nI d)) = bn S.1.1 := by rw [bn, bn, pk_un (by decide), pk_un (by decide)]
    have el : blo (upd (upd S.1.1 331 (nI a)) 332 (nI d)) = a := by rw [blo, e1]; exact nI_clamp (by omega)
    have eh : bhi (upd (upd S.1.1 331 (nI a)) 332 (nI d)) = d := by rw [bhi, e2]; exact nI_clamp (by omega)
    have hBW : BW 40 (upd (upd S.1.1 331 (nI a)) 332 (nI d)) := ⟨by rw [en, pk_un (by decide), pk_un (by decide)]; exact h1, by rw [en]; exact h2, by rw [en]; exact ow_up (ow_up h3 (by omega)) (by omega), by rw [el, e1], by rw [eh, e2], by rw [el]; exact a1, by rw [el, eh]; exact had, by rw [eh]; exact d2, r, r1, r2, by rw [pk_un (by decide), pk_un (by decide)]; exact r3⟩
    refine h.psh ⟨hBW, Or.inl e9, fun z => ?_⟩ (own_n ?_)
    · have z2 : upd (upd S.1.1 331 (nI a)) 332 (nI d) 329 = 2 := z
      rw [e9] at z2; exact absurd z2 (by decide)
    · show upd (upd S.1.1 331 (nI a)) 332 (nI d) 329 ≠ 2
      rw [e9]; decide
  · rw [if_neg c]; exact h
theorem inv_back {S : Sg} {k : Nat} (h : Inv S k) : Inv (sp_back S).2 k := by
  rw [sp_back]
  by_cases c : S.2.1.length = 0
  · rw [if_pos c]; exact h
  · rw [if_neg c]
    obtain ⟨⟨h1, h2, h3, h4⟩, h5, ⟨h6, h7⟩, h8⟩ := h
    have hg : S.2.1[S.2.1.length - 1]? = some S.2.1[S.2.1.length - 1] := List.getElem?_eq_getElem (by omega)
    have hm : S.2.1[S.2.1.length - 1] ∈ S.2.1 := List.getElem_mem _
    rw [hg]
    refine ⟨⟨h2 _ hm, fun q hq => h2 q (List.dropLast_subset _ hq), ?_, h4⟩, h5, ⟨h7 _ hm, fun q hq => h7 q (List.dropLast_subset _ hq)⟩, h8⟩
    show S.2.1.dropLast.length ≤ 12
    rw [List.length_dropLast]
    omega
theorem inv_feed {S : Sg} {k : Nat} {x0 x1 x2 x3 x4 : Int32} (h : Inv S k) : Inv (sp_feed S x0 x1 x2 x3 x4).2 k := by
  rw [sp_feed]
  by_cases c : S.2.2.2.1 + 20 ≤ 800
  · rw [if_pos c]
    obtain ⟨⟨h1, h2, h3, h4⟩, h5, h6, h8⟩ := h
    refine ⟨⟨h1, h2, h3, c⟩, fun j hj => ?_, h6, h8⟩
    exact pt4_by (pt4_by (pt4_by (pt4_by (pt4_by h5)))) j hj
  · rw [if_neg c]; exact h
/-- rows as a crossing leaves them -/
theorem lev_row {f fl : Nat → Int32} {k : Nat} : ∀ i, k < i → ∀ j, j < 8 → lev f fl i (8 * k + j) = (if f (8 * k + 7) = 0 then lv1 f k (fl k) else f) (8 * k + j)
  | 0, h, _, _ => absurd h (by omega)
  | i + 1, h, j, hj => by
    rw [lev]
    by_cases e : k = i
    · subst e
      have R : ∀ a, a < 8 → lev f fl k (8 * k + a) = f (8 * k + a) := fun a ha => lev_hi k _ (by omega)
      rw [R 7 (by decide)]
      by_cases c : f (8 * k + 7) = 0
      · rw [if_pos c, if_pos c, lv1, lv1, R 2 (by decide), R 1 (by decide)]
        have lw : ∀ x, low (lev f fl k) k x (8 * k + j) = low f k x (8 * k + j) := fun x => by
          rw [low, low, R 4 (by decide), R 5 (by decide)]
          by_cases z5 : j = 5
          · rw [z5, pk_us, pk_us]
          · rw [pk_un (show 8 * k + j ≠ 8 * k + 5 by omega), pk_un (show 8 * k + j ≠ 8 * k + 5 by omega)]
            by_cases z4 : j = 4
            · rw [z4, pk_us, pk_us]
            · rw [pk_un (show 8 * k + j ≠ 8 * k + 4 by omega), pk_un (show 8 * k + j ≠ 8 * k + 4 by omega)]
              by_cases z2 : j = 2
              · rw [z2, pk_us, pk_us]
              · rw [pk_un (show 8 * k + j ≠ 8 * k + 2 by omega), pk_un (show 8 * k + j ≠ 8 * k + 2 by omega), R j hj]
        split
        · by_cases z7 : j = 7
          · rw [z7, pk_us, pk_us]
          · rw [pk_un (by omega), pk_un (by omega), lw]
        · exact lw _
      · rw [if_neg c, if_neg c, R j hj]
    · have ih := lev_row (f := f) (fl := fl) i (show k < i by omega) j hj
      split
      · rw [lv1_n (Or.inl (by omega)), ih]
      · exact ih
theorem lev_at {f fl : Nat → Int32} {n k : Nat} (hk : k < n) : lev f fl n (8 * k + 0) = f (8 * k + 0) ∧ lev f fl n (8 * k + 1) = f (8 * k + 1) ∧ lev f fl n (8 * k + 3) = f (8 * k + 3) ∧ lev f fl n (8 * k + 6) = f (8 * k + 6) ∧ (f (8 * k + 7) = 0 → lev f fl n (8 * k + 2) = f (8 * k + 2) - fl k ∧ lev f fl n (8 * k + 4) = mn (f (8 * k + 4)) (f (8 * k + 2) - fl k) ∧ lev f fl n (8 * k + 5) = mn (f (8 * k + 5)) (f (8 * k + 2) - fl k) ∧ lev f fl n (8 * k + 7) = (if f (8 * k + 2) - fl k = 0 ∨ f (8 * k + 1) = 0 ∨ f (8 * k + 1) = 4 then 1 else 0)) ∧ (¬ f (8 * k + 7) = 0 → ∀ j, j < 8 → lev f fl n (8 * k + j) = f (8 * k + j)) := by
  have R := fun j hj => lev_row (f := f) (fl := fl) n hk j hj
  by_cases c : f (8 * k + 7) = 0
  · simp only [if_pos c] at R
    have l1 : ∀ j, j < 7 → lv1 f k (fl k) (8 * k + j) = low f k (f (8 * k + 2) - fl k) (8 * k + j) := by
      intro j hj
      rw [lv1]
      split
      · rw [pk_un (by omega)]
      · rfl
    refine ⟨?_, ?_, ?_, ?_, fun _ => ⟨?_, ?_, ?_, ?_⟩, fun z => absurd c z⟩
    · rw [R 0 (by decide), l1 0 (by decide), low, pk_un (by omega), pk_un (by omega), pk_un (by omega)]
    · rw [R 1 (by decide), l1 1 (by decide), low, pk_un (by omega), pk_un (by omega), pk_un (by omega)]
    · rw [R 3 (by decide), l1 3 (by decide), low, pk_un (by omega), pk_un (by omega), pk_un (by omega)]
    · rw [R 6 (by decide), l1 6 (by decide), low, pk_un (by omega), pk_un (by omega), pk_un (by omega)]
    · rw [R 2 (by decide), l1 2 (by decide), low, pk_un (by omega), pk_un (by omega), pk_us]
    · rw [R 4 (by decide), l1 4 (by decide), low, pk_un (by omega), pk_us]
    · rw [R 5 (by decide), l1 5 (by decide), low, pk_us]
    · rw [R 7 (by decide), lv1]
      split
      · rw [pk_us]
      · rw [low, pk_un (by omega), pk_un (by omega), pk_un (by omega)]
        exact c
  · simp only [if_neg c] at R
    exact ⟨R 0 (by decide), R 1 (by decide), R 3 (by decide), R 6 (by decide), fun z => absurd z c, fun _ j hj => R j hj⟩
theorem lvb_bw {b : Nat → Int32} (hB : BW 40 b) : BW 40 (lvb b) := by
  have hn := hB.2.1
  have hO := hB.2.2.1
  have eL : ∀ j, j < 328 → lvb b j = lev b (xfl b) (bn b) j := fun j hj => pk_un (by omega)
  refine hB.cg (fun j h1 h2 h3 => ?_) (fun k hk => ?_)
  · rw [lvb, pk_un h3]
    exact lev_hi _ _ (by omega)
  obtain ⟨y, q0, q9, y2, y3, y4⟩ := hO.rFq (ct := (xC b (-1)).1) (lo := blo b) (hi := bhi b) (by omega) hk
  have eF : xfl b k = nI y := by rw [xfl_F (hB.mono (by decide))]; exact y4
  obtain ⟨s, kd, q, pr, sh, le, ow, g, e0, e1, e2, e3, e4, e5, e6, e7, b0, b1, b2, b3, b4, b5, b6, b7, b8, b9, b10, b11⟩ := hO k hk
  obtain ⟨a0, a1, a3, a6, aT, aF⟩ := lev_at (f := b) (fl := xfl b) hk
  rw [eL _ (by omega), eL _ (by omega), eL _ (by omega), eL _ (by omega), eL _ (by omega), eL _ (by omega), eL _ (by omega), eL _ (by omega), a0, a1, a3, a6]
  by_cases c : b (8 * k + 7) = 0
  · have g0 : g = 0 := by
      rw [e7] at c
      exact (nI_eq (b := 0) (by omega) (by omega)).mp c
    have hq : q0 = q := by
      rw [e2] at y2
      exact ((nI_eq (by omega) (by omega)).mp y2).symm
    subst hq
    obtain ⟨t2, t4, t5, t7⟩ := aT c
    have em : nI q0 - nI y = nI (q0 - y) := nI_subI y3
    rw [e2, eF, em] at t2 t4 t5 t7
    rw [e4, mn_n (by omega) (by omega)] at t4
    rw [e5, mn_n (by omega) (by omega)] at t5
    rw [t2, t4, t5, t7, e1]
    by_cases d : nI (q0 - y) = 0 ∨ nI kd = 0 ∨ nI kd = 4
    · rw [if_pos d]
      exact ⟨s, kd, q0 - y, pr, min sh (q0 - y), min le (q0 - y), ow, 1, e0, rfl, rfl, e3, rfl, rfl, e6, rfl, b0, b1, by omega, b3, b4, by omega, fun z => by have := b6 z; omega, by omega, b8, by omega, by omega, by omega⟩
    · rw [if_neg d]
      have hp : q0 - y ≠ 0 := fun z => d (Or.inl (by rw [z]; rfl))
      exact ⟨s, kd, q0 - y, pr, min sh (q0 - y), min le (q0 - y), ow, 0, e0, rfl, rfl, e3, rfl, rfl, e6, rfl, b0, b1, by omega, b3, b4, by omega, fun z => by have := b6 z; omega, by omega, b8, by omega, by omega, fun z z3 => by have := b11 g0 z3; omega⟩
  · have A := aF c
    rw [A 2 (by decide), A 4 (by decide), A 5 (by decide), A 7 (by decide)]
    exact ⟨s, kd, q, pr, sh, le, ow, g, e0, e1, e2, e3, e4, e5, e6, e7, b0, b1, b2, b3, b4, b5, b6, b7, b8, b9, b10, b11⟩
theorem lvb_hi {b : Nat → Int32} (hn : bn b ≤ 40) {j : Nat} (h1 : 328 ≤ j) (h3 : j ≠ 329) : lvb b j = b j := by
  rw [lvb, pk_un h3]
  exact lev_hi _ _ (by omega)
theorem inv_cross {S : Sg} {k : Nat} (h : Inv S k) : Inv (sp_cross S).2 (k + 1) := by
  rw [sp_cross]
  by_cases c : S.1.1 329 = 2
  · rw [if_pos c]; exact h.up
  · rw [if_neg c]
    have hB := h.1.1.1
    have hn := hB.2.1
    have e9 : lvb S.1.1 329 = 2 := pk_us
    have hp : Bok (lvb S.1.1, S.1.1) := ⟨lvb_bw hB, Or.inr (Or.inr e9), fun _ => ⟨hB, (lvb_hi hn (by decide) (by decide)).symm, (lvb_hi hn (by decide) (by decide)).symm, (lvb_hi hn (by decide) (by decide)).symm, (lvb_hi hn (by decide) (by decide)).symm⟩⟩
    have ho : Own (lvb S.1.1, S.1.1) := fun _ o ho => by
      have en : bn (lvb S.1.1) = bn S.1.1 := by rw [bn, bn, lvb_hi hn (by decide) (by decide)]
      have ho' : o < bn S.1.1 := by rw [← en]; exact ho
      show S.1.1 (8 * o + 6) = lvb S.1.1 (8 * o + 6)
      rw [lvb, pk_un (by omega), (lev_at (f := S.1.1) (fl := xfl S.1.1) ho').2.2.2.1]
    obtain ⟨a1, a2, a3, a4⟩ := h.psh hp ho
    obtain ⟨a5, a6, a7, a8⟩ := a1
    refine ⟨⟨a5, a6, a7, a8⟩, a2, a3, ?_⟩
    show S.2.2.2.2.2 + 1 ≤ k + 1
    have := h.2.2.2
    omega
/-- rows closed up -/
theorem fgt_row {f : Nat → Int32} : ∀ i m, m < (fgt f i).2 → ∃ k, k < i ∧ f (8 * k + 7) = 0 ∧ ∀ j, j < 8 → (fgt f i).1 (8 * m + j) = f (8 * k + j)
  | 0, m, h => absurd h (Nat.not_lt_zero _)
  | i + 1, m, h => by
    rw [fgt] at h ⊢
    have hle := fgt_le f i
    have R : ∀ a, a < 8 → (fgt f i).1 (8 * i + a) = f (8 * i + a) := fun a ha => fgt_hi i _ (by omega)
    by_cases c : (fgt f i).1 (8 * i + 7) = 0
    · rw [if_pos c] at h ⊢
      have h' : m < (fgt f i).2 + 1 := h
      by_cases e : m = (fgt f i).2
      · refine ⟨i, by omega, by rw [R 7 (by decide)] at c; exact c, fun j hj => ?_⟩
        show va_cpy _ _ _ _ _ (8 * m + j) = _
        rw [va_cpy, if_pos (by omega), e, show 8 * i + (8 * (fgt f i).2 + j - 8 * (fgt f i).2) = 8 * i + j by omega, R j hj]
      · obtain ⟨k, k1, k2, k3⟩ := fgt_row (f := f) i m (by omega)
        refine ⟨k, by omega, k2, fun j hj => ?_⟩
        show va_cpy _ _ _ _ _ (8 * m + j) = _
        rw [va_cpy, if_neg (by omega)]
        exact k3 j hj
    · rw [if_neg c] at h ⊢
      obtain ⟨k, k1, k2, k3⟩ := fgt_row i m h
      exact ⟨k, by omega, k2, k3⟩
theorem inv_open {S : Sg} {k : Nat} (h : Inv S k) : Inv (sp_open S).2 k := by
  rw [sp_open]
  by_cases c : S.1.1 329 = 2
  · rw [if_pos c]
    have hB := h.1.1.1
    have hn := hB.2.1
    obtain ⟨w1, -⟩ := h.1.1.2.2 c
    have hle := fgt_le S.1.1 (bn S.1.1)
    obtain ⟨h1, h2, h3, h4, h5, h6, h7, h8, r, r1, r2, r3⟩ := hB
    have E : ∀ j, j ≠ 328 → j ≠ 329 → j ≠ 330 → opb S.1.1 S.1.2 j = (fgt S.1.1 (bn S.1.1)).1 j := fun j a1 a2 a3 => by rw [opb, pk_un a3, pk_un a2, pk_un a1]
    have e8 : opb S.1.1 S.1.2 328 = nI (fgt S.1.1 (bn S.1.1)).2 := by rw [opb, pk_un (by decide), pk_un (by decide), pk_us]
    have e9 : opb S.1.1 S.1.2 329 = 0 := by rw [opb, pk_un (by decide), pk_us]
    have e0 : opb S.1.1 S.1.2 330 = (if 0 < (xP S.1.2 (-1)).1 then (xP S.1.2 (-1)).1 else S.1.1 330) := by rw [opb, pk_us]
    have en : bn (opb S.1.1 S.1.2) = (fgt S.1.1 (bn S.1.1)).2 := by rw [bn, e8]; exact nI_clamp (by omega)
    have e1 : opb S.1.1 S.1.2 331 = S.1.1 331 := by rw [E _ (by decide) (by decide) (by decide)]; exact fgt_hi _ _ (by omega)
    have e2 : opb S.1.1 S.1.2 332 = S.1.1 332 := by rw [E _ (by decide) (by decide) (by decide)]; exact fgt_hi _ _ (by omega)
    have el : blo (opb S.1.1 S.1.2) = blo S.1.1 := by rw [blo, blo, e1]
    have eh : bhi (opb S.1.1 S.1.2) = bhi S.1.1 := by rw [bhi, bhi, e2]
    have hr : ∃ r, 1 ≤ r ∧ r ≤ 999 ∧ opb S.1.1 S.1.2 330 = nI r := by
      rw [e0]
      by_cases z : 0 < (xP S.1.2 (-1)).1
      · rw [if_pos z]
        rcases rP_pr (m := S.1.2) (ct := (xC S.1.2 (-1)).1) (my := qt S.1.2) (n := bn S.1.2) (lo := blo S.1.2) (hi := bhi S.1.2) with e | ⟨p, p1, p2, e⟩
        · have e' : (xP S.1.2 (-1)).1 = -1 := e
          rw [e'] at z
          exact absurd z (by decide)
        · have l1 := w1.2.2.2.2.2.1
          have l2 := w1.2.2.2.2.2.2.1
          have l3 := w1.2.2.2.2.2.2.2.1
          exact ⟨p, by omega, by omega, e⟩
      · rw [if_neg z]
        exact ⟨r, r1, r2, r3⟩
    have hOW : OW (opb S.1.1 S.1.2) (fgt S.1.1 (bn S.1.1)).2 := by
      intro m hm
      obtain ⟨kk, k1, k2, k3⟩ := fgt_row (bn S.1.1) m hm
      have X : ∀ j, j < 8 → opb S.1.1 S.1.2 (8 * m + j) = S.1.1 (8 * kk + j) := fun j hj => by rw [E _ (by omega) (by omega) (by omega)]; exact k3 j hj
      rw [X 0 (by decide), X 1 (by decide), X 2 (by decide), X 3 (by decide), X 4 (by decide), X 5 (by decide), X 6 (by decide), X 7 (by decide)]
      exact h3 kk k1
    have hBW : BW 40 (opb S.1.1 S.1.2) := ⟨by rw [en, e8], by rw [en]; omega, by rw [en]; exact hOW, by rw [el, e1]; exact h4, by rw [eh, e2]; exact h5, by rw [el]; exact h6, by rw [el, eh]; exact h7, by rw [eh]; exact h8, hr⟩
    refine h.psh ⟨hBW, Or.inl e9, fun z => ?_⟩ (own_n ?_)
    · have z2 : opb S.1.1 S.1.2 329 = 2 := z
      rw [e9] at z2; exact absurd z2 (by decide)
    · show opb S.1.1 S.1.2 329 ≠ 2
      rw [e9]; decide
  · rw [if_neg c]; exact h
