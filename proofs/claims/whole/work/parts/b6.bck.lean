/-! back: the latest act undone -/
def qs (q : Nat → Nat) (j : Nat) : Nat → Nat := fun i => if i < 40 then q i else if i < 43 then q (46 + 3 * j + (i - 40)) else if 46 + 3 * j ≤ i ∧ i < 49 + 3 * j then q (40 + (i - (46 + 3 * j))) else q i
theorem qs_at {q : Nat → Nat} {j i : Nat} (hj : j < 12) (hi : i < 82) : ∃ c, qs q j i = q c ∧ c < 82 ∧ (i < 40 ∧ c = i ∨ 40 ≤ i ∧ i < 43 ∧ c = 46 + 3 * j + (i - 40) ∨ 46 + 3 * j ≤ i ∧ i < 49 + 3 * j ∧ c = 40 + (i - (46 + 3 * j)) ∨ 43 ≤ i ∧ ¬ (46 + 3 * j ≤ i ∧ i < 49 + 3 * j) ∧ c = i) := by
  rw [qs]
  by_cases h1 : i < 40
  · rw [if_pos h1]; exact ⟨i, rfl, hi, by omega⟩
  · rw [if_neg h1]
    by_cases h2 : i < 43
    · rw [if_pos h2]; exact ⟨_, rfl, by omega, by omega⟩
    · rw [if_neg h2]
      by_cases h4 : 46 + 3 * j ≤ i ∧ i < 49 + 3 * j
      · rw [if_pos h4]; exact ⟨_, rfl, by omega, by omega⟩
      · rw [if_neg h4]; exact ⟨i, rfl, hi, by omega⟩
theorem qs_sq {q : Nat → Nat} {j : Nat} (hj : j < 12) : SQ q (qs q j) := ⟨rfl, fun i hi => by
  obtain ⟨c, h1, h2, -⟩ := qs_at (q := q) hj hi
  exact ⟨c, h2, h1⟩⟩
theorem qs_inj {q : Nat → Nat} {j : Nat} (hq : InjQ q) (hj : j < 12) : InjQ (qs q j) := by
  intro a b ha hb hne
  obtain ⟨c, c1, c2, c3⟩ := qs_at (q := q) hj ha
  obtain ⟨d, d1, d2, d3⟩ := qs_at (q := q) hj hb
  rw [c1, d1]
  exact hq c d c2 d2 (by omega)
theorem qs_lo {q : Nat → Nat} {j i : Nat} (h : i < 40) : qs q j i = q i := if_pos h
theorem qs_b {q : Nat → Nat} {j c : Nat} (h : c < 3) : qs q j (40 + c) = q (46 + 3 * j + c) := by rw [qs, if_neg (by omega), if_pos (by omega)]; congr 1; omega
theorem qs_a {q : Nat → Nat} {j c : Nat} (h : c < 3) : qs q j (46 + 3 * j + c) = q (40 + c) := by rw [qs, if_neg (by omega), if_neg (by omega), if_pos (by omega)]; congr 1; omega
theorem qs_o {q : Nat → Nat} {j i : Nat} (h : 43 ≤ i) (h2 : ¬ (46 + 3 * j ≤ i ∧ i < 49 + 3 * j)) : qs q j i = q i := by rw [qs, if_neg (by omega), if_neg (by omega), if_neg h2]
section BCK
variable {G : GP} {M X : Wd} {q : Nat → Nat} {na : Nat} {S : Sg}
set_option maxRecDepth 20000 in
theorem k_bk2 {j : Nat} (hC : CR q na S M) (hL : 1 ≤ S.2.1.length) (hL2 : S.2.1.length ≤ 12) (hjn : j = (na + 11) % 12) (hX : gt X (q 0) = some (ob 5 [.ref (q 1), .ref (q 40), .ref (q 43), .ref (q 13), .ref (q 3), .int (nI j), .int (nI (S.2.1.length - 1)), .ref (q 4), .int (nI S.2.2.2.2.2)])) (hF : Fr [q 0] M X) :
    Ev G mX5_back 41 [some (.ref (q 0)), none] [] X 0 0 (fun v M' => ∃ x : Int32, v = some (.int x) ∧ x = (sp_back S).1 ∧ KR q (sp_back S).2 M M') := by
  obtain ⟨⟨hj, hna⟩, h0, h1, ⟨⟨ac, h3, h4⟩, h5, h6⟩, hA, hB, hD⟩ := hC
  have hlt : j < 12 := by omega
  have x3 : gt X (q 3) = some (ra 5 12 ac) := hF.rd (by simp; exact hj _ _ (by decide) (by decide) (by decide)) h3
  have hBX : Bk X (q 40) (q 41) (q 42) S.1 := hB.fr hF (by simp; exact hj _ _ (by decide) (by decide) (by decide)) (by simp; exact hj _ _ (by decide) (by decide) (by decide)) (by simp; exact hj _ _ (by decide) (by decide) (by decide))
  obtain ⟨f, g, g40, -⟩ := hBX
  have ei : (nI j).toNatClampNeg = j := nI_clamp (by omega)
  have b : vp_in (nI j) 12 := vp_in_nI hlt (by omega)
  have e : ac (nI j).toNatClampNeg = some (q (46 + 3 * j)) := by rw [ei]; exact h4 j hlt
  refine Ev.ald0 dX5_back_41 ?_
  apply Ev.getf dX5_back_42 fX5_19
  · repeat (first | assumption | (refine gt_upI ?_; (repeat (first | exact In_of (gt_nw (by assumption)) | (apply In_of; assumption) | refine In_up ?_ | refine In_nw ?_)); done) | refine gt_rd (by first | assumption | (apply Ne.symm; assumption) | (exact hj _ _ (by omega) (by omega) (by omega)) | omega) ?_ | exact gt_nw (by assumption) | refine gt_odr (by first | assumption | (apply Ne.symm; assumption) | omega) ?_)
  · first | rfl | assumption
  refine Ev.ast1 dX5_back_45 rfl rfl ?_
  refine Ev.ald0 dX5_back_46 ?_
  refine Ev.ald0 dX5_back_47 ?_
  apply Ev.getf dX5_back_48 fX5_35
  · repeat (first | assumption | (refine gt_upI ?_; (repeat (first | exact In_of (gt_nw (by assumption)) | (apply In_of; assumption) | refine In_up ?_ | refine In_nw ?_)); done) | refine gt_rd (by first | assumption | (apply Ne.symm; assumption) | (exact hj _ _ (by omega) (by omega) (by omega)) | omega) ?_ | exact gt_nw (by assumption) | refine gt_odr (by first | assumption | (apply Ne.symm; assumption) | omega) ?_)
  · first | rfl | assumption
  refine Ev.ald0 dX5_back_51 ?_
  apply Ev.getf dX5_back_52 fX5_39
  · repeat (first | assumption | (refine gt_upI ?_; (repeat (first | exact In_of (gt_nw (by assumption)) | (apply In_of; assumption) | refine In_up ?_ | refine In_nw ?_)); done) | refine gt_rd (by first | assumption | (apply Ne.symm; assumption) | (exact hj _ _ (by omega) (by omega) (by omega)) | omega) ?_ | exact gt_nw (by assumption) | refine gt_odr (by first | assumption | (apply Ne.symm; assumption) | omega) ?_)
  · first | rfl | assumption
  apply Ev.bkld dX5_back_55
  · repeat (first | assumption | (refine gt_upI ?_; (repeat (first | exact In_of (gt_nw (by assumption)) | (apply In_of; assumption) | refine In_up ?_ | refine In_nw ?_)); done) | refine gt_rd (by first | assumption | (apply Ne.symm; assumption) | (exact hj _ _ (by omega) (by omega) (by omega)) | omega) ?_ | exact gt_nw (by assumption) | refine gt_odr (by first | assumption | (apply Ne.symm; assumption) | omega) ?_)
  · assumption
  · assumption
  apply Ev.put dX5_back_56 fX5_19
  · repeat (first | assumption | (refine gt_upI ?_; (repeat (first | exact In_of (gt_nw (by assumption)) | (apply In_of; assumption) | refine In_up ?_ | refine In_nw ?_)); done) | refine gt_rd (by first | assumption | (apply Ne.symm; assumption) | (exact hj _ _ (by omega) (by omega) (by omega)) | omega) ?_ | exact gt_nw (by assumption) | refine gt_odr (by first | assumption | (apply Ne.symm; assumption) | omega) ?_)
  · rfl
  · rfl
  · rfl
  refine Ev.ald0 dX5_back_59 ?_
  apply Ev.getf dX5_back_60 fX5_35
  · repeat (first | assumption | (refine gt_upI ?_; (repeat (first | exact In_of (gt_nw (by assumption)) | (apply In_of; assumption) | refine In_up ?_ | refine In_nw ?_)); done) | refine gt_rd (by first | assumption | (apply Ne.symm; assumption) | (exact hj _ _ (by omega) (by omega) (by omega)) | omega) ?_ | exact gt_nw (by assumption) | refine gt_odr (by first | assumption | (apply Ne.symm; assumption) | omega) ?_)
  · first | rfl | assumption
  refine Ev.ald0 dX5_back_63 ?_
  apply Ev.getf dX5_back_64 fX5_39
  · repeat (first | assumption | (refine gt_upI ?_; (repeat (first | exact In_of (gt_nw (by assumption)) | (apply In_of; assumption) | refine In_up ?_ | refine In_nw ?_)); done) | refine gt_rd (by first | assumption | (apply Ne.symm; assumption) | (exact hj _ _ (by omega) (by omega) (by omega)) | omega) ?_ | exact gt_nw (by assumption) | refine gt_odr (by first | assumption | (apply Ne.symm; assumption) | omega) ?_)
  · first | rfl | assumption
  refine Ev.ald1 dX5_back_67 ?_
  apply Ev.bkst dX5_back_68
  · repeat (first | assumption | (refine gt_upI ?_; (repeat (first | exact In_of (gt_nw (by assumption)) | (apply In_of; assumption) | refine In_up ?_ | refine In_nw ?_)); done) | refine gt_rd (by first | assumption | (apply Ne.symm; assumption) | (exact hj _ _ (by omega) (by omega) (by omega)) | omega) ?_ | exact gt_nw (by assumption) | refine gt_odr (by first | assumption | (apply Ne.symm; assumption) | omega) ?_)
  · repeat (first | assumption | (refine gt_upI ?_; (repeat (first | exact In_of (gt_nw (by assumption)) | (apply In_of; assumption) | refine In_up ?_ | refine In_nw ?_)); done) | refine gt_rd (by first | assumption | (apply Ne.symm; assumption) | (exact hj _ _ (by omega) (by omega) (by omega)) | omega) ?_ | exact gt_nw (by assumption) | refine gt_odr (by first | assumption | (apply Ne.symm; assumption) | omega) ?_)
  · assumption
  refine Ev.iconst (v := 1) dX5_back_69 (by decide) ?_
  refine Ev.iret dX5_back_70 rfl rfl ?_
  rw [ei]
  generalize hY : up (up X (q 0) _) (q 3) _ = Y
  have y0 : gt Y (q 0) = some (ob 5 [.ref (q 1), .ref (q (46 + 3 * j)), .ref (q 43), .ref (q 13), .ref (q 3), .int (nI j), .int (nI (S.2.1.length - 1)), .ref (q 4), .int (nI S.2.2.2.2.2)]) := by rw [← hY]; exact (by repeat (first | assumption | (refine gt_upI ?_; (repeat (first | exact In_of (gt_nw (by assumption)) | (apply In_of; assumption) | refine In_up ?_ | refine In_nw ?_)); done) | refine gt_rd (by first | assumption | (apply Ne.symm; assumption) | (exact hj _ _ (by omega) (by omega) (by omega)) | omega) ?_ | exact gt_nw (by assumption) | refine gt_odr (by first | assumption | (apply Ne.symm; assumption) | omega) ?_))
  have y3 : gt Y (q 3) = some (ra 5 12 (va_up ac j (some (q 40)))) := by rw [← hY]; exact (by repeat (first | assumption | (refine gt_upI ?_; (repeat (first | exact In_of (gt_nw (by assumption)) | (apply In_of; assumption) | refine In_up ?_ | refine In_nw ?_)); done) | refine gt_rd (by first | assumption | (apply Ne.symm; assumption) | (exact hj _ _ (by omega) (by omega) (by omega)) | omega) ?_ | exact gt_nw (by assumption) | refine gt_odr (by first | assumption | (apply Ne.symm; assumption) | omega) ?_))
  have hF2 : Fr ([0, 3].map q) M Y := by
    rw [← hY]
    exact (((show Fr ([0, 3].map q) M X from hF.mono (fun a ha => by simp at ha; rw [ha]; simp)).pt (by simp))).pt (by simp)
  have N2 : ∀ i, 4 ≤ i → i < 82 → q i ∉ [0, 3].map q := fun i h1 h2 => ninQ hj h2 (by decide) (by simp; omega)
  have hne : ¬ S.2.1.length = 0 := by omega
  have hlast : S.2.1[S.2.1.length - 1]? = some (S.2.1[S.2.1.length - 1]'(by omega)) := List.getElem?_eq_getElem (by omega)
  have hl2 : S.2.1.dropLast.length = S.2.1.length - 1 := List.length_dropLast
  rw [sp_back, if_neg hne]
  refine ⟨_, rfl, rfl, qs q j, j, ⟨⟨qs_inj hj hlt, hlt⟩, ?_, ?_, ⟨?_, ?_, ?_⟩, ?_, ?_, ?_⟩, qs_sq hlt, hF2.q (by decide)⟩
  · show gt _ (q 0) = some (oco (qs q j) j S.2.1.dropLast.length S.2.2.2.2.2)
    rw [y0, hl2]
    show some (ob 5 _) = some (ob 5 _)
    rw [qs_lo (show 1 < 40 by decide), qs_lo (show 13 < 40 by decide), qs_lo (show 3 < 40 by decide), qs_lo (show 4 < 40 by decide), show qs q j 40 = q (46 + 3 * j) from qs_b (c := 0) (by decide), show qs q j 43 = q 43 from qs_o (by decide) (by omega)]
  · have := h1.fr hj hF2 (by decide) (by decide) (by decide) (by decide)
    exact this
  · refine ⟨va_up ac j (some (q 40)), y3, fun i hi => ?_⟩
    by_cases z : i = j
    · subst z
      rw [show qs q i (46 + 3 * i) = q 40 from qs_a (c := 0) (by decide)]
      exact if_pos rfl
    · rw [qs_o (by omega) (by omega)]
      exact (if_neg z).trans (h4 i hi)
  · intro i hi
    by_cases z : i = j
    · subst z
      rw [show qs q i (46 + 3 * i) = q 40 from qs_a (c := 0) (by decide), show qs q i (47 + 3 * i) = q 41 by rw [show 47 + 3 * i = 46 + 3 * i + 1 by omega]; exact qs_a (c := 1) (by decide), show qs q i (48 + 3 * i) = q 42 by rw [show 48 + 3 * i = 46 + 3 * i + 2 by omega]; exact qs_a (c := 2) (by decide)]
      exact hB.ba.fr hF2 (N2 _ (by decide) (by decide)) (N2 _ (by decide) (by decide)) (N2 _ (by decide) (by decide))
    · rw [qs_o (by omega) (by omega), qs_o (by omega) (by omega), qs_o (by omega) (by omega)]
      exact (h5 i hi).fr hF2 (N2 _ (by omega) (by omega)) (N2 _ (by omega) (by omega)) (N2 _ (by omega) (by omega))
  · intro k p hp
    have hp1 : S.2.1.dropLast[k]? = some p := hp
    have hk : k < S.2.1.length - 1 := by
      have := (List.getElem?_eq_some_iff.mp hp1).1
      rw [hl2] at this
      exact this
    have hp2 : S.2.1[k]? = some p := by
      rw [List.getElem?_dropLast, if_pos hk] at hp1
      exact hp1
    have er : rgp j S.2.1.dropLast.length k = rgp na S.2.1.length k ∧ rgp na S.2.1.length k ≠ j := by
      rw [hl2]
      simp only [rgp]
      omega
    show Bk _ (qs q j (46 + 3 * rgp j S.2.1.dropLast.length k)) (qs q j (47 + 3 * rgp j S.2.1.dropLast.length k)) (qs q j (48 + 3 * rgp j S.2.1.dropLast.length k)) p
    rw [er.1]
    have hl := rgp_lt (na := na) (L := S.2.1.length) (k := k)
    have hnj := er.2
    rw [qs_o (by omega) (by omega), qs_o (by omega) (by omega), qs_o (by omega) (by omega)]
    exact (h6 k p hp2).fr hF2 (N2 _ (by omega) (by omega)) (N2 _ (by omega) (by omega)) (N2 _ (by omega) (by omega))
  · obtain ⟨so, po, t0, r0, i1, i2, i3, i4, ov, hp, vo, re, t, g, fl, tr, sa, cn, tu, s0, s1, p0, p1, hs, r3, r0', r1, r2, r6, r7, r8, r9, r10, r11, r15, r16, r17, r18⟩ := hA
    exact ⟨so, po, t0, r0, i1, i2, i3, i4, ov, hp, vo, re, t, g, fl, tr, sa, cn, tu, s0, s1, p0, p1, hs, hF2.rd (N2 13 (by decide) (by decide)) r3, hF2.rd (N2 10 (by decide) (by decide)) r0', hF2.rd (N2 11 (by decide) (by decide)) r1, hF2.rd (N2 12 (by decide) (by decide)) r2, hF2.rd (N2 16 (by decide) (by decide)) r6, hF2.rd (N2 17 (by decide) (by decide)) r7, hF2.rd (N2 18 (by decide) (by decide)) r8, hF2.rd (N2 19 (by decide) (by decide)) r9, hF2.rd (N2 20 (by decide) (by decide)) r10, hF2.rd (N2 21 (by decide) (by decide)) r11, hF2.rd (N2 25 (by decide) (by decide)) r15, hF2.rd (N2 26 (by decide) (by decide)) r16, hF2.rd (N2 27 (by decide) (by decide)) r17, hF2.rd (N2 28 (by decide) (by decide)) r18⟩
  · show Bk _ (qs q j 40) (qs q j 41) (qs q j 42) ((S.2.1[S.2.1.length - 1]?).getD S.1)
    rw [show qs q j 40 = q (46 + 3 * j) from qs_b (c := 0) (by decide), show qs q j 41 = q (47 + 3 * j) by rw [show 47 + 3 * j = 46 + 3 * j + 1 by omega]; exact qs_b (c := 1) (by decide), show qs q j 42 = q (48 + 3 * j) by rw [show 48 + 3 * j = 46 + 3 * j + 2 by omega]; exact qs_b (c := 2) (by decide), hlast]
    have := h6 _ _ hlast
    rw [show rgp na S.2.1.length (S.2.1.length - 1) = j by simp only [rgp]; omega] at this
    exact this.fr hF2 (N2 _ (by omega) (by omega)) (N2 _ (by omega) (by omega)) (N2 _ (by omega) (by omega))
  · rw [show qs q j 43 = q 43 from qs_o (by decide) (by omega), show qs q j 44 = q 44 from qs_o (by decide) (by omega), show qs q j 45 = q 45 from qs_o (by decide) (by omega)]
    exact hD.fr hF2 (N2 _ (by decide) (by decide)) (N2 _ (by decide) (by decide)) (N2 _ (by decide) (by decide))
set_option maxRecDepth 20000 in
theorem k_back (hC : CR q na S M) (hS : Sok S) : CtI G mX5_back [.ref (q 0)] M 0 0 (fun x M' => x = (sp_back S).1 ∧ KR q (sp_back S).2 M M') := by
  have hC0 := hC
  obtain ⟨⟨hj, hna⟩, h0, -⟩ := hC
  have hL2 := hS.2.2.1
  refine Ct.of (ls := [some (.ref (q 0)), none]) (by decide) (by decide) rfl rfl rfl ?_
  refine Ev.ald0 dX5_back_0 ?_
  apply Ev.getf dX5_back_1 fX5_43
  · repeat (first | assumption | (refine gt_upI ?_; (repeat (first | exact In_of (gt_nw (by assumption)) | (apply In_of; assumption) | refine In_up ?_ | refine In_nw ?_)); done) | refine gt_rd (by first | assumption | (apply Ne.symm; assumption) | (exact hj _ _ (by omega) (by omega) (by omega)) | omega) ?_ | exact gt_nw (by assumption) | refine gt_odr (by first | assumption | (apply Ne.symm; assumption) | omega) ?_)
  · first | rfl | assumption
  refine Ev.if_gt (tgt := 9) dX5_back_4 (by decide) (fun c4 => ?_) (fun c4 => ?_)
  · have hL : 1 ≤ S.2.1.length := by
      have := (nI_ltI (a := 0) (by omega) (by omega)).mp c4
      omega
    have es : nI S.2.1.length - 1 = nI (S.2.1.length - 1) := nI_subI (b := 1) hL
    refine Ev.ald0 dX5_back_9 ?_
    refine Ev.dup dX5_back_10 rfl ?_
    apply Ev.getf dX5_back_11 fX5_43
    · repeat (first | assumption | (refine gt_upI ?_; (repeat (first | exact In_of (gt_nw (by assumption)) | (apply In_of; assumption) | refine In_up ?_ | refine In_nw ?_)); done) | refine gt_rd (by first | assumption | (apply Ne.symm; assumption) | (exact hj _ _ (by omega) (by omega) (by omega)) | omega) ?_ | exact gt_nw (by assumption) | refine gt_odr (by first | assumption | (apply Ne.symm; assumption) | omega) ?_)
    · first | rfl | assumption
    refine Ev.iconst (v := 1) dX5_back_14 (by decide) ?_
    refine Ev.isub dX5_back_15 ?_
    rw [es]
    apply Ev.put dX5_back_16 fX5_43
    · repeat (first | assumption | (refine gt_upI ?_; (repeat (first | exact In_of (gt_nw (by assumption)) | (apply In_of; assumption) | refine In_up ?_ | refine In_nw ?_)); done) | refine gt_rd (by first | assumption | (apply Ne.symm; assumption) | (exact hj _ _ (by omega) (by omega) (by omega)) | omega) ?_ | exact gt_nw (by assumption) | refine gt_odr (by first | assumption | (apply Ne.symm; assumption) | omega) ?_)
    · rfl
    · rfl
    · rfl
    refine Ev.ald0 dX5_back_19 ?_
    refine Ev.ald0 dX5_back_20 ?_
    apply Ev.getf dX5_back_21 fX5_39
    · repeat (first | assumption | (refine gt_upI ?_; (repeat (first | exact In_of (gt_nw (by assumption)) | (apply In_of; assumption) | refine In_up ?_ | refine In_nw ?_)); done) | refine gt_rd (by first | assumption | (apply Ne.symm; assumption) | (exact hj _ _ (by omega) (by omega) (by omega)) | omega) ?_ | exact gt_nw (by assumption) | refine gt_odr (by first | assumption | (apply Ne.symm; assumption) | omega) ?_)
    · first | rfl | assumption
    refine Ev.if_ne (tgt := 32) dX5_back_24 (by decide) (fun c24 => ?_) (fun c24 => ?_)
    · have hn1 : 1 ≤ na := by
        by_cases z : na = 0
        · subst z; exact absurd rfl c24
        · omega
      have en : nI na - 1 = nI (na - 1) := nI_subI (b := 1) hn1
      refine Ev.ald0 dX5_back_32 ?_
      apply Ev.getf dX5_back_33 fX5_39
      · repeat (first | assumption | (refine gt_upI ?_; (repeat (first | exact In_of (gt_nw (by assumption)) | (apply In_of; assumption) | refine In_up ?_ | refine In_nw ?_)); done) | refine gt_rd (by first | assumption | (apply Ne.symm; assumption) | (exact hj _ _ (by omega) (by omega) (by omega)) | omega) ?_ | exact gt_nw (by assumption) | refine gt_odr (by first | assumption | (apply Ne.symm; assumption) | omega) ?_)
      · first | rfl | assumption
      refine Ev.iconst (v := 1) dX5_back_36 (by decide) ?_
      refine Ev.isub dX5_back_37 ?_
      rw [en]
      apply Ev.put dX5_back_38 fX5_39
      · repeat (first | assumption | (refine gt_upI ?_; (repeat (first | exact In_of (gt_nw (by assumption)) | (apply In_of; assumption) | refine In_up ?_ | refine In_nw ?_)); done) | refine gt_rd (by first | assumption | (apply Ne.symm; assumption) | (exact hj _ _ (by omega) (by omega) (by omega)) | omega) ?_ | exact gt_nw (by assumption) | refine gt_odr (by first | assumption | (apply Ne.symm; assumption) | omega) ?_)
      · rfl
      · rfl
      · rfl
      exact k_bk2 (j := na - 1) hC0 hL hL2 (by omega) (by repeat (first | assumption | (refine gt_upI ?_; (repeat (first | exact In_of (gt_nw (by assumption)) | (apply In_of; assumption) | refine In_up ?_ | refine In_nw ?_)); done) | refine gt_rd (by first | assumption | (apply Ne.symm; assumption) | (exact hj _ _ (by omega) (by omega) (by omega)) | omega) ?_ | exact gt_nw (by assumption) | refine gt_odr (by first | assumption | (apply Ne.symm; assumption) | omega) ?_)) ((Fr.rf.pt (by simp)).pt (by simp))
    · have hn0 : na = 0 := (nI_eq (b := 0) (by omega) (by omega)).mp c24
      refine Ev.bipush (v := 11) dX5_back_27 (by decide) ?_
      refine Ev.goto (tgt := 38) dX5_back_29 (by decide) ?_
      apply Ev.put dX5_back_38 fX5_39
      · repeat (first | assumption | (refine gt_upI ?_; (repeat (first | exact In_of (gt_nw (by assumption)) | (apply In_of; assumption) | refine In_up ?_ | refine In_nw ?_)); done) | refine gt_rd (by first | assumption | (apply Ne.symm; assumption) | (exact hj _ _ (by omega) (by omega) (by omega)) | omega) ?_ | exact gt_nw (by assumption) | refine gt_odr (by first | assumption | (apply Ne.symm; assumption) | omega) ?_)
      · rfl
      · rfl
      · rfl
      exact k_bk2 (j := 11) hC0 hL hL2 (by omega) (by repeat (first | assumption | (refine gt_upI ?_; (repeat (first | exact In_of (gt_nw (by assumption)) | (apply In_of; assumption) | refine In_up ?_ | refine In_nw ?_)); done) | refine gt_rd (by first | assumption | (apply Ne.symm; assumption) | (exact hj _ _ (by omega) (by omega) (by omega)) | omega) ?_ | exact gt_nw (by assumption) | refine gt_odr (by first | assumption | (apply Ne.symm; assumption) | omega) ?_)) ((Fr.rf.pt (by simp)).pt (by simp))
  · have hL : S.2.1.length = 0 := by
      by_cases z : S.2.1.length = 0
      · exact z
      · exact absurd ((nI_ltI (a := 0) (by omega) (by omega)).mpr (by omega)) c4
    refine Ev.iconst (v := 0) dX5_back_7 (by decide) ?_
    refine Ev.iret dX5_back_8 rfl rfl ?_
    rw [sp_back, if_pos hL]
    exact ⟨_, rfl, rfl, q, na, hC0, SQ.rf, Fr.rf⟩
end BCK
