/-! keep: the draft stands from now on -/
def qk (q : Nat → Nat) (na : Nat) : Nat → Nat := fun i => if i < 40 then q i else if i < 43 then q (i + 3) else if i < 46 then q (46 + 3 * na + (i - 43)) else if 46 + 3 * na ≤ i ∧ i < 49 + 3 * na then q (40 + (i - (46 + 3 * na))) else q i
def SQ (q q' : Nat → Nat) : Prop := q' 0 = q 0 ∧ ∀ i, i < 82 → ∃ j, j < 82 ∧ q' i = q j
theorem SQ.rf {q : Nat → Nat} : SQ q q := ⟨rfl, fun i hi => ⟨i, hi, rfl⟩⟩
theorem SQ.tr {q q1 q2 : Nat → Nat} (h : SQ q q1) (h2 : SQ q1 q2) : SQ q q2 := ⟨h2.1.trans h.1, fun i hi => by
  obtain ⟨j, h3, h4⟩ := h2.2 i hi
  obtain ⟨k, h5, h6⟩ := h.2 j h3
  exact ⟨k, h5, h4.trans h6⟩⟩
theorem qk_at {q : Nat → Nat} {na i : Nat} (hna : na < 12) (hi : i < 82) : ∃ c, qk q na i = q c ∧ c < 82 ∧ (i < 40 ∧ c = i ∨ 40 ≤ i ∧ i < 43 ∧ c = i + 3 ∨ 43 ≤ i ∧ i < 46 ∧ c = 46 + 3 * na + (i - 43) ∨ 46 + 3 * na ≤ i ∧ i < 49 + 3 * na ∧ c = 40 + (i - (46 + 3 * na)) ∨ 46 ≤ i ∧ ¬ (46 + 3 * na ≤ i ∧ i < 49 + 3 * na) ∧ c = i) := by
  rw [qk]
  by_cases h1 : i < 40
  · rw [if_pos h1]; exact ⟨i, rfl, hi, by omega⟩
  · rw [if_neg h1]
    by_cases h2 : i < 43
    · rw [if_pos h2]; exact ⟨_, rfl, by omega, by omega⟩
    · rw [if_neg h2]
      by_cases h3 : i < 46
      · rw [if_pos h3]; exact ⟨_, rfl, by omega, by omega⟩
      · rw [if_neg h3]
        by_cases h4 : 46 + 3 * na ≤ i ∧ i < 49 + 3 * na
        · rw [if_pos h4]; exact ⟨_, rfl, by omega, by omega⟩
        · rw [if_neg h4]; exact ⟨i, rfl, hi, by omega⟩
theorem qk_sq {q : Nat → Nat} {na : Nat} (hna : na < 12) : SQ q (qk q na) := ⟨rfl, fun i hi => by
  obtain ⟨c, h1, h2, -⟩ := qk_at (q := q) hna hi
  exact ⟨c, h2, h1⟩⟩
theorem qk_inj {q : Nat → Nat} {na : Nat} (hj : InjQ q) (hna : na < 12) : InjQ (qk q na) := by
  intro i j hi hj2 hne
  obtain ⟨c, c1, c2, c3⟩ := qk_at (q := q) hna hi
  obtain ⟨d, d1, d2, d3⟩ := qk_at (q := q) hna hj2
  rw [c1, d1]
  exact hj c d c2 d2 (by omega)
theorem qk_lo {q : Nat → Nat} {na i : Nat} (h : i < 40) : qk q na i = q i := if_pos h
theorem qk_b {q : Nat → Nat} {na c : Nat} (h : c < 3) : qk q na (40 + c) = q (43 + c) := by rw [qk, if_neg (by omega), if_pos (by omega)]; congr 1; omega
theorem qk_d {q : Nat → Nat} {na c : Nat} (h : c < 3) : qk q na (43 + c) = q (46 + 3 * na + c) := by rw [qk, if_neg (by omega), if_neg (by omega), if_pos (by omega)]; congr 1; omega
theorem qk_a {q : Nat → Nat} {na c : Nat} (h : c < 3) : qk q na (46 + 3 * na + c) = q (40 + c) := by rw [qk, if_neg (by omega), if_neg (by omega), if_neg (by omega), if_pos (by omega)]; congr 1; omega
theorem qk_o {q : Nat → Nat} {na i : Nat} (h : 46 ≤ i) (h2 : ¬ (46 + 3 * na ≤ i ∧ i < 49 + 3 * na)) : qk q na i = q i := by rw [qk, if_neg (by omega), if_neg (by omega), if_neg (by omega), if_neg h2]
section KEP
variable {G : GP} {M : Wd} {q : Nat → Nat} {na : Nat} {S : Sg}
abbrev nxa (na : Nat) : Nat := if na = 11 then 0 else na + 1
theorem nxa_lt (h : na < 12) : nxa na < 12 := by
  show (if na = 11 then 0 else na + 1) < 12
  split <;> omega
theorem kpt_ln (hL : S.2.1.length ≤ 12) : (kpt S).length = min (S.2.1.length + 1) 12 := by
  rw [kpt, List.length_append]
  by_cases c : S.2.1.length = 12
  · rw [if_pos c, List.length_tail, c]; rfl
  · rw [if_neg c]; show S.2.1.length + 1 = _; omega
/-- where the next state's books lie -/
theorem kpt_at (hna : na < 12) (hL : S.2.1.length ≤ 12) {k : Nat} {p : Bw} (h : (kpt S)[k]? = some p) : rgp (nxa na) (kpt S).length k = na ∧ p = S.1 ∨ rgp (nxa na) (kpt S).length k ≠ na ∧ ∃ k', S.2.1[k']? = some p ∧ rgp na S.2.1.length k' = rgp (nxa na) (kpt S).length k := by
  have hl := kpt_ln hL
  have hk : k < (kpt S).length := (List.getElem?_eq_some_iff.mp h).1
  have e : nxa na = (na + 1) % 12 := by
    show (if na = 11 then 0 else na + 1) = _
    split <;> omega
  rw [hl] at hk ⊢
  simp only [rgp]
  rw [e]
  rw [kpt] at h
  by_cases c : S.2.1.length = 12
  · rw [if_pos c] at h
    have ht : S.2.1.tail.length = 11 := by rw [List.length_tail, c]
    by_cases w : k < 11
    · rw [List.getElem?_append_left (by omega), List.getElem?_tail] at h
      right
      refine ⟨by omega, k + 1, h, ?_⟩
      omega
    · rw [List.getElem?_append_right (by omega), ht, show k - 11 = 0 by omega] at h
      left
      exact ⟨by omega, by simpa using h.symm⟩
  · rw [if_neg c] at h
    by_cases w : k < S.2.1.length
    · rw [List.getElem?_append_left w] at h
      right
      refine ⟨by omega, k, h, ?_⟩
      omega
    · rw [List.getElem?_append_right (by omega), show k - S.2.1.length = 0 by omega] at h
      left
      exact ⟨by omega, by simpa using h.symm⟩
set_option maxRecDepth 20000 in
theorem k_keep {p : Bw} (hC : CR q na S M) (hL : S.2.1.length ≤ 12) (hD : Bk M (q 43) (q 44) (q 45) p) : CtV G mX5_keep [.ref (q 0)] M 0 0 (fun M' => CR (qk q na) (nxa na) (psh S p) M' ∧ Fr [q 0, q 3] M M') := by
  obtain ⟨⟨hj, hna⟩, h0, h1, ⟨⟨ac, h3, h4⟩, h5, h6⟩, hA, hB, -⟩ := hC
  have hB0 := hB
  obtain ⟨f, g, g40, -⟩ := hB
  have ei : (nI na).toNatClampNeg = na := nI_clamp (by omega)
  have b : vp_in (nI na) 12 := vp_in_nI hna (by omega)
  have e : ac (nI na).toNatClampNeg = some (q (46 + 3 * na)) := by rw [ei]; exact h4 na hna
  have fin : ∀ (x : Int32), x = nI (nxa na) → CR (qk q na) (nxa na) (psh S p) (up (up M (q 3) (ra 5 12 (va_up ac na (some (q 40))))) (q 0) (ob 5 [.ref (q 1), .ref (q 43), .ref (q (46 + 3 * na)), .ref (q 13), .ref (q 3), .int x, .int (nI (kpt S).length), .ref (q 4), .int (nI S.2.2.2.2.2)])) ∧ Fr [q 0, q 3] M (up (up M (q 3) (ra 5 12 (va_up ac na (some (q 40))))) (q 0) (ob 5 [.ref (q 1), .ref (q 43), .ref (q (46 + 3 * na)), .ref (q 13), .ref (q 3), .int x, .int (nI (kpt S).length), .ref (q 4), .int (nI S.2.2.2.2.2)])) := by
    intro x hx
    subst hx
    have i0 : In M (q 0) := In_of h0
    have i3 : In M (q 3) := In_of h3
    have hF : Fr ([0, 3].map q) M (up (up M (q 3) (ra 5 12 (va_up ac na (some (q 40))))) (q 0) (ob 5 [.ref (q 1), .ref (q 43), .ref (q (46 + 3 * na)), .ref (q 13), .ref (q 3), .int (nI (nxa na)), .int (nI (kpt S).length), .ref (q 4), .int (nI S.2.2.2.2.2)])) := (Fr.rf.pt (by simp)).pt (by simp)
    have N : ∀ i, i < 82 → i ∉ [0, 3] → q i ∉ [0, 3].map q := fun i h1 h2 => ninQ hj h1 (by decide) h2
    have N2 : ∀ i, 4 ≤ i → i < 82 → q i ∉ [0, 3].map q := fun i h1 h2 => N i h2 (by simp; omega)
    refine ⟨⟨⟨qk_inj hj hna, nxa_lt hna⟩, ?_, ?_, ⟨?_, ?_, ?_⟩, ?_, ?_, ?_⟩, hF⟩
    · show gt _ (q 0) = _
      rw [gt_upI (In_up i0)]
      show some (ob 5 _) = some (ob 5 _)
      rw [qk_lo (show 1 < 40 by decide), qk_lo (show 13 < 40 by decide), qk_lo (show 3 < 40 by decide), qk_lo (show 4 < 40 by decide), show qk q na 40 = q 43 from qk_b (c := 0) (by decide), show qk q na 43 = q (46 + 3 * na) from qk_d (c := 0) (by decide)]
      rfl
    · have := h1.fr hj hF (by decide) (by decide) (by decide) (by decide)
      exact this
    · refine ⟨va_up ac na (some (q 40)), ?_, fun i hi => ?_⟩
      · show gt _ (q 3) = _
        rw [gt_ne (hj _ _ (by decide) (by decide) (by decide)), gt_upI i3]
      · by_cases z : i = na
        · subst z
          rw [show qk q i (46 + 3 * i) = q 40 from qk_a (c := 0) (by decide)]
          exact if_pos rfl
        · rw [qk_o (by omega) (by omega)]
          exact (if_neg z).trans (h4 i hi)
    · intro i hi
      by_cases z : i = na
      · subst z
        rw [show qk q i (46 + 3 * i) = q 40 from qk_a (c := 0) (by decide), show qk q i (47 + 3 * i) = q 41 by rw [show 47 + 3 * i = 46 + 3 * i + 1 by omega]; exact qk_a (c := 1) (by decide), show qk q i (48 + 3 * i) = q 42 by rw [show 48 + 3 * i = 46 + 3 * i + 2 by omega]; exact qk_a (c := 2) (by decide)]
        exact hB0.ba.fr hF (N2 _ (by decide) (by decide)) (N2 _ (by decide) (by decide)) (N2 _ (by decide) (by decide))
      · rw [qk_o (by omega) (by omega), qk_o (by omega) (by omega), qk_o (by omega) (by omega)]
        exact (h5 i hi).fr hF (N2 _ (by omega) (by omega)) (N2 _ (by omega) (by omega)) (N2 _ (by omega) (by omega))
    · intro k p' hp
      show Bk _ (qk q na (46 + 3 * rgp (nxa na) (kpt S).length k)) (qk q na (47 + 3 * rgp (nxa na) (kpt S).length k)) (qk q na (48 + 3 * rgp (nxa na) (kpt S).length k)) p'
      rcases kpt_at hna hL hp with ⟨z, e2⟩ | ⟨z, k', e1, e2⟩
      · rw [z, e2, show qk q na (46 + 3 * na) = q 40 from qk_a (c := 0) (by decide), show qk q na (47 + 3 * na) = q 41 by rw [show 47 + 3 * na = 46 + 3 * na + 1 by omega]; exact qk_a (c := 1) (by decide), show qk q na (48 + 3 * na) = q 42 by rw [show 48 + 3 * na = 46 + 3 * na + 2 by omega]; exact qk_a (c := 2) (by decide)]
        exact hB0.fr hF (N2 _ (by decide) (by decide)) (N2 _ (by decide) (by decide)) (N2 _ (by decide) (by decide))
      · have hlt := rgp_lt (na := nxa na) (L := (kpt S).length) (k := k)
        rw [qk_o (by omega) (by omega), qk_o (by omega) (by omega), qk_o (by omega) (by omega)]
        have := h6 k' p' e1
        rw [e2] at this
        exact this.fr hF (N2 _ (by omega) (by omega)) (N2 _ (by omega) (by omega)) (N2 _ (by omega) (by omega))
    · have : aq (qk q na) = aq (qk q na) := rfl
      obtain ⟨so, po, t0, r0, i1, i2, i3, i4, ov, hp, vo, re, t, g, fl, tr, sa, cn, tu, s0, s1, p0, p1, hs, r3, r0', r1, r2, r6, r7, r8, r9, r10, r11, r15, r16, r17, r18⟩ := hA
      exact ⟨so, po, t0, r0, i1, i2, i3, i4, ov, hp, vo, re, t, g, fl, tr, sa, cn, tu, s0, s1, p0, p1, hs, hF.rd (N2 13 (by decide) (by decide)) r3, hF.rd (N2 10 (by decide) (by decide)) r0', hF.rd (N2 11 (by decide) (by decide)) r1, hF.rd (N2 12 (by decide) (by decide)) r2, hF.rd (N2 16 (by decide) (by decide)) r6, hF.rd (N2 17 (by decide) (by decide)) r7, hF.rd (N2 18 (by decide) (by decide)) r8, hF.rd (N2 19 (by decide) (by decide)) r9, hF.rd (N2 20 (by decide) (by decide)) r10, hF.rd (N2 21 (by decide) (by decide)) r11, hF.rd (N2 25 (by decide) (by decide)) r15, hF.rd (N2 26 (by decide) (by decide)) r16, hF.rd (N2 27 (by decide) (by decide)) r17, hF.rd (N2 28 (by decide) (by decide)) r18⟩
    · rw [show qk q na 40 = q 43 from qk_b (c := 0) (by decide), show qk q na 41 = q 44 from qk_b (c := 1) (by decide), show qk q na 42 = q 45 from qk_b (c := 2) (by decide)]
      exact hD.fr hF (N2 _ (by decide) (by decide)) (N2 _ (by decide) (by decide)) (N2 _ (by decide) (by decide))
    · rw [show qk q na 43 = q (46 + 3 * na) from qk_d (c := 0) (by decide), show qk q na 44 = q (47 + 3 * na) by rw [show 47 + 3 * na = 46 + 3 * na + 1 by omega]; exact qk_d (c := 1) (by decide), show qk q na 45 = q (48 + 3 * na) by rw [show 48 + 3 * na = 46 + 3 * na + 2 by omega]; exact qk_d (c := 2) (by decide)]
      exact (h5 na hna).fr hF (N2 _ (by omega) (by omega)) (N2 _ (by omega) (by omega)) (N2 _ (by omega) (by omega))
  have el : mn (nI S.2.1.length + 1) 12 = nI (kpt S).length := by
    rw [kpt_ln hL, nI_1, show (12 : Int32) = nI 12 from rfl, mn_n (by omega) (by omega)]
  refine Ct.of (ls := [some (.ref (q 0)), none]) (by decide) (by decide) rfl rfl rfl ?_
  refine Ev.ald0 dX5_keep_0 ?_
  apply Ev.getf dX5_keep_1 fX5_35
  · repeat (first | assumption | (refine gt_upI ?_; (repeat (first | exact In_of (gt_nw (by assumption)) | (apply In_of; assumption) | refine In_up ?_ | refine In_nw ?_)); done) | refine gt_rd (by first | assumption | (apply Ne.symm; assumption) | (exact hj _ _ (by omega) (by omega) (by omega)) | omega) ?_ | exact gt_nw (by assumption) | refine gt_odr (by first | assumption | (apply Ne.symm; assumption) | omega) ?_)
  · first | rfl | assumption
  refine Ev.ald0 dX5_keep_4 ?_
  apply Ev.getf dX5_keep_5 fX5_39
  · repeat (first | assumption | (refine gt_upI ?_; (repeat (first | exact In_of (gt_nw (by assumption)) | (apply In_of; assumption) | refine In_up ?_ | refine In_nw ?_)); done) | refine gt_rd (by first | assumption | (apply Ne.symm; assumption) | (exact hj _ _ (by omega) (by omega) (by omega)) | omega) ?_ | exact gt_nw (by assumption) | refine gt_odr (by first | assumption | (apply Ne.symm; assumption) | omega) ?_)
  · first | rfl | assumption
  apply Ev.bkld dX5_keep_8
  · repeat (first | assumption | (refine gt_upI ?_; (repeat (first | exact In_of (gt_nw (by assumption)) | (apply In_of; assumption) | refine In_up ?_ | refine In_nw ?_)); done) | refine gt_rd (by first | assumption | (apply Ne.symm; assumption) | (exact hj _ _ (by omega) (by omega) (by omega)) | omega) ?_ | exact gt_nw (by assumption) | refine gt_odr (by first | assumption | (apply Ne.symm; assumption) | omega) ?_)
  · assumption
  · assumption
  refine Ev.ast1 dX5_keep_9 rfl rfl ?_
  refine Ev.ald0 dX5_keep_10 ?_
  apply Ev.getf dX5_keep_11 fX5_35
  · repeat (first | assumption | (refine gt_upI ?_; (repeat (first | exact In_of (gt_nw (by assumption)) | (apply In_of; assumption) | refine In_up ?_ | refine In_nw ?_)); done) | refine gt_rd (by first | assumption | (apply Ne.symm; assumption) | (exact hj _ _ (by omega) (by omega) (by omega)) | omega) ?_ | exact gt_nw (by assumption) | refine gt_odr (by first | assumption | (apply Ne.symm; assumption) | omega) ?_)
  · first | rfl | assumption
  refine Ev.ald0 dX5_keep_14 ?_
  apply Ev.getf dX5_keep_15 fX5_39
  · repeat (first | assumption | (refine gt_upI ?_; (repeat (first | exact In_of (gt_nw (by assumption)) | (apply In_of; assumption) | refine In_up ?_ | refine In_nw ?_)); done) | refine gt_rd (by first | assumption | (apply Ne.symm; assumption) | (exact hj _ _ (by omega) (by omega) (by omega)) | omega) ?_ | exact gt_nw (by assumption) | refine gt_odr (by first | assumption | (apply Ne.symm; assumption) | omega) ?_)
  · first | rfl | assumption
  refine Ev.ald0 dX5_keep_18 ?_
  apply Ev.getf dX5_keep_19 fX5_19
  · repeat (first | assumption | (refine gt_upI ?_; (repeat (first | exact In_of (gt_nw (by assumption)) | (apply In_of; assumption) | refine In_up ?_ | refine In_nw ?_)); done) | refine gt_rd (by first | assumption | (apply Ne.symm; assumption) | (exact hj _ _ (by omega) (by omega) (by omega)) | omega) ?_ | exact gt_nw (by assumption) | refine gt_odr (by first | assumption | (apply Ne.symm; assumption) | omega) ?_)
  · first | rfl | assumption
  apply Ev.bkst dX5_keep_22
  · repeat (first | assumption | (refine gt_upI ?_; (repeat (first | exact In_of (gt_nw (by assumption)) | (apply In_of; assumption) | refine In_up ?_ | refine In_nw ?_)); done) | refine gt_rd (by first | assumption | (apply Ne.symm; assumption) | (exact hj _ _ (by omega) (by omega) (by omega)) | omega) ?_ | exact gt_nw (by assumption) | refine gt_odr (by first | assumption | (apply Ne.symm; assumption) | omega) ?_)
  · repeat (first | assumption | (refine gt_upI ?_; (repeat (first | exact In_of (gt_nw (by assumption)) | (apply In_of; assumption) | refine In_up ?_ | refine In_nw ?_)); done) | refine gt_rd (by first | assumption | (apply Ne.symm; assumption) | (exact hj _ _ (by omega) (by omega) (by omega)) | omega) ?_ | exact gt_nw (by assumption) | refine gt_odr (by first | assumption | (apply Ne.symm; assumption) | omega) ?_)
  · assumption
  refine Ev.ald0 dX5_keep_23 ?_
  refine Ev.ald0 dX5_keep_24 ?_
  apply Ev.getf dX5_keep_25 fX5_23
  · repeat (first | assumption | (refine gt_upI ?_; (repeat (first | exact In_of (gt_nw (by assumption)) | (apply In_of; assumption) | refine In_up ?_ | refine In_nw ?_)); done) | refine gt_rd (by first | assumption | (apply Ne.symm; assumption) | (exact hj _ _ (by omega) (by omega) (by omega)) | omega) ?_ | exact gt_nw (by assumption) | refine gt_odr (by first | assumption | (apply Ne.symm; assumption) | omega) ?_)
  · first | rfl | assumption
  apply Ev.put dX5_keep_28 fX5_19
  · repeat (first | assumption | (refine gt_upI ?_; (repeat (first | exact In_of (gt_nw (by assumption)) | (apply In_of; assumption) | refine In_up ?_ | refine In_nw ?_)); done) | refine gt_rd (by first | assumption | (apply Ne.symm; assumption) | (exact hj _ _ (by omega) (by omega) (by omega)) | omega) ?_ | exact gt_nw (by assumption) | refine gt_odr (by first | assumption | (apply Ne.symm; assumption) | omega) ?_)
  · rfl
  · rfl
  · rfl
  refine Ev.ald0 dX5_keep_31 ?_
  refine Ev.ald1 dX5_keep_32 ?_
  apply Ev.put dX5_keep_33 fX5_23
  · repeat (first | assumption | (refine gt_upI ?_; (repeat (first | exact In_of (gt_nw (by assumption)) | (apply In_of; assumption) | refine In_up ?_ | refine In_nw ?_)); done) | refine gt_rd (by first | assumption | (apply Ne.symm; assumption) | (exact hj _ _ (by omega) (by omega) (by omega)) | omega) ?_ | exact gt_nw (by assumption) | refine gt_odr (by first | assumption | (apply Ne.symm; assumption) | omega) ?_)
  · rfl
  · rfl
  · rfl
  refine Ev.ald0 dX5_keep_36 ?_
  refine Ev.ald0 dX5_keep_37 ?_
  apply Ev.getf dX5_keep_38 fX5_39
  · repeat (first | assumption | (refine gt_upI ?_; (repeat (first | exact In_of (gt_nw (by assumption)) | (apply In_of; assumption) | refine In_up ?_ | refine In_nw ?_)); done) | refine gt_rd (by first | assumption | (apply Ne.symm; assumption) | (exact hj _ _ (by omega) (by omega) (by omega)) | omega) ?_ | exact gt_nw (by assumption) | refine gt_odr (by first | assumption | (apply Ne.symm; assumption) | omega) ?_)
  · first | rfl | assumption
  refine Ev.bipush (v := 11) dX5_keep_41 (by decide) ?_
  refine Ev.icmp_ne (tgt := 50) dX5_keep_43 (by decide) (fun c43 => ?_) (fun c43 => ?_)
  · refine Ev.ald0 dX5_keep_50 ?_
    apply Ev.getf dX5_keep_51 fX5_39
    · repeat (first | assumption | (refine gt_upI ?_; (repeat (first | exact In_of (gt_nw (by assumption)) | (apply In_of; assumption) | refine In_up ?_ | refine In_nw ?_)); done) | refine gt_rd (by first | assumption | (apply Ne.symm; assumption) | (exact hj _ _ (by omega) (by omega) (by omega)) | omega) ?_ | exact gt_nw (by assumption) | refine gt_odr (by first | assumption | (apply Ne.symm; assumption) | omega) ?_)
    · first | rfl | assumption
    refine Ev.iconst (v := 1) dX5_keep_54 (by decide) ?_
    refine Ev.iadd dX5_keep_55 ?_
    apply Ev.put dX5_keep_56 fX5_39
    · repeat (first | assumption | (refine gt_upI ?_; (repeat (first | exact In_of (gt_nw (by assumption)) | (apply In_of; assumption) | refine In_up ?_ | refine In_nw ?_)); done) | refine gt_rd (by first | assumption | (apply Ne.symm; assumption) | (exact hj _ _ (by omega) (by omega) (by omega)) | omega) ?_ | exact gt_nw (by assumption) | refine gt_odr (by first | assumption | (apply Ne.symm; assumption) | omega) ?_)
    · rfl
    · rfl
    · rfl
    refine Ev.ald0 dX5_keep_59 ?_
    refine Ev.ald0 dX5_keep_60 ?_
    apply Ev.getf dX5_keep_61 fX5_43
    · repeat (first | assumption | (refine gt_upI ?_; (repeat (first | exact In_of (gt_nw (by assumption)) | (apply In_of; assumption) | refine In_up ?_ | refine In_nw ?_)); done) | refine gt_rd (by first | assumption | (apply Ne.symm; assumption) | (exact hj _ _ (by omega) (by omega) (by omega)) | omega) ?_ | exact gt_nw (by assumption) | refine gt_odr (by first | assumption | (apply Ne.symm; assumption) | omega) ?_)
    · first | rfl | assumption
    refine Ev.iconst (v := 1) dX5_keep_64 (by decide) ?_
    refine Ev.iadd dX5_keep_65 ?_
    refine Ev.bipush (v := 12) dX5_keep_66 (by decide) ?_
    refine Ev.min dX5_keep_68 lX5_253 rfl rfl ?_
    apply Ev.put dX5_keep_71 fX5_43
    · repeat (first | assumption | (refine gt_upI ?_; (repeat (first | exact In_of (gt_nw (by assumption)) | (apply In_of; assumption) | refine In_up ?_ | refine In_nw ?_)); done) | refine gt_rd (by first | assumption | (apply Ne.symm; assumption) | (exact hj _ _ (by omega) (by omega) (by omega)) | omega) ?_ | exact gt_nw (by assumption) | refine gt_odr (by first | assumption | (apply Ne.symm; assumption) | omega) ?_)
    · rfl
    · rfl
    · rfl
    refine Ev.vret dX5_keep_74 rfl ?_
    refine ⟨rfl, ?_⟩
    have hne : na ≠ 11 := fun z => c43 (by rw [z]; rfl)
    have := fin (nI na + 1) (by rw [nI_1]; show _ = nI (if na = 11 then 0 else na + 1); rw [if_neg hne])
    rw [← el] at this
    rw [ei]
    repeat rw [up_up]
    exact this
  · refine Ev.iconst (v := 0) dX5_keep_46 (by decide) ?_
    refine Ev.goto (tgt := 56) dX5_keep_47 (by decide) ?_
    apply Ev.put dX5_keep_56 fX5_39
    · repeat (first | assumption | (refine gt_upI ?_; (repeat (first | exact In_of (gt_nw (by assumption)) | (apply In_of; assumption) | refine In_up ?_ | refine In_nw ?_)); done) | refine gt_rd (by first | assumption | (apply Ne.symm; assumption) | (exact hj _ _ (by omega) (by omega) (by omega)) | omega) ?_ | exact gt_nw (by assumption) | refine gt_odr (by first | assumption | (apply Ne.symm; assumption) | omega) ?_)
    · rfl
    · rfl
    · rfl
    refine Ev.ald0 dX5_keep_59 ?_
    refine Ev.ald0 dX5_keep_60 ?_
    apply Ev.getf dX5_keep_61 fX5_43
    · repeat (first | assumption | (refine gt_upI ?_; (repeat (first | exact In_of (gt_nw (by assumption)) | (apply In_of; assumption) | refine In_up ?_ | refine In_nw ?_)); done) | refine gt_rd (by first | assumption | (apply Ne.symm; assumption) | (exact hj _ _ (by omega) (by omega) (by omega)) | omega) ?_ | exact gt_nw (by assumption) | refine gt_odr (by first | assumption | (apply Ne.symm; assumption) | omega) ?_)
    · first | rfl | assumption
    refine Ev.iconst (v := 1) dX5_keep_64 (by decide) ?_
    refine Ev.iadd dX5_keep_65 ?_
    refine Ev.bipush (v := 12) dX5_keep_66 (by decide) ?_
    refine Ev.min dX5_keep_68 lX5_253 rfl rfl ?_
    apply Ev.put dX5_keep_71 fX5_43
    · repeat (first | assumption | (refine gt_upI ?_; (repeat (first | exact In_of (gt_nw (by assumption)) | (apply In_of; assumption) | refine In_up ?_ | refine In_nw ?_)); done) | refine gt_rd (by first | assumption | (apply Ne.symm; assumption) | (exact hj _ _ (by omega) (by omega) (by omega)) | omega) ?_ | exact gt_nw (by assumption) | refine gt_odr (by first | assumption | (apply Ne.symm; assumption) | omega) ?_)
    · rfl
    · rfl
    · rfl
    refine Ev.vret dX5_keep_74 rfl ?_
    refine ⟨rfl, ?_⟩
    have he : na = 11 := (nI_eq (b := 11) (by omega) (by omega)).mp c43
    have := fin 0 (by show _ = nI (if na = 11 then 0 else na + 1); rw [if_pos he]; rfl)
    rw [← el] at this
    rw [ei]
    repeat rw [up_up]
    exact this
end KEP
