/-! acts of the class: freeze, reference, collar; order -/
abbrev qfr (q : Nat → Nat) : List Nat := (List.range 82).map q
def KR (q : Nat → Nat) (S : Sg) (M M' : Wd) : Prop := ∃ q' na', CR q' na' S M' ∧ SQ q q' ∧ Fr (qfr q) M M'
theorem Fr.q {q : Nat → Nat} {js : List Nat} {M M' : Wd} (h : Fr (js.map q) M M') (hjs : ∀ j ∈ js, j < 82) : Fr (qfr q) M M' := h.mono (fun a ha => by
  obtain ⟨j, h1, h2⟩ := List.mem_map.mp ha
  exact List.mem_map.mpr ⟨j, List.mem_range.mpr (hjs j h1), h2⟩)
theorem CR.dr {q : Nat → Nat} {na : Nat} {S : Sg} {M M' : Wd} (h : CR q na S M) (hF : Fr ([43, 44, 45].map q) M M') (hB : Ba M' (q 43) (q 44) (q 45)) : CR q na S M' := by
  obtain ⟨⟨hj, hna⟩, h0, h1, h2, hA, h3, -⟩ := h
  have N : ∀ i, i < 82 → i ∉ [43, 44, 45] → q i ∉ [43, 44, 45].map q := fun i h1 h2 => ninQ hj h1 (by decide) h2
  refine ⟨⟨hj, hna⟩, hF.rd (N 0 (by decide) (by decide)) h0, h1.fr hj hF (by decide) (by decide) (by decide) (by decide), h2.fr hj hF (by decide), ?_, h3.fr hF (N 40 (by decide) (by decide)) (N 41 (by decide) (by decide)) (N 42 (by decide) (by decide)), hB⟩
  obtain ⟨so, po, t0, r0, i1, i2, i3, i4, ov, hp, vo, re, t, g, fl, tr, sa, cn, tu, s0, s1, p0, p1, hs, r3, r0', r1, r2, r6, r7, r8, r9, r10, r11, r15, r16, r17, r18⟩ := hA
  exact ⟨so, po, t0, r0, i1, i2, i3, i4, ov, hp, vo, re, t, g, fl, tr, sa, cn, tu, s0, s1, p0, p1, hs, hF.rd (N 13 (by decide) (by decide)) r3, hF.rd (N 10 (by decide) (by decide)) r0', hF.rd (N 11 (by decide) (by decide)) r1, hF.rd (N 12 (by decide) (by decide)) r2, hF.rd (N 16 (by decide) (by decide)) r6, hF.rd (N 17 (by decide) (by decide)) r7, hF.rd (N 18 (by decide) (by decide)) r8, hF.rd (N 19 (by decide) (by decide)) r9, hF.rd (N 20 (by decide) (by decide)) r10, hF.rd (N 21 (by decide) (by decide)) r11, hF.rd (N 25 (by decide) (by decide)) r15, hF.rd (N 26 (by decide) (by decide)) r16, hF.rd (N 27 (by decide) (by decide)) r17, hF.rd (N 28 (by decide) (by decide)) r18⟩
theorem Ar.cpy {n : Nat} {f g b : Nat → Int32} (h : Ar n f b) : Ar n (va_cpy f g 0 0 (8 * n)) b := fun j hj => by
  rw [va_cpy, if_pos ⟨by omega, by omega⟩, Nat.zero_add, Nat.sub_zero]
  exact h j hj
theorem Ar.u {n j : Nat} {f b : Nat → Int32} {x : Int32} (h : Ar n f b) (hj : 8 * n ≤ j) : Ar n f (upd b j x) := fun i hi => by
  rw [pk_un (by omega)]
  exact h i hi
section ACT
variable {G : GP} {M : Wd} {q : Nat → Nat} {na : Nat} {S : Sg}
theorem k_become (hC : CR q na S M) (hS : Sok S) : CtV G mX2_become [.ref (q 43), .ref (q 40)] M 0 0 (fun M' => ∃ f' : Nat → Int32, Ar (bn S.1.1) f' S.1.1 ∧ M' = up (up M (q 43) (bk (q 44) (q 45) (bn S.1.1) (S.1.1 329) (S.1.1 330) (S.1.1 331) (S.1.1 332))) (q 44) (ia 0 328 f')) := by
  obtain ⟨⟨hj, hna⟩, h0, h1, h2, hA, ⟨f, g, g40, g41, g42, gf, gw⟩, n, ph, rf, lo, hi, f2, g2, d43, d44, d45⟩ := hC
  have hn := hS.1.1.2.1
  refine (c_become (G := G) d43 d44 g40 g41 (by omega) (hj _ _ (by decide) (by decide) (by decide)) (hj _ _ (by decide) (by decide) (by decide)) (hj _ _ (by decide) (by decide) (by decide)) (hj _ _ (by decide) (by decide) (by decide)) (hj _ _ (by decide) (by decide) (by decide)) (hj _ _ (by decide) (by decide) (by decide))).imp ?_
  rintro M' rfl
  exact ⟨_, gf.cpy, rfl⟩
/-- what keep leaves behind, seen from the call's start -/
theorem kr_keep {X M2 : Wd} {p : Bw} (hna : na < 12) (hF : Fr (qfr q) M X) (hK : CR (qk q na) (nxa na) (psh S p) M2) (hF2 : Fr [q 0, q 3] X M2) : KR q (psh S p) M M2 := ⟨qk q na, nxa na, hK, qk_sq hna, hF.tr (Fr.q (js := [0, 3]) hF2 (by decide))⟩
set_option maxRecDepth 20000 in
theorem k_freeze (hC : CR q na S M) (hS : Sok S) : CtI G mX5_freeze [.ref (q 0)] M 0 0 (fun x M' => x = (sp_freeze S).1 ∧ KR q (sp_freeze S).2 M M') := by
  have hC0 := hC
  obtain ⟨⟨hj, hna⟩, h0, h1, h2, hA, ⟨f, g, g40, g41, g42, gf, gw⟩, n, ph, rf, lo, hi, f2, g2, d43, d44, d45⟩ := hC
  have hn := hS.1.1.2.1
  refine Ct.of (ls := [some (.ref (q 0))]) (by decide) (by decide) rfl rfl rfl ?_
  refine Ev.ald0 dX5_freeze_0 ?_
  apply Ev.getf dX5_freeze_1 fX5_19
  · repeat (first | assumption | (refine gt_upI ?_; (repeat (first | exact In_of (gt_nw (by assumption)) | (apply In_of; assumption) | refine In_up ?_ | refine In_nw ?_)); done) | refine gt_rd (by first | assumption | (apply Ne.symm; assumption) | (exact hj _ _ (by omega) (by omega) (by omega)) | omega) ?_ | exact gt_nw (by assumption) | refine gt_odr (by first | assumption | (apply Ne.symm; assumption) | omega) ?_)
  · first | rfl | assumption
  apply Ev.getf dX5_freeze_4 fX5_80
  · repeat (first | assumption | (refine gt_upI ?_; (repeat (first | exact In_of (gt_nw (by assumption)) | (apply In_of; assumption) | refine In_up ?_ | refine In_nw ?_)); done) | refine gt_rd (by first | assumption | (apply Ne.symm; assumption) | (exact hj _ _ (by omega) (by omega) (by omega)) | omega) ?_ | exact gt_nw (by assumption) | refine gt_odr (by first | assumption | (apply Ne.symm; assumption) | omega) ?_)
  · first | rfl | assumption
  refine Ev.if_eq (tgt := 12) dX5_freeze_7 (by decide) (fun c7 => ?_) (fun c7 => ?_)
  · refine Ev.ald0 dX5_freeze_12 ?_
    apply Ev.getf dX5_freeze_13 fX5_23
    · repeat (first | assumption | (refine gt_upI ?_; (repeat (first | exact In_of (gt_nw (by assumption)) | (apply In_of; assumption) | refine In_up ?_ | refine In_nw ?_)); done) | refine gt_rd (by first | assumption | (apply Ne.symm; assumption) | (exact hj _ _ (by omega) (by omega) (by omega)) | omega) ?_ | exact gt_nw (by assumption) | refine gt_odr (by first | assumption | (apply Ne.symm; assumption) | omega) ?_)
    · first | rfl | assumption
    refine Ev.ald0 dX5_freeze_16 ?_
    apply Ev.getf dX5_freeze_17 fX5_19
    · repeat (first | assumption | (refine gt_upI ?_; (repeat (first | exact In_of (gt_nw (by assumption)) | (apply In_of; assumption) | refine In_up ?_ | refine In_nw ?_)); done) | refine gt_rd (by first | assumption | (apply Ne.symm; assumption) | (exact hj _ _ (by omega) (by omega) (by omega)) | omega) ?_ | exact gt_nw (by assumption) | refine gt_odr (by first | assumption | (apply Ne.symm; assumption) | omega) ?_)
    · first | rfl | assumption
    refine Ev.cvV (Yc := mX2_become) (ci := 2) dX5_freeze_20 lX5_83 vX2_become rfl (k_become hC0 hS) ?_ rfl rfl rfl rfl ?_
    · apply Exists.intro; repeat (first | assumption | (refine gt_upI ?_; (repeat (first | exact In_of (gt_nw (by assumption)) | (apply In_of; assumption) | refine In_up ?_ | refine In_nw ?_)); done) | refine gt_rd (by first | assumption | (apply Ne.symm; assumption) | (exact hj _ _ (by omega) (by omega) (by omega)) | omega) ?_ | exact gt_nw (by assumption) | refine gt_odr (by first | assumption | (apply Ne.symm; assumption) | omega) ?_)
    rintro M1 ⟨f', hf', rfl⟩
    refine Ev.ald0 dX5_freeze_23 ?_
    apply Ev.getf dX5_freeze_24 fX5_23
    · repeat (first | assumption | (refine gt_upI ?_; (repeat (first | exact In_of (gt_nw (by assumption)) | (apply In_of; assumption) | refine In_up ?_ | refine In_nw ?_)); done) | refine gt_rd (by first | assumption | (apply Ne.symm; assumption) | (exact hj _ _ (by omega) (by omega) (by omega)) | omega) ?_ | exact gt_nw (by assumption) | refine gt_odr (by first | assumption | (apply Ne.symm; assumption) | omega) ?_)
    · first | rfl | assumption
    refine Ev.iconst (v := 1) dX5_freeze_27 (by decide) ?_
    apply Ev.put dX5_freeze_28 fX5_80
    · repeat (first | assumption | (refine gt_upI ?_; (repeat (first | exact In_of (gt_nw (by assumption)) | (apply In_of; assumption) | refine In_up ?_ | refine In_nw ?_)); done) | refine gt_rd (by first | assumption | (apply Ne.symm; assumption) | (exact hj _ _ (by omega) (by omega) (by omega)) | omega) ?_ | exact gt_nw (by assumption) | refine gt_odr (by first | assumption | (apply Ne.symm; assumption) | omega) ?_)
    · rfl
    · rfl
    · rfl
    generalize hX : up (up (up M (q 43) _) (q 44) _) (q 43) _ = X
    have x43 : gt X (q 43) = some (bk (q 44) (q 45) (bn S.1.1) 1 (S.1.1 330) (S.1.1 331) (S.1.1 332)) := by rw [← hX]; exact (by repeat (first | assumption | (refine gt_upI ?_; (repeat (first | exact In_of (gt_nw (by assumption)) | (apply In_of; assumption) | refine In_up ?_ | refine In_nw ?_)); done) | refine gt_rd (by first | assumption | (apply Ne.symm; assumption) | (exact hj _ _ (by omega) (by omega) (by omega)) | omega) ?_ | exact gt_nw (by assumption) | refine gt_odr (by first | assumption | (apply Ne.symm; assumption) | omega) ?_))
    have x44 : gt X (q 44) = some (ia 0 328 f') := by rw [← hX]; exact (by repeat (first | assumption | (refine gt_upI ?_; (repeat (first | exact In_of (gt_nw (by assumption)) | (apply In_of; assumption) | refine In_up ?_ | refine In_nw ?_)); done) | refine gt_rd (by first | assumption | (apply Ne.symm; assumption) | (exact hj _ _ (by omega) (by omega) (by omega)) | omega) ?_ | exact gt_nw (by assumption) | refine gt_odr (by first | assumption | (apply Ne.symm; assumption) | omega) ?_))
    have x45 : gt X (q 45) = some (ia 0 320 g2) := by rw [← hX]; exact (by repeat (first | assumption | (refine gt_upI ?_; (repeat (first | exact In_of (gt_nw (by assumption)) | (apply In_of; assumption) | refine In_up ?_ | refine In_nw ?_)); done) | refine gt_rd (by first | assumption | (apply Ne.symm; assumption) | (exact hj _ _ (by omega) (by omega) (by omega)) | omega) ?_ | exact gt_nw (by assumption) | refine gt_odr (by first | assumption | (apply Ne.symm; assumption) | omega) ?_))
    have hF : Fr ([43, 44, 45].map q) M X := by rw [← hX]; exact ((Fr.rf.pt (by simp)).pt (by simp)).pt (by simp)
    have hCX : CR q na S X := hC0.dr hF ⟨_, _, _, _, _, _, _, x43, x44, x45⟩
    have k0 := hCX.2.1
    have hB : Bk X (q 43) (q 44) (q 45) (upd S.1.1 329 1, S.1.2) := ⟨f', g2, by rw [bn_up (by decide)]; exact x43, x44, x45, by rw [bn_up (by decide)]; exact hf'.u (by omega), fun z => absurd z (by show ¬ upd S.1.1 329 1 329 = 2; rw [pk_us]; decide)⟩
    refine Ev.ald0 dX5_freeze_31 ?_
    refine Ev.cvV (Yc := mX5_keep) (ci := 5) dX5_freeze_32 lX5_109 vX5_keep rfl (k_keep hCX hS.2.2.1 hB) ?_ rfl rfl rfl rfl ?_
    · apply Exists.intro; repeat (first | assumption | (refine gt_upI ?_; (repeat (first | exact In_of (gt_nw (by assumption)) | (apply In_of; assumption) | refine In_up ?_ | refine In_nw ?_)); done) | refine gt_rd (by first | assumption | (apply Ne.symm; assumption) | (exact hj _ _ (by omega) (by omega) (by omega)) | omega) ?_ | exact gt_nw (by assumption) | refine gt_odr (by first | assumption | (apply Ne.symm; assumption) | omega) ?_)
    rintro M2 ⟨hK, hF2⟩
    refine Ev.iconst (v := 1) dX5_freeze_35 (by decide) ?_
    refine Ev.iret dX5_freeze_36 rfl rfl ?_
    rw [sp_freeze, if_pos c7]
    exact ⟨_, rfl, rfl, kr_keep hna (hF.q (by decide)) hK hF2⟩
  · refine Ev.iconst (v := 0) dX5_freeze_10 (by decide) ?_
    refine Ev.iret dX5_freeze_11 rfl rfl ?_
    rw [sp_freeze, if_neg c7]
    exact ⟨_, rfl, rfl, q, na, hC0, SQ.rf, Fr.rf⟩
set_option maxRecDepth 20000 in
theorem k_reference {p : Int32} (hC : CR q na S M) (hS : Sok S) : CtI G mX5_reference [.ref (q 0), .int p] M 0 0 (fun x M' => x = (sp_reference S p).1 ∧ KR q (sp_reference S p).2 M M') := by
  have hC0 := hC
  obtain ⟨⟨hj, hna⟩, h0, h1, h2, hA, ⟨f, g, g40, g41, g42, gf, gw⟩, n, ph, rf, lo, hi, f2, g2, d43, d44, d45⟩ := hC
  have hn := hS.1.1.2.1
  have no : ¬ (S.1.1 329 = 0 ∧ 1 ≤ p ∧ p ≤ 999) → Ev G mX5_reference 17 [some (.ref (q 0)), some (.int p), none] [] M 0 0 (fun v M' => ∃ x : Int32, v = some (.int x) ∧ x = (sp_reference S p).1 ∧ KR q (sp_reference S p).2 M M') := by
    intro hno
    refine Ev.iconst (v := -1) dX5_reference_17 (by decide) ?_
    refine Ev.iret dX5_reference_18 rfl rfl ?_
    rw [sp_reference, if_neg hno]
    exact ⟨_, rfl, rfl, q, na, hC0, SQ.rf, Fr.rf⟩
  refine Ct.of (ls := [some (.ref (q 0)), some (.int p), none]) (by decide) (by decide) rfl rfl rfl ?_
  refine Ev.ald0 dX5_reference_0 ?_
  apply Ev.getf dX5_reference_1 fX5_19
  · repeat (first | assumption | (refine gt_upI ?_; (repeat (first | exact In_of (gt_nw (by assumption)) | (apply In_of; assumption) | refine In_up ?_ | refine In_nw ?_)); done) | refine gt_rd (by first | assumption | (apply Ne.symm; assumption) | (exact hj _ _ (by omega) (by omega) (by omega)) | omega) ?_ | exact gt_nw (by assumption) | refine gt_odr (by first | assumption | (apply Ne.symm; assumption) | omega) ?_)
  · first | rfl | assumption
  apply Ev.getf dX5_reference_4 fX5_80
  · repeat (first | assumption | (refine gt_upI ?_; (repeat (first | exact In_of (gt_nw (by assumption)) | (apply In_of; assumption) | refine In_up ?_ | refine In_nw ?_)); done) | refine gt_rd (by first | assumption | (apply Ne.symm; assumption) | (exact hj _ _ (by omega) (by omega) (by omega)) | omega) ?_ | exact gt_nw (by assumption) | refine gt_odr (by first | assumption | (apply Ne.symm; assumption) | omega) ?_)
  · first | rfl | assumption
  refine Ev.if_ne (tgt := 17) dX5_reference_7 (by decide) (fun c7 => ?_) (fun c7 => ?_)
  · exact no (fun z => c7 z.1)
  · refine Ev.ild1 dX5_reference_10 ?_
    refine Ev.csI (Yc := mX5_isPrice) dX5_reference_11 lX5_146 vX5_isPrice rfl k_isPrice rfl rfl rfl ?_
    rintro y M' ⟨hy, rfl⟩
    refine Ev.if_ne (tgt := 19) dX5_reference_14 (by decide) (fun c14 => ?_) (fun c14 => ?_)
    · refine Ev.ald0 dX5_reference_19 ?_
      apply Ev.getf dX5_reference_20 fX5_19
      · repeat (first | assumption | (refine gt_upI ?_; (repeat (first | exact In_of (gt_nw (by assumption)) | (apply In_of; assumption) | refine In_up ?_ | refine In_nw ?_)); done) | refine gt_rd (by first | assumption | (apply Ne.symm; assumption) | (exact hj _ _ (by omega) (by omega) (by omega)) | omega) ?_ | exact gt_nw (by assumption) | refine gt_odr (by first | assumption | (apply Ne.symm; assumption) | omega) ?_)
      · first | rfl | assumption
      apply Ev.getf dX5_reference_23 fX5_140
      · repeat (first | assumption | (refine gt_upI ?_; (repeat (first | exact In_of (gt_nw (by assumption)) | (apply In_of; assumption) | refine In_up ?_ | refine In_nw ?_)); done) | refine gt_rd (by first | assumption | (apply Ne.symm; assumption) | (exact hj _ _ (by omega) (by omega) (by omega)) | omega) ?_ | exact gt_nw (by assumption) | refine gt_odr (by first | assumption | (apply Ne.symm; assumption) | omega) ?_)
      · first | rfl | assumption
      refine Ev.ist2 dX5_reference_26 rfl rfl ?_
      refine Ev.ald0 dX5_reference_27 ?_
      apply Ev.getf dX5_reference_28 fX5_23
      · repeat (first | assumption | (refine gt_upI ?_; (repeat (first | exact In_of (gt_nw (by assumption)) | (apply In_of; assumption) | refine In_up ?_ | refine In_nw ?_)); done) | refine gt_rd (by first | assumption | (apply Ne.symm; assumption) | (exact hj _ _ (by omega) (by omega) (by omega)) | omega) ?_ | exact gt_nw (by assumption) | refine gt_odr (by first | assumption | (apply Ne.symm; assumption) | omega) ?_)
      · first | rfl | assumption
      refine Ev.ald0 dX5_reference_31 ?_
      apply Ev.getf dX5_reference_32 fX5_19
      · repeat (first | assumption | (refine gt_upI ?_; (repeat (first | exact In_of (gt_nw (by assumption)) | (apply In_of; assumption) | refine In_up ?_ | refine In_nw ?_)); done) | refine gt_rd (by first | assumption | (apply Ne.symm; assumption) | (exact hj _ _ (by omega) (by omega) (by omega)) | omega) ?_ | exact gt_nw (by assumption) | refine gt_odr (by first | assumption | (apply Ne.symm; assumption) | omega) ?_)
      · first | rfl | assumption
      refine Ev.cvV (Yc := mX2_become) (ci := 2) dX5_reference_35 lX5_83 vX2_become rfl (k_become hC0 hS) ?_ rfl rfl rfl rfl ?_
      · apply Exists.intro; repeat (first | assumption | (refine gt_upI ?_; (repeat (first | exact In_of (gt_nw (by assumption)) | (apply In_of; assumption) | refine In_up ?_ | refine In_nw ?_)); done) | refine gt_rd (by first | assumption | (apply Ne.symm; assumption) | (exact hj _ _ (by omega) (by omega) (by omega)) | omega) ?_ | exact gt_nw (by assumption) | refine gt_odr (by first | assumption | (apply Ne.symm; assumption) | omega) ?_)
      rintro M1 ⟨f', hf', rfl⟩
      refine Ev.ald0 dX5_reference_38 ?_
      apply Ev.getf dX5_reference_39 fX5_23
      · repeat (first | assumption | (refine gt_upI ?_; (repeat (first | exact In_of (gt_nw (by assumption)) | (apply In_of; assumption) | refine In_up ?_ | refine In_nw ?_)); done) | refine gt_rd (by first | assumption | (apply Ne.symm; assumption) | (exact hj _ _ (by omega) (by omega) (by omega)) | omega) ?_ | exact gt_nw (by assumption) | refine gt_odr (by first | assumption | (apply Ne.symm; assumption) | omega) ?_)
      · first | rfl | assumption
      refine Ev.ild1 dX5_reference_42 ?_
      apply Ev.put dX5_reference_43 fX5_140
      · repeat (first | assumption | (refine gt_upI ?_; (repeat (first | exact In_of (gt_nw (by assumption)) | (apply In_of; assumption) | refine In_up ?_ | refine In_nw ?_)); done) | refine gt_rd (by first | assumption | (apply Ne.symm; assumption) | (exact hj _ _ (by omega) (by omega) (by omega)) | omega) ?_ | exact gt_nw (by assumption) | refine gt_odr (by first | assumption | (apply Ne.symm; assumption) | omega) ?_)
      · rfl
      · rfl
      · rfl
      generalize hX : up (up (up M' (q 43) _) (q 44) _) (q 43) _ = X
      have x43 : gt X (q 43) = some (bk (q 44) (q 45) (bn S.1.1) (S.1.1 329) p (S.1.1 331) (S.1.1 332)) := by rw [← hX]; exact (by repeat (first | assumption | (refine gt_upI ?_; (repeat (first | exact In_of (gt_nw (by assumption)) | (apply In_of; assumption) | refine In_up ?_ | refine In_nw ?_)); done) | refine gt_rd (by first | assumption | (apply Ne.symm; assumption) | (exact hj _ _ (by omega) (by omega) (by omega)) | omega) ?_ | exact gt_nw (by assumption) | refine gt_odr (by first | assumption | (apply Ne.symm; assumption) | omega) ?_))
      have x44 : gt X (q 44) = some (ia 0 328 f') := by rw [← hX]; exact (by repeat (first | assumption | (refine gt_upI ?_; (repeat (first | exact In_of (gt_nw (by assumption)) | (apply In_of; assumption) | refine In_up ?_ | refine In_nw ?_)); done) | refine gt_rd (by first | assumption | (apply Ne.symm; assumption) | (exact hj _ _ (by omega) (by omega) (by omega)) | omega) ?_ | exact gt_nw (by assumption) | refine gt_odr (by first | assumption | (apply Ne.symm; assumption) | omega) ?_))
      have x45 : gt X (q 45) = some (ia 0 320 g2) := by rw [← hX]; exact (by repeat (first | assumption | (refine gt_upI ?_; (repeat (first | exact In_of (gt_nw (by assumption)) | (apply In_of; assumption) | refine In_up ?_ | refine In_nw ?_)); done) | refine gt_rd (by first | assumption | (apply Ne.symm; assumption) | (exact hj _ _ (by omega) (by omega) (by omega)) | omega) ?_ | exact gt_nw (by assumption) | refine gt_odr (by first | assumption | (apply Ne.symm; assumption) | omega) ?_))
      have hF : Fr ([43, 44, 45].map q) M' X := by rw [← hX]; exact ((Fr.rf.pt (by simp)).pt (by simp)).pt (by simp)
      have hCX : CR q na S X := hC0.dr hF ⟨_, _, _, _, _, _, _, x43, x44, x45⟩
      have k0 := hCX.2.1
      have e9 : upd S.1.1 330 p 329 = S.1.1 329 := pk_un (by decide)
      have hB : Bk X (q 43) (q 44) (q 45) (upd S.1.1 330 p, S.1.2) := ⟨f', g2, by rw [bn_up (by decide)]; exact x43, x44, x45, by rw [bn_up (by decide)]; exact hf'.u (by omega), fun z => by
        have z2 : upd S.1.1 330 p 329 = 2 := z
        rw [e9, c7] at z2
        exact absurd z2 (by decide)⟩
      refine Ev.ald0 dX5_reference_46 ?_
      refine Ev.cvV (Yc := mX5_keep) (ci := 5) dX5_reference_47 lX5_109 vX5_keep rfl (k_keep hCX hS.2.2.1 hB) ?_ rfl rfl rfl rfl ?_
      · apply Exists.intro; repeat (first | assumption | (refine gt_upI ?_; (repeat (first | exact In_of (gt_nw (by assumption)) | (apply In_of; assumption) | refine In_up ?_ | refine In_nw ?_)); done) | refine gt_rd (by first | assumption | (apply Ne.symm; assumption) | (exact hj _ _ (by omega) (by omega) (by omega)) | omega) ?_ | exact gt_nw (by assumption) | refine gt_odr (by first | assumption | (apply Ne.symm; assumption) | omega) ?_)
      rintro M2 ⟨hK, hF2⟩
      refine Ev.ild2 dX5_reference_50 ?_
      refine Ev.iret dX5_reference_51 rfl rfl ?_
      rw [sp_reference, if_pos ⟨c7, if1_t hy c14⟩]
      exact ⟨_, rfl, rfl, kr_keep hna (hF.q (by decide)) hK hF2⟩
    · exact no (fun z => if1_f hy c14 z.2)
set_option maxRecDepth 20000 in
theorem k_order {o k : Int32} (hC : CR q na S M) (hS : Sok S) : CtI G mX5_order [.ref (q 0), .int o, .int k] M 0 0 (fun x M' => x = an_order S o k ∧ KR q S M M') := by
  have hC0 := hC
  obtain ⟨⟨hj, hna⟩, h0, h1, h2, hA, ⟨f, g, g40, g41, g42, gf, gw⟩, -⟩ := hC
  have hn := hS.1.1.2.1
  have e8 : S.1.1 328 = nI (bn S.1.1) := hS.1.1.1
  have no : ¬ ((0 ≤ o ∧ o < S.1.1 328) ∧ (0 ≤ k ∧ k ≤ 7)) → Ev G mX5_order 33 [some (.ref (q 0)), some (.int o), some (.int k)] [] M 0 0 (fun v M' => ∃ x : Int32, v = some (.int x) ∧ x = an_order S o k ∧ KR q S M M') := by
    intro hno
    refine Ev.iconst (v := -1) dX5_order_33 (by decide) ?_
    refine Ev.iret dX5_order_34 rfl rfl ?_
    rw [an_order, if_neg hno]
    exact ⟨_, rfl, rfl, q, na, hC0, SQ.rf, Fr.rf⟩
  refine Ct.of (ls := [some (.ref (q 0)), some (.int o), some (.int k)]) (by decide) (by decide) rfl rfl rfl ?_
  refine Ev.ald0 dX5_order_0 ?_
  apply Ev.getf dX5_order_1 fX5_19
  · repeat (first | assumption | (refine gt_upI ?_; (repeat (first | exact In_of (gt_nw (by assumption)) | (apply In_of; assumption) | refine In_up ?_ | refine In_nw ?_)); done) | refine gt_rd (by first | assumption | (apply Ne.symm; assumption) | (exact hj _ _ (by omega) (by omega) (by omega)) | omega) ?_ | exact gt_nw (by assumption) | refine gt_odr (by first | assumption | (apply Ne.symm; assumption) | omega) ?_)
  · first | rfl | assumption
  refine Ev.ild1 dX5_order_4 ?_
  refine Ev.cvI (Yc := mX2_has) (ci := 2) dX5_order_5 lX5_155 vX2_has rfl (c_X2_has g40) ?_ rfl rfl rfl rfl ?_
  · apply Exists.intro; repeat (first | assumption | (refine gt_upI ?_; (repeat (first | exact In_of (gt_nw (by assumption)) | (apply In_of; assumption) | refine In_up ?_ | refine In_nw ?_)); done) | refine gt_rd (by first | assumption | (apply Ne.symm; assumption) | (exact hj _ _ (by omega) (by omega) (by omega)) | omega) ?_ | exact gt_nw (by assumption) | refine gt_odr (by first | assumption | (apply Ne.symm; assumption) | omega) ?_)
  rintro y M' ⟨hy, rfl⟩
  rw [← e8] at hy
  refine Ev.if_eq (tgt := 33) dX5_order_8 (by decide) (fun c8 => ?_) (fun c8 => ?_)
  · exact no (fun z => if1_f hy c8 z.1)
  · refine Ev.ild2 dX5_order_11 ?_
    refine Ev.iconst (v := 0) dX5_order_12 (by decide) ?_
    refine Ev.bipush (v := 7) dX5_order_13 (by decide) ?_
    refine Ev.csI (Yc := mX5_within) dX5_order_15 lX5_76 vX5_within rfl k_within rfl rfl rfl ?_
    rintro y2 M' ⟨hy2, rfl⟩
    refine Ev.if_eq (tgt := 33) dX5_order_18 (by decide) (fun c18 => ?_) (fun c18 => ?_)
    · exact no (fun z => if1_f hy2 c18 z.2)
    · have t1 := if1_t hy c8
      have t2 := if1_t hy2 c18
      obtain ⟨o', ho, ho2⟩ : ∃ o', o' < bn S.1.1 ∧ o = nI o' := by
        have w := t1
        rw [e8] at w
        exact nI_in_of w.1 w.2 (by omega)
      obtain ⟨k', hk, hk2⟩ : ∃ k', k' < 8 ∧ k = nI k' := nI_in_of (n := 8) t2.1 (Int32.lt_of_le_of_lt t2.2 (by decide)) (by omega)
      refine Ev.ald0 dX5_order_21 ?_
      apply Ev.getf dX5_order_22 fX5_19
      · repeat (first | assumption | (refine gt_upI ?_; (repeat (first | exact In_of (gt_nw (by assumption)) | (apply In_of; assumption) | refine In_up ?_ | refine In_nw ?_)); done) | refine gt_rd (by first | assumption | (apply Ne.symm; assumption) | (exact hj _ _ (by omega) (by omega) (by omega)) | omega) ?_ | exact gt_nw (by assumption) | refine gt_odr (by first | assumption | (apply Ne.symm; assumption) | omega) ?_)
      · first | rfl | assumption
      refine Ev.ild1 dX5_order_25 ?_
      refine Ev.ild2 dX5_order_26 ?_
      refine Ev.cvI (Yc := mX2_get) (ci := 2) dX5_order_27 lX5_97 vX2_get rfl (c_get o' k' ho2 hk2 g40 g41 (by omega) (by omega)) ?_ rfl rfl rfl rfl ?_
      · apply Exists.intro; repeat (first | assumption | (refine gt_upI ?_; (repeat (first | exact In_of (gt_nw (by assumption)) | (apply In_of; assumption) | refine In_up ?_ | refine In_nw ?_)); done) | refine gt_rd (by first | assumption | (apply Ne.symm; assumption) | (exact hj _ _ (by omega) (by omega) (by omega)) | omega) ?_ | exact gt_nw (by assumption) | refine gt_odr (by first | assumption | (apply Ne.symm; assumption) | omega) ?_)
      rintro y3 M' ⟨hy3, rfl⟩
      refine Ev.goto (tgt := 34) dX5_order_30 (by decide) ?_
      refine Ev.iret dX5_order_34 rfl rfl ?_
      rw [an_order, if_pos ⟨t1, t2⟩, ho2, hk2, nI_clamp (by omega), nI_clamp (by omega)]
      exact ⟨_, rfl, by rw [hy3]; exact gf _ (by omega), q, na, hC0, SQ.rf, Fr.rf⟩
end ACT
