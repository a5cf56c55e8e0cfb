/-! cross -/
theorem Ar.l1 {n k : Nat} {f b : Nat → Int32} {x : Int32} (h : Ar n f b) (hk : k < n) : Ar n (lv1 f k x) (lv1 b k x) := by
  rw [lv1, lv1, h.at (i := 2) hk (by decide), h.at (i := 1) hk (by decide)]
  split
  · exact (h.lw hk).up
  · exact h.lw hk
theorem Ar.lev {n : Nat} {f b fl fl' : Nat → Int32} (h : Ar n f b) (hl : ∀ k, k < n → fl k = fl' k) : ∀ i, i ≤ n → Ar n (lev f fl i) (lev b fl' i)
  | 0, _ => h
  | i + 1, hi => by
    have ih := Ar.lev h hl i (by omega)
    rw [COpenCrossLaw_law_r5060_e2f5b9.lev, COpenCrossLaw_law_r5060_e2f5b9.lev, ih.at (i := 7) (show i < n by omega) (by decide), hl i (by omega)]
    split
    · exact ih.l1 (by omega)
    · exact ih
section CRS
variable {G : GP} {M : Wd} {q : Nat → Nat} {na : Nat} {S : Sg}
/-- the state with a crossing noted -/
noncomputable abbrev scr1 (S : Sg) : Sg := (S.1, S.2.1, S.2.2.1, S.2.2.2.1, pst S.1.1 S.2.2.2.2.1, S.2.2.2.2.2 + 1)
set_option maxRecDepth 20000 in
theorem k_cross (hC : CR q na S M) (hS : Sok S) : CtI G mX5_cross [.ref (q 0)] M 0 0 (fun x M' => x = (sp_cross S).1 ∧ KR q (sp_cross S).2 M M') := by
  have hC0 := hC
  obtain ⟨⟨hj, hna⟩, h0, h1, h2, hA, ⟨f, g, g40, g41, g42, gf, gw⟩, -⟩ := hC
  have hn := hS.1.1.2.1
  refine Ct.of (ls := [some (.ref (q 0))]) (by decide) (by decide) rfl rfl rfl ?_
  refine Ev.ald0 dX5_cross_0 ?_
  apply Ev.getf dX5_cross_1 fX5_19
  · repeat (first | assumption | (refine gt_upI ?_; (repeat (first | exact In_of (gt_nw (by assumption)) | (apply In_of; assumption) | refine In_up ?_ | refine In_nw ?_)); done) | refine gt_rd (by first | assumption | (apply Ne.symm; assumption) | (exact hj _ _ (by omega) (by omega) (by omega)) | omega) ?_ | exact gt_nw (by assumption) | refine gt_odr (by first | assumption | (apply Ne.symm; assumption) | omega) ?_)
  · first | rfl | assumption
  apply Ev.getf dX5_cross_4 fX5_80
  · repeat (first | assumption | (refine gt_upI ?_; (repeat (first | exact In_of (gt_nw (by assumption)) | (apply In_of; assumption) | refine In_up ?_ | refine In_nw ?_)); done) | refine gt_rd (by first | assumption | (apply Ne.symm; assumption) | (exact hj _ _ (by omega) (by omega) (by omega)) | omega) ?_ | exact gt_nw (by assumption) | refine gt_odr (by first | assumption | (apply Ne.symm; assumption) | omega) ?_)
  · first | rfl | assumption
  refine Ev.iconst (v := 2) dX5_cross_7 (by decide) ?_
  refine Ev.icmp_ne (tgt := 13) dX5_cross_8 (by decide) (fun c8 => ?_) (fun c8 => ?_)
  · refine Ev.ald0 dX5_cross_13 ?_
    refine Ev.cvV (Yc := mX5_runCross) (ci := 5) dX5_cross_14 lX5_112 vX5_runCross rfl (k_runCross hC0 hS) ?_ rfl rfl rfl rfl ?_
    · apply Exists.intro; repeat (first | assumption | (refine gt_upI ?_; (repeat (first | exact In_of (gt_nw (by assumption)) | (apply In_of; assumption) | refine In_up ?_ | refine In_nw ?_)); done) | refine gt_rd (by first | assumption | (apply Ne.symm; assumption) | (exact hj _ _ (by omega) (by omega) (by omega)) | omega) ?_ | exact gt_nw (by assumption) | refine gt_odr (by first | assumption | (apply Ne.symm; assumption) | omega) ?_)
    rintro M1 ⟨hF1, hC1, hX⟩
    rw [if_neg c8, show bas S = S.1.1 from if_neg c8] at hX
    have k0 := hC1.2.1
    obtain ⟨fs1, k13⟩ := hC1.2.2.2.2.1.ob
    have k13' : gt M1 (q 13) = some (ob 0 fs1) := k13
    refine Ev.ald0 dX5_cross_17 ?_
    apply Ev.getf dX5_cross_18 fX5_31
    · repeat (first | assumption | (refine gt_upI ?_; (repeat (first | exact In_of (gt_nw (by assumption)) | (apply In_of; assumption) | refine In_up ?_ | refine In_nw ?_)); done) | refine gt_rd (by first | assumption | (apply Ne.symm; assumption) | (exact hj _ _ (by omega) (by omega) (by omega)) | omega) ?_ | exact gt_nw (by assumption) | refine gt_odr (by first | assumption | (apply Ne.symm; assumption) | omega) ?_)
    · first | rfl | assumption
    refine Ev.cvV (Yc := mX0_match) (ci := 0) dX5_cross_21 lX5_115 vX0_match rfl (k_match hX) ?_ rfl rfl rfl rfl ?_
    · apply Exists.intro; repeat (first | assumption | (refine gt_upI ?_; (repeat (first | exact In_of (gt_nw (by assumption)) | (apply In_of; assumption) | refine In_up ?_ | refine In_nw ?_)); done) | refine gt_rd (by first | assumption | (apply Ne.symm; assumption) | (exact hj _ _ (by omega) (by omega) (by omega)) | omega) ?_ | exact gt_nw (by assumption) | refine gt_odr (by first | assumption | (apply Ne.symm; assumption) | omega) ?_)
    rintro M2 ⟨hF2, hA2, f3, sa, gg, fl, tr, z, i4, T, x13, x11, x12, x17, x16, xr, hz, hg, hfl, tT, eT, lT⟩
    have hC2 := hC1.au hF2 hA2
    have l0 := hC2.2.1
    obtain ⟨n5, ph5, rf5, lo5, hi5, f5, g5, e43, e44, e45⟩ := hC2.2.2.2.2.2.2
    obtain ⟨f6, g6, e40, -⟩ := hC2.2.2.2.2.2.1
    refine Ev.ald0 dX5_cross_24 ?_
    apply Ev.getf dX5_cross_25 fX5_23
    · repeat (first | assumption | (refine gt_upI ?_; (repeat (first | exact In_of (gt_nw (by assumption)) | (apply In_of; assumption) | refine In_up ?_ | refine In_nw ?_)); done) | refine gt_rd (by first | assumption | (apply Ne.symm; assumption) | (exact hj _ _ (by omega) (by omega) (by omega)) | omega) ?_ | exact gt_nw (by assumption) | refine gt_odr (by first | assumption | (apply Ne.symm; assumption) | omega) ?_)
    · first | rfl | assumption
    refine Ev.ald0 dX5_cross_28 ?_
    apply Ev.getf dX5_cross_29 fX5_19
    · repeat (first | assumption | (refine gt_upI ?_; (repeat (first | exact In_of (gt_nw (by assumption)) | (apply In_of; assumption) | refine In_up ?_ | refine In_nw ?_)); done) | refine gt_rd (by first | assumption | (apply Ne.symm; assumption) | (exact hj _ _ (by omega) (by omega) (by omega)) | omega) ?_ | exact gt_nw (by assumption) | refine gt_odr (by first | assumption | (apply Ne.symm; assumption) | omega) ?_)
    · first | rfl | assumption
    refine Ev.cvV (Yc := mX2_become) (ci := 2) dX5_cross_32 lX5_83 vX2_become rfl (k_become hC2 hS) ?_ rfl rfl rfl rfl ?_
    · apply Exists.intro; repeat (first | assumption | (refine gt_upI ?_; (repeat (first | exact In_of (gt_nw (by assumption)) | (apply In_of; assumption) | refine In_up ?_ | refine In_nw ?_)); done) | refine gt_rd (by first | assumption | (apply Ne.symm; assumption) | (exact hj _ _ (by omega) (by omega) (by omega)) | omega) ?_ | exact gt_nw (by assumption) | refine gt_odr (by first | assumption | (apply Ne.symm; assumption) | omega) ?_)
    rintro M3 ⟨f', hf', rfl⟩
    generalize hX3 : up (up M2 (q 43) _) (q 44) _ = X
    have x43 : gt X (q 43) = some (bk (q 44) (q 45) (bn S.1.1) (S.1.1 329) (S.1.1 330) (S.1.1 331) (S.1.1 332)) := by rw [← hX3]; exact (by repeat (first | assumption | (refine gt_upI ?_; (repeat (first | exact In_of (gt_nw (by assumption)) | (apply In_of; assumption) | refine In_up ?_ | refine In_nw ?_)); done) | refine gt_rd (by first | assumption | (apply Ne.symm; assumption) | (exact hj _ _ (by omega) (by omega) (by omega)) | omega) ?_ | exact gt_nw (by assumption) | refine gt_odr (by first | assumption | (apply Ne.symm; assumption) | omega) ?_))
    have x44 : gt X (q 44) = some (ia 0 328 f') := by rw [← hX3]; exact (by repeat (first | assumption | (refine gt_upI ?_; (repeat (first | exact In_of (gt_nw (by assumption)) | (apply In_of; assumption) | refine In_up ?_ | refine In_nw ?_)); done) | refine gt_rd (by first | assumption | (apply Ne.symm; assumption) | (exact hj _ _ (by omega) (by omega) (by omega)) | omega) ?_ | exact gt_nw (by assumption) | refine gt_odr (by first | assumption | (apply Ne.symm; assumption) | omega) ?_))
    have x45 : gt X (q 45) = some (ia 0 320 g5) := by rw [← hX3]; exact (by repeat (first | assumption | (refine gt_upI ?_; (repeat (first | exact In_of (gt_nw (by assumption)) | (apply In_of; assumption) | refine In_up ?_ | refine In_nw ?_)); done) | refine gt_rd (by first | assumption | (apply Ne.symm; assumption) | (exact hj _ _ (by omega) (by omega) (by omega)) | omega) ?_ | exact gt_nw (by assumption) | refine gt_odr (by first | assumption | (apply Ne.symm; assumption) | omega) ?_))
    have hF3 : Fr ([43, 44, 45].map q) M2 X := by rw [← hX3]; exact (Fr.rf.pt (by simp)).pt (by simp)
    have N3 : ∀ i, i < 82 → i ∉ [43, 44, 45] → q i ∉ [43, 44, 45].map q := fun i h1 h2 => ninQ hj h1 (by decide) h2
    have m0 := (hC2.dr hF3 ⟨_, _, _, _, _, _, _, x43, x44, x45⟩).2.1
    have m13 := hF3.rd (N3 13 (by decide) (by decide)) x13
    have m12 := hF3.rd (N3 12 (by decide) (by decide)) x12
    have m12' : gt X (AD (aq q) (q 40) (q 41) 2) = some (ia 0 41 fl) := m12
    refine Ev.ald0 dX5_cross_35 ?_
    apply Ev.getf dX5_cross_36 fX5_23
    · repeat (first | assumption | (refine gt_upI ?_; (repeat (first | exact In_of (gt_nw (by assumption)) | (apply In_of; assumption) | refine In_up ?_ | refine In_nw ?_)); done) | refine gt_rd (by first | assumption | (apply Ne.symm; assumption) | (exact hj _ _ (by omega) (by omega) (by omega)) | omega) ?_ | exact gt_nw (by assumption) | refine gt_odr (by first | assumption | (apply Ne.symm; assumption) | omega) ?_)
    · first | rfl | assumption
    refine Ev.ald0 dX5_cross_39 ?_
    apply Ev.getf dX5_cross_40 fX5_31
    · repeat (first | assumption | (refine gt_upI ?_; (repeat (first | exact In_of (gt_nw (by assumption)) | (apply In_of; assumption) | refine In_up ?_ | refine In_nw ?_)); done) | refine gt_rd (by first | assumption | (apply Ne.symm; assumption) | (exact hj _ _ (by omega) (by omega) (by omega)) | omega) ?_ | exact gt_nw (by assumption) | refine gt_odr (by first | assumption | (apply Ne.symm; assumption) | omega) ?_)
    · first | rfl | assumption
    apply Ev.getr dX5_cross_43 fX5_118
    · repeat (first | assumption | (refine gt_upI ?_; (repeat (first | exact In_of (gt_nw (by assumption)) | (apply In_of; assumption) | refine In_up ?_ | refine In_nw ?_)); done) | refine gt_rd (by first | assumption | (apply Ne.symm; assumption) | (exact hj _ _ (by omega) (by omega) (by omega)) | omega) ?_ | exact gt_nw (by assumption) | refine gt_odr (by first | assumption | (apply Ne.symm; assumption) | omega) ?_)
    · first | rfl | assumption
    refine Ev.cvV (Yc := mX2_leave) (ci := 2) dX5_cross_46 lX5_121 vX2_leave rfl (c_leave (fa := q 12) (z := 41) x43 x44 x45 m12 (by omega) (by omega) hn (hj _ _ (by decide) (by decide) (by decide)) (hj _ _ (by decide) (by decide) (by decide)) (hj _ _ (by decide) (by decide) (by decide)) (hj _ _ (by decide) (by decide) (by decide)) (hj _ _ (by decide) (by decide) (by decide)) (hj _ _ (by decide) (by decide) (by decide))) ?_ rfl rfl rfl rfl ?_
    · apply Exists.intro; repeat (first | assumption | (refine gt_upI ?_; (repeat (first | exact In_of (gt_nw (by assumption)) | (apply In_of; assumption) | refine In_up ?_ | refine In_nw ?_)); done) | refine gt_rd (by first | assumption | (apply Ne.symm; assumption) | (exact hj _ _ (by omega) (by omega) (by omega)) | omega) ?_ | exact gt_nw (by assumption) | refine gt_odr (by first | assumption | (apply Ne.symm; assumption) | omega) ?_)
    rintro M4 rfl
    generalize hY : up (up (up X (q 45) _) (q 43) _) (q 44) _ = Y
    have y43 : gt Y (q 43) = some (bk (q 44) (q 45) (bn S.1.1) 2 (S.1.1 330) (S.1.1 331) (S.1.1 332)) := by rw [← hY]; exact (by repeat (first | assumption | (refine gt_upI ?_; (repeat (first | exact In_of (gt_nw (by assumption)) | (apply In_of; assumption) | refine In_up ?_ | refine In_nw ?_)); done) | refine gt_rd (by first | assumption | (apply Ne.symm; assumption) | (exact hj _ _ (by omega) (by omega) (by omega)) | omega) ?_ | exact gt_nw (by assumption) | refine gt_odr (by first | assumption | (apply Ne.symm; assumption) | omega) ?_))
    have y44 : gt Y (q 44) = some (ia 0 328 (lev f' fl (bn S.1.1))) := by rw [← hY]; exact (by repeat (first | assumption | (refine gt_upI ?_; (repeat (first | exact In_of (gt_nw (by assumption)) | (apply In_of; assumption) | refine In_up ?_ | refine In_nw ?_)); done) | refine gt_rd (by first | assumption | (apply Ne.symm; assumption) | (exact hj _ _ (by omega) (by omega) (by omega)) | omega) ?_ | exact gt_nw (by assumption) | refine gt_odr (by first | assumption | (apply Ne.symm; assumption) | omega) ?_))
    have y45 : gt Y (q 45) = some (ia 0 320 (va_cpy f' g5 0 0 (8 * bn S.1.1))) := by rw [← hY]; exact (by repeat (first | assumption | (refine gt_upI ?_; (repeat (first | exact In_of (gt_nw (by assumption)) | (apply In_of; assumption) | refine In_up ?_ | refine In_nw ?_)); done) | refine gt_rd (by first | assumption | (apply Ne.symm; assumption) | (exact hj _ _ (by omega) (by omega) (by omega)) | omega) ?_ | exact gt_nw (by assumption) | refine gt_odr (by first | assumption | (apply Ne.symm; assumption) | omega) ?_))
    have hFY : Fr ([43, 44, 45].map q) M2 Y := by rw [← hY]; exact ((hF3.pt (by simp)).pt (by simp)).pt (by simp)
    have hCY := hC2.dr hFY ⟨_, _, _, _, _, _, _, y43, y44, y45⟩
    have y0 := hCY.2.1
    have y13 := hFY.rd (N3 13 (by decide) (by decide)) x13
    have y11 := hFY.rd (N3 11 (by decide) (by decide)) x11
    obtain ⟨⟨hjY, hnaY⟩, -, ⟨hY1, hY2, P, hY4, hY5⟩, hYb, hYA, hYB, hYD⟩ := hCY
    refine Ev.ald0 dX5_cross_49 ?_
    refine Ev.cvV (Yc := mX5_keepCrossing) (ci := 5) dX5_cross_50 lX5_125 vX5_keepCrossing rfl (k_kcr hj y0 hY4 y13 y11) ?_ rfl rfl rfl rfl ?_
    · apply Exists.intro; repeat (first | assumption | (refine gt_upI ?_; (repeat (first | exact In_of (gt_nw (by assumption)) | (apply In_of; assumption) | refine In_up ?_ | refine In_nw ?_)); done) | refine gt_rd (by first | assumption | (apply Ne.symm; assumption) | (exact hj _ _ (by omega) (by omega) (by omega)) | omega) ?_ | exact gt_nw (by assumption) | refine gt_odr (by first | assumption | (apply Ne.symm; assumption) | omega) ?_)
    rintro M5 ⟨g', hg', rfl⟩
    generalize hZ : up (up Y (q 4) _) (q 0) _ = Z
    have z0 : gt Z (q 0) = some (oco q na S.2.1.length (S.2.2.2.2.2 + 1)) := by rw [← hZ]; exact (by repeat (first | assumption | (refine gt_upI ?_; (repeat (first | exact In_of (gt_nw (by assumption)) | (apply In_of; assumption) | refine In_up ?_ | refine In_nw ?_)); done) | refine gt_rd (by first | assumption | (apply Ne.symm; assumption) | (exact hj _ _ (by omega) (by omega) (by omega)) | omega) ?_ | exact gt_nw (by assumption) | refine gt_odr (by first | assumption | (apply Ne.symm; assumption) | omega) ?_))
    have z4 : gt Z (q 4) = some (ia 0 32 g') := by rw [← hZ]; exact (by repeat (first | assumption | (refine gt_upI ?_; (repeat (first | exact In_of (gt_nw (by assumption)) | (apply In_of; assumption) | refine In_up ?_ | refine In_nw ?_)); done) | refine gt_rd (by first | assumption | (apply Ne.symm; assumption) | (exact hj _ _ (by omega) (by omega) (by omega)) | omega) ?_ | exact gt_nw (by assumption) | refine gt_odr (by first | assumption | (apply Ne.symm; assumption) | omega) ?_))
    have hFZ : Fr ([0, 4].map q) Y Z := by rw [← hZ]; exact (Fr.rf.pt (by simp)).pt (by simp)
    have NZ : ∀ i, i < 82 → i ∉ [0, 4] → q i ∉ [0, 4].map q := fun i h1 h2 => ninQ hj h1 (by decide) h2
    have hln : ∀ j, 328 ≤ j → j ≠ 329 → lvb S.1.1 j = S.1.1 j := fun j h1 h2 => by rw [lvb, pk_un h2, lev_hi _ _ (by omega)]
    have h9 : lvb S.1.1 329 = 2 := by rw [lvb, pk_us]
    have ebn : bn (lvb S.1.1) = bn S.1.1 := by rw [bn, bn, hln 328 (by decide) (by decide)]
    have hBZ : Bk Z (q 43) (q 44) (q 45) (lvb S.1.1, S.1.1) := by
      refine ⟨_, _, ?_, hFZ.rd (NZ 44 (by decide) (by decide)) y44, hFZ.rd (NZ 45 (by decide) (by decide)) y45, ?_, fun _ => ?_⟩
      · show gt Z (q 43) = some (bk (q 44) (q 45) (bn (lvb S.1.1)) (lvb S.1.1 329) (lvb S.1.1 330) (lvb S.1.1 331) (lvb S.1.1 332))
        rw [ebn, h9, hln 330 (by decide) (by decide), hln 331 (by decide) (by decide), hln 332 (by decide) (by decide)]
        exact hFZ.rd (NZ 43 (by decide) (by decide)) y43
      · show Ar (bn (lvb S.1.1)) _ (lvb S.1.1)
        rw [ebn, lvb]
        exact (Ar.lev hf' (fun k hk => by rw [hfl k hk, xfl_F (hS.1.1.mono (by decide))]) _ (Nat.le_refl _)).u (by omega)
      · show Ar (bn (lvb S.1.1)) _ S.1.1
        rw [ebn]
        exact hf'.cpy
    have hCZ : CR q na (scr1 S) Z := by
      refine ⟨⟨hj, hna⟩, z0, ⟨?_, ?_, g', z4, fun j hj2 => ?_⟩, ?_, ?_, ?_, ?_⟩
      · obtain ⟨e, he⟩ := hY1
        exact ⟨e, hFZ.rd (NZ 1 (by decide) (by decide)) he⟩
      · obtain ⟨t, ht, ht2⟩ := hY2
        exact ⟨t, hFZ.rd (NZ 2 (by decide) (by decide)) ht, ht2⟩
      · have hj3 : j < 4 * min 8 (S.2.2.2.2.2 + 1) := hj2
        rw [hg' j]
        show _ = pst S.1.1 S.2.2.2.2.1 j
        rw [pst, hg.1, hg.2.1, hg.2.2, ← eT, List.length_map]
        by_cases a0 : j = 0
        · rw [if_pos a0, if_pos a0]
        · rw [if_neg a0, if_neg a0]
          by_cases a1 : j = 1
          · rw [if_pos a1, if_pos a1]
          · rw [if_neg a1, if_neg a1]
            by_cases a2 : j = 2
            · rw [if_pos a2, if_pos a2]
            · rw [if_neg a2, if_neg a2]
              by_cases a3 : j = 3
              · rw [if_pos a3, if_pos a3]
              · rw [if_neg a3, if_neg a3, if_pos (by omega)]
                exact hY5 (j - 4) (by omega)
      · obtain ⟨⟨ac, r1, r2⟩, r3, r4⟩ := hYb
        have NB : ∀ i, 5 ≤ i → i < 82 → q i ∉ [0, 4].map q := fun i h1 h2 => NZ i h2 (by simp; omega)
        refine ⟨⟨ac, hFZ.rd (NZ 3 (by decide) (by decide)) r1, r2⟩, fun i hi => (r3 i hi).fr hFZ (NB _ (by omega) (by omega)) (NB _ (by omega) (by omega)) (NB _ (by omega) (by omega)), fun k p hp => (r4 k p hp).fr hFZ (NB _ ?_ ?_) (NB _ ?_ ?_) (NB _ ?_ ?_)⟩ <;> (have := rgp_lt (na := na) (L := S.2.1.length) (k := k); show _ ; (try (show 5 ≤ _ + 3 * rgp na S.2.1.length k)); (try (show _ + 3 * rgp na S.2.1.length k < 82)); omega)
      · obtain ⟨so, po, t0, r0, i1, i2, i3, i4, ov, hp, vo, re, t, g, fl, tr, sa, cn, tu, s0, s1, p0, p1, hs, r3, r0', r1, r2, r6, r7, r8, r9, r10, r11, r15, r16, r17, r18⟩ := hYA
        exact ⟨so, po, t0, r0, i1, i2, i3, i4, ov, hp, vo, re, t, g, fl, tr, sa, cn, tu, s0, s1, p0, p1, hs, hFZ.rd (NZ 13 (by decide) (by decide)) r3, hFZ.rd (NZ 10 (by decide) (by decide)) r0', hFZ.rd (NZ 11 (by decide) (by decide)) r1, hFZ.rd (NZ 12 (by decide) (by decide)) r2, hFZ.rd (NZ 16 (by decide) (by decide)) r6, hFZ.rd (NZ 17 (by decide) (by decide)) r7, hFZ.rd (NZ 18 (by decide) (by decide)) r8, hFZ.rd (NZ 19 (by decide) (by decide)) r9, hFZ.rd (NZ 20 (by decide) (by decide)) r10, hFZ.rd (NZ 21 (by decide) (by decide)) r11, hFZ.rd (NZ 25 (by decide) (by decide)) r15, hFZ.rd (NZ 26 (by decide) (by decide)) r16, hFZ.rd (NZ 27 (by decide) (by decide)) r17, hFZ.rd (NZ 28 (by decide) (by decide)) r18⟩
      · exact hYB.fr hFZ (NZ 40 (by decide) (by decide)) (NZ 41 (by decide) (by decide)) (NZ 42 (by decide) (by decide))
      · exact hBZ.ba
    have z13 := hFZ.rd (NZ 13 (by decide) (by decide)) y13
    have z11 := hFZ.rd (NZ 11 (by decide) (by decide)) y11
    refine Ev.ald0 dX5_cross_53 ?_
    refine Ev.cvV (Yc := mX5_keep) (ci := 5) dX5_cross_54 lX5_109 vX5_keep rfl (k_keep (S := scr1 S) hCZ hS.2.2.1 hBZ) ?_ rfl rfl rfl rfl ?_
    · apply Exists.intro; repeat (first | assumption | (refine gt_upI ?_; (repeat (first | exact In_of (gt_nw (by assumption)) | (apply In_of; assumption) | refine In_up ?_ | refine In_nw ?_)); done) | refine gt_rd (by first | assumption | (apply Ne.symm; assumption) | (exact hj _ _ (by omega) (by omega) (by omega)) | omega) ?_ | exact gt_nw (by assumption) | refine gt_odr (by first | assumption | (apply Ne.symm; assumption) | omega) ?_)
    rintro M6 ⟨hK, hF6⟩
    have N6 : ∀ i, i < 82 → i ∉ [0, 3] → q i ∉ [q 0, q 3] := fun i h1 h2 => ninQ (js := [0, 3]) hj h1 (by decide) h2
    have w13 := hF6.rd (N6 13 (by decide) (by decide)) z13
    have w11 : gt M6 (AD (aq q) (q 40) (q 41) 1) = some (cc gg) := hF6.rd (N6 11 (by decide) (by decide)) z11
    have w0 : gt M6 (q 0) = some (ob 5 [.ref (qk q na 1), .ref (qk q na 40), .ref (qk q na 43), .ref (q 13), .ref (qk q na 3), .int (nI (nxa na)), .int (nI (kpt S).length), .ref (qk q na 4), .int (nI (S.2.2.2.2.2 + 1))]) := hK.2.1
    refine Ev.ald0 dX5_cross_57 ?_
    apply Ev.getf dX5_cross_58 fX5_31
    · repeat (first | assumption | (refine gt_upI ?_; (repeat (first | exact In_of (gt_nw (by assumption)) | (apply In_of; assumption) | refine In_up ?_ | refine In_nw ?_)); done) | refine gt_rd (by first | assumption | (apply Ne.symm; assumption) | (exact hj _ _ (by omega) (by omega) (by omega)) | omega) ?_ | exact gt_nw (by assumption) | refine gt_odr (by first | assumption | (apply Ne.symm; assumption) | omega) ?_)
    · first | rfl | assumption
    apply Ev.getr dX5_cross_61 fX5_128
    · repeat (first | assumption | (refine gt_upI ?_; (repeat (first | exact In_of (gt_nw (by assumption)) | (apply In_of; assumption) | refine In_up ?_ | refine In_nw ?_)); done) | refine gt_rd (by first | assumption | (apply Ne.symm; assumption) | (exact hj _ _ (by omega) (by omega) (by omega)) | omega) ?_ | exact gt_nw (by assumption) | refine gt_odr (by first | assumption | (apply Ne.symm; assumption) | omega) ?_)
    · first | rfl | assumption
    apply Ev.getf dX5_cross_64 fX5_132
    · repeat (first | assumption | (refine gt_upI ?_; (repeat (first | exact In_of (gt_nw (by assumption)) | (apply In_of; assumption) | refine In_up ?_ | refine In_nw ?_)); done) | refine gt_rd (by first | assumption | (apply Ne.symm; assumption) | (exact hj _ _ (by omega) (by omega) (by omega)) | omega) ?_ | exact gt_nw (by assumption) | refine gt_odr (by first | assumption | (apply Ne.symm; assumption) | omega) ?_)
    · first | rfl | assumption
    refine Ev.iret dX5_cross_67 rfl rfl ?_
    rw [sp_cross, if_neg c8]
    refine ⟨_, rfl, hg.2.1, qk q na, nxa na, hK, qk_sq hna, ?_⟩
    exact ((((Fr.q (js := afj) hF1 (by decide)).tr (Fr.q (js := afj) hF2 (by decide))).tr (hFY.q (by decide))).tr (hFZ.q (by decide))).tr (Fr.q (js := [0, 3]) hF6 (by decide))
  · refine Ev.iconst (v := -1) dX5_cross_11 (by decide) ?_
    refine Ev.iret dX5_cross_12 rfl rfl ?_
    have c8' : S.1.1 329 = 2 := c8
    rw [sp_cross, if_pos c8']
    exact ⟨_, rfl, rfl, q, na, hC0, SQ.rf, Fr.rf⟩
end CRS
