/-! open -/
theorem Ar.fgt {n : Nat} {f b : Nat → Int32} (h : Ar n f b) : ∀ i, i ≤ n → Ar n (fgt f i).1 (fgt b i).1 ∧ (fgt f i).2 = (fgt b i).2
  | 0, _ => ⟨h, rfl⟩
  | i + 1, hi => by
    obtain ⟨a1, a2⟩ := Ar.fgt h i (by omega)
    rw [COpenCrossLaw_law_r5060_e2f5b9.fgt, COpenCrossLaw_law_r5060_e2f5b9.fgt, a1.at (i := 7) (show i < n by omega) (by decide), a2]
    split
    · exact ⟨a1.cp (by omega), rfl⟩
    · exact ⟨a1, a2⟩
theorem Ar.le {n m : Nat} {f b : Nat → Int32} (h : Ar n f b) (hm : m ≤ n) : Ar m f b := fun j hj => h j (by omega)
section OPN
variable {G : GP} {M : Wd} {q : Nat → Nat} {na : Nat} {S : Sg}
/-- the rest of open, the draft's reference set -/
theorem k_op2 {X : Wd} {f' g5 : Nat → Int32} {rf : Int32} (hS : Sok S) (h9 : S.1.1 329 = 2) (hrf : rf = if 0 < (xP S.1.2 (-1)).1 then (xP S.1.2 (-1)).1 else S.1.1 330) (hCX : CR q na S X) (hf' : Ar (bn S.1.1) f' S.1.1) (x43 : gt X (q 43) = some (bk (q 44) (q 45) (bn S.1.1) 0 rf (S.1.1 331) (S.1.1 332))) (x44 : gt X (q 44) = some (ia 0 328 f')) (x45 : gt X (q 45) = some (ia 0 320 g5)) (hFX : Fr (qfr q) M X) :
    Ev G mX5_open 67 [some (.ref (q 0))] [] X 0 0 (fun v M' => ∃ x : Int32, v = some (.int x) ∧ x = (sp_open S).1 ∧ KR q (sp_open S).2 M M') := by
  have hj := hCX.1.1
  have hna := hCX.1.2
  have hn := hS.1.1.2.1
  have k0 := hCX.2.1
  refine Ev.ald0 dX5_open_67 ?_
  apply Ev.getf dX5_open_68 fX5_23
  · repeat (first | assumption | (refine gt_upI ?_; (repeat (first | exact In_of (gt_nw (by assumption)) | (apply In_of; assumption) | refine In_up ?_ | refine In_nw ?_)); done) | refine gt_rd (by first | assumption | (apply Ne.symm; assumption) | (exact hj _ _ (by omega) (by omega) (by omega)) | omega) ?_ | exact gt_nw (by assumption) | refine gt_odr (by first | assumption | (apply Ne.symm; assumption) | omega) ?_)
  · first | rfl | assumption
  refine Ev.cvV (Yc := mX2_forgetGone) (ci := 2) dX5_open_71 lX5_143 vX2_forgetGone rfl (c_forgetGone x43 x44 hn (hj _ _ (by decide) (by decide) (by decide))) ?_ rfl rfl rfl rfl ?_
  · apply Exists.intro; repeat (first | assumption | (refine gt_upI ?_; (repeat (first | exact In_of (gt_nw (by assumption)) | (apply In_of; assumption) | refine In_up ?_ | refine In_nw ?_)); done) | refine gt_rd (by first | assumption | (apply Ne.symm; assumption) | (exact hj _ _ (by omega) (by omega) (by omega)) | omega) ?_ | exact gt_nw (by assumption) | refine gt_odr (by first | assumption | (apply Ne.symm; assumption) | omega) ?_)
  rintro M4 rfl
  obtain ⟨a1, a2⟩ := Ar.fgt hf' _ (Nat.le_refl _)
  rw [a2]
  have hle := fgt_le S.1.1 (bn S.1.1)
  generalize hY : up (up X (q 44) _) (q 43) _ = Y
  have y43 : gt Y (q 43) = some (bk (q 44) (q 45) (fgt S.1.1 (bn S.1.1)).2 0 rf (S.1.1 331) (S.1.1 332)) := by rw [← hY]; exact (by repeat (first | assumption | (refine gt_upI ?_; (repeat (first | exact In_of (gt_nw (by assumption)) | (apply In_of; assumption) | refine In_up ?_ | refine In_nw ?_)); done) | refine gt_rd (by first | assumption | (apply Ne.symm; assumption) | (exact hj _ _ (by omega) (by omega) (by omega)) | omega) ?_ | exact gt_nw (by assumption) | refine gt_odr (by first | assumption | (apply Ne.symm; assumption) | omega) ?_))
  have y44 : gt Y (q 44) = some (ia 0 328 (fgt f' (bn S.1.1)).1) := by rw [← hY]; exact (by repeat (first | assumption | (refine gt_upI ?_; (repeat (first | exact In_of (gt_nw (by assumption)) | (apply In_of; assumption) | refine In_up ?_ | refine In_nw ?_)); done) | refine gt_rd (by first | assumption | (apply Ne.symm; assumption) | (exact hj _ _ (by omega) (by omega) (by omega)) | omega) ?_ | exact gt_nw (by assumption) | refine gt_odr (by first | assumption | (apply Ne.symm; assumption) | omega) ?_))
  have y45 : gt Y (q 45) = some (ia 0 320 g5) := by rw [← hY]; exact (by repeat (first | assumption | (refine gt_upI ?_; (repeat (first | exact In_of (gt_nw (by assumption)) | (apply In_of; assumption) | refine In_up ?_ | refine In_nw ?_)); done) | refine gt_rd (by first | assumption | (apply Ne.symm; assumption) | (exact hj _ _ (by omega) (by omega) (by omega)) | omega) ?_ | exact gt_nw (by assumption) | refine gt_odr (by first | assumption | (apply Ne.symm; assumption) | omega) ?_))
  have hFY : Fr ([43, 44, 45].map q) X Y := by rw [← hY]; exact (Fr.rf.pt (by simp)).pt (by simp)
  have hCY := hCX.dr hFY ⟨_, _, _, _, _, _, _, y43, y44, y45⟩
  have y0 := hCY.2.1
  have fh : ∀ i j, i ≤ bn S.1.1 → 8 * bn S.1.1 ≤ j → (fgt S.1.1 i).1 j = S.1.1 j := by
    intro i
    induction i with
    | zero => intro j _ _; rfl
    | succ i ih =>
      intro j hi hj2
      have hl := fgt_le S.1.1 i
      rw [fgt]
      split
      · show va_cpy _ _ _ _ _ j = _
        rw [va_cpy, if_neg (by omega)]
        exact ih j (by omega) hj2
      · exact ih j (by omega) hj2
  have o8 : opb S.1.1 S.1.2 328 = nI (fgt S.1.1 (bn S.1.1)).2 := by rw [opb, pk_un (by decide), pk_un (by decide), pk_us]
  have o9 : opb S.1.1 S.1.2 329 = 0 := by rw [opb, pk_un (by decide), pk_us]
  have o0 : opb S.1.1 S.1.2 330 = rf := by rw [opb, pk_us, hrf]
  have o1 : opb S.1.1 S.1.2 331 = S.1.1 331 := by rw [opb, pk_un (by decide), pk_un (by decide), pk_un (by decide), fh _ _ (Nat.le_refl _) (by omega)]
  have o2 : opb S.1.1 S.1.2 332 = S.1.1 332 := by rw [opb, pk_un (by decide), pk_un (by decide), pk_un (by decide), fh _ _ (Nat.le_refl _) (by omega)]
  have ebn : bn (opb S.1.1 S.1.2) = (fgt S.1.1 (bn S.1.1)).2 := by rw [bn, o8]; exact nI_clamp (by omega)
  have hB : Bk Y (q 43) (q 44) (q 45) (opb S.1.1 S.1.2, S.1.2) := by
    refine ⟨_, _, ?_, y44, y45, ?_, fun z => ?_⟩
    · show gt Y (q 43) = some (bk (q 44) (q 45) (bn (opb S.1.1 S.1.2)) (opb S.1.1 S.1.2 329) (opb S.1.1 S.1.2 330) (opb S.1.1 S.1.2 331) (opb S.1.1 S.1.2 332))
      rw [ebn, o9, o0, o1, o2]
      exact y43
    · show Ar (bn (opb S.1.1 S.1.2)) _ (opb S.1.1 S.1.2)
      rw [ebn, opb]
      exact ((((a1.le hle).u (by omega)).u (by omega)).u (by omega))
    · have z2 : opb S.1.1 S.1.2 329 = 2 := z
      rw [o9] at z2
      exact absurd z2 (by decide)
  refine Ev.ald0 dX5_open_74 ?_
  refine Ev.cvV (Yc := mX5_keep) (ci := 5) dX5_open_75 lX5_109 vX5_keep rfl (k_keep hCY hS.2.2.1 hB) ?_ rfl rfl rfl rfl ?_
  · apply Exists.intro; repeat (first | assumption | (refine gt_upI ?_; (repeat (first | exact In_of (gt_nw (by assumption)) | (apply In_of; assumption) | refine In_up ?_ | refine In_nw ?_)); done) | refine gt_rd (by first | assumption | (apply Ne.symm; assumption) | (exact hj _ _ (by omega) (by omega) (by omega)) | omega) ?_ | exact gt_nw (by assumption) | refine gt_odr (by first | assumption | (apply Ne.symm; assumption) | omega) ?_)
  rintro M6 ⟨hK, hF6⟩
  have w0 : gt M6 (q 0) = some (ob 5 [.ref (qk q na 1), .ref (q 43), .ref (qk q na 43), .ref (q 13), .ref (qk q na 3), .int (nI (nxa na)), .int (nI (kpt S).length), .ref (qk q na 4), .int (nI S.2.2.2.2.2)]) := hK.2.1
  have N6 : ∀ i, i < 82 → i ∉ [0, 3] → q i ∉ [q 0, q 3] := fun i h1 h2 => ninQ (js := [0, 3]) hj h1 (by decide) h2
  have w43 := hF6.rd (N6 43 (by decide) (by decide)) y43
  refine Ev.ald0 dX5_open_78 ?_
  apply Ev.getf dX5_open_79 fX5_19
  · repeat (first | assumption | (refine gt_upI ?_; (repeat (first | exact In_of (gt_nw (by assumption)) | (apply In_of; assumption) | refine In_up ?_ | refine In_nw ?_)); done) | refine gt_rd (by first | assumption | (apply Ne.symm; assumption) | (exact hj _ _ (by omega) (by omega) (by omega)) | omega) ?_ | exact gt_nw (by assumption) | refine gt_odr (by first | assumption | (apply Ne.symm; assumption) | omega) ?_)
  · first | rfl | assumption
  apply Ev.getf dX5_open_82 fX5_71
  · repeat (first | assumption | (refine gt_upI ?_; (repeat (first | exact In_of (gt_nw (by assumption)) | (apply In_of; assumption) | refine In_up ?_ | refine In_nw ?_)); done) | refine gt_rd (by first | assumption | (apply Ne.symm; assumption) | (exact hj _ _ (by omega) (by omega) (by omega)) | omega) ?_ | exact gt_nw (by assumption) | refine gt_odr (by first | assumption | (apply Ne.symm; assumption) | omega) ?_)
  · first | rfl | assumption
  refine Ev.iret dX5_open_85 rfl rfl ?_
  rw [sp_open, if_pos h9]
  exact ⟨_, rfl, rfl, kr_keep hna (hFX.tr (hFY.q (by decide))) hK hF6⟩
set_option maxRecDepth 20000 in
theorem k_open (hC : CR q na S M) (hS : Sok S) : CtI G mX5_open [.ref (q 0)] M 0 0 (fun x M' => x = (sp_open S).1 ∧ KR q (sp_open S).2 M M') := by
  have hC0 := hC
  obtain ⟨⟨hj, hna⟩, h0, h1, h2, hA, ⟨f, g, g40, g41, g42, gf, gw⟩, -⟩ := hC
  have hn := hS.1.1.2.1
  refine Ct.of (ls := [some (.ref (q 0))]) (by decide) (by decide) rfl rfl rfl ?_
  refine Ev.ald0 dX5_open_0 ?_
  apply Ev.getf dX5_open_1 fX5_19
  · repeat (first | assumption | (refine gt_upI ?_; (repeat (first | exact In_of (gt_nw (by assumption)) | (apply In_of; assumption) | refine In_up ?_ | refine In_nw ?_)); done) | refine gt_rd (by first | assumption | (apply Ne.symm; assumption) | (exact hj _ _ (by omega) (by omega) (by omega)) | omega) ?_ | exact gt_nw (by assumption) | refine gt_odr (by first | assumption | (apply Ne.symm; assumption) | omega) ?_)
  · first | rfl | assumption
  apply Ev.getf dX5_open_4 fX5_80
  · repeat (first | assumption | (refine gt_upI ?_; (repeat (first | exact In_of (gt_nw (by assumption)) | (apply In_of; assumption) | refine In_up ?_ | refine In_nw ?_)); done) | refine gt_rd (by first | assumption | (apply Ne.symm; assumption) | (exact hj _ _ (by omega) (by omega) (by omega)) | omega) ?_ | exact gt_nw (by assumption) | refine gt_odr (by first | assumption | (apply Ne.symm; assumption) | omega) ?_)
  · first | rfl | assumption
  refine Ev.iconst (v := 2) dX5_open_7 (by decide) ?_
  refine Ev.icmp_eq (tgt := 13) dX5_open_8 (by decide) (fun c8 => ?_) (fun c8 => ?_)
  · have c8' : S.1.1 329 = 2 := c8
    obtain ⟨cb1, -⟩ := hS.1.cb
    rw [show bas S = S.1.2 from if_pos c8'] at cb1
    refine Ev.ald0 dX5_open_13 ?_
    refine Ev.cvV (Yc := mX5_runCross) (ci := 5) dX5_open_14 lX5_112 vX5_runCross rfl (k_runCross hC0 hS) ?_ rfl rfl rfl rfl ?_
    · apply Exists.intro; repeat (first | assumption | (refine gt_upI ?_; (repeat (first | exact In_of (gt_nw (by assumption)) | (apply In_of; assumption) | refine In_up ?_ | refine In_nw ?_)); done) | refine gt_rd (by first | assumption | (apply Ne.symm; assumption) | (exact hj _ _ (by omega) (by omega) (by omega)) | omega) ?_ | exact gt_nw (by assumption) | refine gt_odr (by first | assumption | (apply Ne.symm; assumption) | omega) ?_)
    rintro M1 ⟨hF1, hC1, hX⟩
    rw [if_pos c8', show bas S = S.1.2 from if_pos c8'] at hX
    have k0 := hC1.2.1
    obtain ⟨gg, i1, i2, i3, i4, x13, x11, e0, -, -⟩ := hX.pr
    obtain ⟨n5, ph5, rf5, lo5, hi5, f5, g5, e43, e44, e45⟩ := hC1.2.2.2.2.2.2
    obtain ⟨f6, g6, e40, -⟩ := hC1.2.2.2.2.2.1
    refine Ev.ald0 dX5_open_17 ?_
    apply Ev.getf dX5_open_18 fX5_23
    · repeat (first | assumption | (refine gt_upI ?_; (repeat (first | exact In_of (gt_nw (by assumption)) | (apply In_of; assumption) | refine In_up ?_ | refine In_nw ?_)); done) | refine gt_rd (by first | assumption | (apply Ne.symm; assumption) | (exact hj _ _ (by omega) (by omega) (by omega)) | omega) ?_ | exact gt_nw (by assumption) | refine gt_odr (by first | assumption | (apply Ne.symm; assumption) | omega) ?_)
    · first | rfl | assumption
    refine Ev.ald0 dX5_open_21 ?_
    apply Ev.getf dX5_open_22 fX5_19
    · repeat (first | assumption | (refine gt_upI ?_; (repeat (first | exact In_of (gt_nw (by assumption)) | (apply In_of; assumption) | refine In_up ?_ | refine In_nw ?_)); done) | refine gt_rd (by first | assumption | (apply Ne.symm; assumption) | (exact hj _ _ (by omega) (by omega) (by omega)) | omega) ?_ | exact gt_nw (by assumption) | refine gt_odr (by first | assumption | (apply Ne.symm; assumption) | omega) ?_)
    · first | rfl | assumption
    refine Ev.cvV (Yc := mX2_become) (ci := 2) dX5_open_25 lX5_83 vX2_become rfl (k_become hC1 hS) ?_ rfl rfl rfl rfl ?_
    · apply Exists.intro; repeat (first | assumption | (refine gt_upI ?_; (repeat (first | exact In_of (gt_nw (by assumption)) | (apply In_of; assumption) | refine In_up ?_ | refine In_nw ?_)); done) | refine gt_rd (by first | assumption | (apply Ne.symm; assumption) | (exact hj _ _ (by omega) (by omega) (by omega)) | omega) ?_ | exact gt_nw (by assumption) | refine gt_odr (by first | assumption | (apply Ne.symm; assumption) | omega) ?_)
    rintro M3 ⟨f', hf', rfl⟩
    refine Ev.ald0 dX5_open_28 ?_
    apply Ev.getf dX5_open_29 fX5_23
    · repeat (first | assumption | (refine gt_upI ?_; (repeat (first | exact In_of (gt_nw (by assumption)) | (apply In_of; assumption) | refine In_up ?_ | refine In_nw ?_)); done) | refine gt_rd (by first | assumption | (apply Ne.symm; assumption) | (exact hj _ _ (by omega) (by omega) (by omega)) | omega) ?_ | exact gt_nw (by assumption) | refine gt_odr (by first | assumption | (apply Ne.symm; assumption) | omega) ?_)
    · first | rfl | assumption
    refine Ev.iconst (v := 0) dX5_open_32 (by decide) ?_
    apply Ev.put dX5_open_33 fX5_80
    · repeat (first | assumption | (refine gt_upI ?_; (repeat (first | exact In_of (gt_nw (by assumption)) | (apply In_of; assumption) | refine In_up ?_ | refine In_nw ?_)); done) | refine gt_rd (by first | assumption | (apply Ne.symm; assumption) | (exact hj _ _ (by omega) (by omega) (by omega)) | omega) ?_ | exact gt_nw (by assumption) | refine gt_odr (by first | assumption | (apply Ne.symm; assumption) | omega) ?_)
    · rfl
    · rfl
    · rfl
    generalize hX3 : up (up (up M1 (q 43) _) (q 44) _) (q 43) _ = X
    have x43 : gt X (q 43) = some (bk (q 44) (q 45) (bn S.1.1) 0 (S.1.1 330) (S.1.1 331) (S.1.1 332)) := by rw [← hX3]; exact (by repeat (first | assumption | (refine gt_upI ?_; (repeat (first | exact In_of (gt_nw (by assumption)) | (apply In_of; assumption) | refine In_up ?_ | refine In_nw ?_)); done) | refine gt_rd (by first | assumption | (apply Ne.symm; assumption) | (exact hj _ _ (by omega) (by omega) (by omega)) | omega) ?_ | exact gt_nw (by assumption) | refine gt_odr (by first | assumption | (apply Ne.symm; assumption) | omega) ?_))
    have x44 : gt X (q 44) = some (ia 0 328 f') := by rw [← hX3]; exact (by repeat (first | assumption | (refine gt_upI ?_; (repeat (first | exact In_of (gt_nw (by assumption)) | (apply In_of; assumption) | refine In_up ?_ | refine In_nw ?_)); done) | refine gt_rd (by first | assumption | (apply Ne.symm; assumption) | (exact hj _ _ (by omega) (by omega) (by omega)) | omega) ?_ | exact gt_nw (by assumption) | refine gt_odr (by first | assumption | (apply Ne.symm; assumption) | omega) ?_))
    have x45 : gt X (q 45) = some (ia 0 320 g5) := by rw [← hX3]; exact (by repeat (first | assumption | (refine gt_upI ?_; (repeat (first | exact In_of (gt_nw (by assumption)) | (apply In_of; assumption) | refine In_up ?_ | refine In_nw ?_)); done) | refine gt_rd (by first | assumption | (apply Ne.symm; assumption) | (exact hj _ _ (by omega) (by omega) (by omega)) | omega) ?_ | exact gt_nw (by assumption) | refine gt_odr (by first | assumption | (apply Ne.symm; assumption) | omega) ?_))
    have hF3 : Fr ([43, 44, 45].map q) M1 X := by rw [← hX3]; exact ((Fr.rf.pt (by simp)).pt (by simp)).pt (by simp)
    have N3 : ∀ i, i < 82 → i ∉ [43, 44, 45] → q i ∉ [43, 44, 45].map q := fun i h1 h2 => ninQ hj h1 (by decide) h2
    have hCX := hC1.dr hF3 ⟨_, _, _, _, _, _, _, x43, x44, x45⟩
    have m0 := hCX.2.1
    have m13 := hF3.rd (N3 13 (by decide) (by decide)) x13
    have m11 : gt X (AD (aq q) (q 40) (q 42) 1) = some (cc gg) := hF3.rd (N3 11 (by decide) (by decide)) x11
    have hFq : Fr (qfr q) M X := (Fr.q (js := afj) hF1 (by decide)).tr (hF3.q (by decide))
    have sgn : (gg 0 = -1 ∧ ¬ 0 < (xP S.1.2 (-1)).1) ∨ (gg 0 ≠ -1 ∧ 0 < (xP S.1.2 (-1)).1) := by
      rw [e0]
      rcases rP_pr (m := S.1.2) (ct := (xC S.1.2 (-1)).1) (my := qt S.1.2) (n := bn S.1.2) (lo := blo S.1.2) (hi := bhi S.1.2) with e | ⟨p, p1, p2, e⟩
      · have e' : (xP S.1.2 (-1)).1 = -1 := e
        rw [e']
        exact Or.inl ⟨rfl, by decide⟩
      · have e' : (xP S.1.2 (-1)).1 = nI p := e
        have l1 := cb1.2.2.2.2.2.1
        have l2 := cb1.2.2.2.2.2.2.2.1
        have hp : 0 < nI p := (nI_ltI (a := 0) (by omega) (by omega)).mpr (by omega)
        rw [e']
        exact Or.inr ⟨fun z => by rw [z] at hp; exact absurd hp (by decide), hp⟩
    refine Ev.ald0 dX5_open_36 ?_
    apply Ev.getf dX5_open_37 fX5_31
    · repeat (first | assumption | (refine gt_upI ?_; (repeat (first | exact In_of (gt_nw (by assumption)) | (apply In_of; assumption) | refine In_up ?_ | refine In_nw ?_)); done) | refine gt_rd (by first | assumption | (apply Ne.symm; assumption) | (exact hj _ _ (by omega) (by omega) (by omega)) | omega) ?_ | exact gt_nw (by assumption) | refine gt_odr (by first | assumption | (apply Ne.symm; assumption) | omega) ?_)
    · first | rfl | assumption
    apply Ev.getr dX5_open_40 fX5_128
    · repeat (first | assumption | (refine gt_upI ?_; (repeat (first | exact In_of (gt_nw (by assumption)) | (apply In_of; assumption) | refine In_up ?_ | refine In_nw ?_)); done) | refine gt_rd (by first | assumption | (apply Ne.symm; assumption) | (exact hj _ _ (by omega) (by omega) (by omega)) | omega) ?_ | exact gt_nw (by assumption) | refine gt_odr (by first | assumption | (apply Ne.symm; assumption) | omega) ?_)
    · first | rfl | assumption
    apply Ev.getf dX5_open_43 fX5_137
    · repeat (first | assumption | (refine gt_upI ?_; (repeat (first | exact In_of (gt_nw (by assumption)) | (apply In_of; assumption) | refine In_up ?_ | refine In_nw ?_)); done) | refine gt_rd (by first | assumption | (apply Ne.symm; assumption) | (exact hj _ _ (by omega) (by omega) (by omega)) | omega) ?_ | exact gt_nw (by assumption) | refine gt_odr (by first | assumption | (apply Ne.symm; assumption) | omega) ?_)
    · first | rfl | assumption
    refine Ev.iconst (v := -1) dX5_open_46 (by decide) ?_
    refine Ev.icmp_eq (tgt := 67) dX5_open_47 (by decide) (fun c47 => ?_) (fun c47 => ?_)
    · refine k_op2 hS c8' ?_ hCX hf' x43 x44 x45 hFq
      rcases sgn with s | s
      · rw [if_neg s.2]
      · exact absurd c47 s.1
    · refine Ev.ald0 dX5_open_50 ?_
      apply Ev.getf dX5_open_51 fX5_23
      · repeat (first | assumption | (refine gt_upI ?_; (repeat (first | exact In_of (gt_nw (by assumption)) | (apply In_of; assumption) | refine In_up ?_ | refine In_nw ?_)); done) | refine gt_rd (by first | assumption | (apply Ne.symm; assumption) | (exact hj _ _ (by omega) (by omega) (by omega)) | omega) ?_ | exact gt_nw (by assumption) | refine gt_odr (by first | assumption | (apply Ne.symm; assumption) | omega) ?_)
      · first | rfl | assumption
      refine Ev.ald0 dX5_open_54 ?_
      apply Ev.getf dX5_open_55 fX5_31
      · repeat (first | assumption | (refine gt_upI ?_; (repeat (first | exact In_of (gt_nw (by assumption)) | (apply In_of; assumption) | refine In_up ?_ | refine In_nw ?_)); done) | refine gt_rd (by first | assumption | (apply Ne.symm; assumption) | (exact hj _ _ (by omega) (by omega) (by omega)) | omega) ?_ | exact gt_nw (by assumption) | refine gt_odr (by first | assumption | (apply Ne.symm; assumption) | omega) ?_)
      · first | rfl | assumption
      apply Ev.getr dX5_open_58 fX5_128
      · repeat (first | assumption | (refine gt_upI ?_; (repeat (first | exact In_of (gt_nw (by assumption)) | (apply In_of; assumption) | refine In_up ?_ | refine In_nw ?_)); done) | refine gt_rd (by first | assumption | (apply Ne.symm; assumption) | (exact hj _ _ (by omega) (by omega) (by omega)) | omega) ?_ | exact gt_nw (by assumption) | refine gt_odr (by first | assumption | (apply Ne.symm; assumption) | omega) ?_)
      · first | rfl | assumption
      apply Ev.getf dX5_open_61 fX5_137
      · repeat (first | assumption | (refine gt_upI ?_; (repeat (first | exact In_of (gt_nw (by assumption)) | (apply In_of; assumption) | refine In_up ?_ | refine In_nw ?_)); done) | refine gt_rd (by first | assumption | (apply Ne.symm; assumption) | (exact hj _ _ (by omega) (by omega) (by omega)) | omega) ?_ | exact gt_nw (by assumption) | refine gt_odr (by first | assumption | (apply Ne.symm; assumption) | omega) ?_)
      · first | rfl | assumption
      apply Ev.put dX5_open_64 fX5_140
      · repeat (first | assumption | (refine gt_upI ?_; (repeat (first | exact In_of (gt_nw (by assumption)) | (apply In_of; assumption) | refine In_up ?_ | refine In_nw ?_)); done) | refine gt_rd (by first | assumption | (apply Ne.symm; assumption) | (exact hj _ _ (by omega) (by omega) (by omega)) | omega) ?_ | exact gt_nw (by assumption) | refine gt_odr (by first | assumption | (apply Ne.symm; assumption) | omega) ?_)
      · rfl
      · rfl
      · rfl
      generalize hW : up X (q 43) _ = W
      have w43 : gt W (q 43) = some (bk (q 44) (q 45) (bn S.1.1) 0 (gg 0) (S.1.1 331) (S.1.1 332)) := by rw [← hW]; exact (by repeat (first | assumption | (refine gt_upI ?_; (repeat (first | exact In_of (gt_nw (by assumption)) | (apply In_of; assumption) | refine In_up ?_ | refine In_nw ?_)); done) | refine gt_rd (by first | assumption | (apply Ne.symm; assumption) | (exact hj _ _ (by omega) (by omega) (by omega)) | omega) ?_ | exact gt_nw (by assumption) | refine gt_odr (by first | assumption | (apply Ne.symm; assumption) | omega) ?_))
      have w44 : gt W (q 44) = some (ia 0 328 f') := by rw [← hW]; exact (by repeat (first | assumption | (refine gt_upI ?_; (repeat (first | exact In_of (gt_nw (by assumption)) | (apply In_of; assumption) | refine In_up ?_ | refine In_nw ?_)); done) | refine gt_rd (by first | assumption | (apply Ne.symm; assumption) | (exact hj _ _ (by omega) (by omega) (by omega)) | omega) ?_ | exact gt_nw (by assumption) | refine gt_odr (by first | assumption | (apply Ne.symm; assumption) | omega) ?_))
      have w45 : gt W (q 45) = some (ia 0 320 g5) := by rw [← hW]; exact (by repeat (first | assumption | (refine gt_upI ?_; (repeat (first | exact In_of (gt_nw (by assumption)) | (apply In_of; assumption) | refine In_up ?_ | refine In_nw ?_)); done) | refine gt_rd (by first | assumption | (apply Ne.symm; assumption) | (exact hj _ _ (by omega) (by omega) (by omega)) | omega) ?_ | exact gt_nw (by assumption) | refine gt_odr (by first | assumption | (apply Ne.symm; assumption) | omega) ?_))
      have hFW : Fr ([43, 44, 45].map q) X W := by rw [← hW]; exact Fr.rf.pt (by simp)
      refine k_op2 hS c8' ?_ (hCX.dr hFW ⟨_, _, _, _, _, _, _, w43, w44, w45⟩) hf' w43 w44 w45 (hFq.tr (hFW.q (by decide)))
      rcases sgn with s | s
      · exact absurd s.1 c47
      · rw [if_pos s.2, e0]
  · refine Ev.iconst (v := -1) dX5_open_11 (by decide) ?_
    refine Ev.iret dX5_open_12 rfl rfl ?_
    rw [sp_open, if_neg c8]
    exact ⟨_, rfl, rfl, q, na, hC0, SQ.rf, Fr.rf⟩
end OPN
