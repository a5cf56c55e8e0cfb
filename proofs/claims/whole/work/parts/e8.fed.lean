/-! bytes, feed -/
theorem sh8 {x : Int32} (k : Nat) (hk : k = 24 ∨ k = 16 ∨ k = 8 ∨ k = 0) : ((x.toUInt32 >>> ((nI k).toUInt32 &&& Int32.toUInt32 31)).toInt32).toInt8 = (x >>> (nI k &&& 31)).toInt8 := by
  refine Int8.toBitVec_inj.mp (BitVec.eq_of_getLsbD_eq (fun i hi => ?_))
  rw [Int32.toBitVec_toInt8, Int32.toBitVec_toInt8, BitVec.getLsbD_signExtend, BitVec.getLsbD_signExtend, UInt32.toBitVec_toInt32, UInt32.toBitVec_shiftRight, Int32.toBitVec_shiftRight, Int32.toBitVec_toUInt32]
  have hi32 : i < 32 := by omega
  rw [if_pos hi32, if_pos hi32, BitVec.getLsbD_sshiftRight']
  have e : ∀ m : Nat, (BitVec.toNat (((nI k).toUInt32 &&& Int32.toUInt32 31).toBitVec % 32) = m) → (BitVec.toNat ((nI k &&& 31).toBitVec.smod 32) = m) → m + 8 ≤ 32 → (decide (i < 8) && (x.toBitVec >>> (((nI k).toUInt32 &&& Int32.toUInt32 31).toBitVec % 32)).getLsbD i) = (decide (i < 8) && (!decide (32 ≤ i) && if BitVec.toNat ((nI k &&& 31).toBitVec.smod 32) + i < 32 then x.toBitVec.getLsbD (BitVec.toNat ((nI k &&& 31).toBitVec.smod 32) + i) else x.toBitVec.msb)) := by
    intro m h1 h2 h3
    have e1 : (x.toBitVec >>> (((nI k).toUInt32 &&& Int32.toUInt32 31).toBitVec % 32)).getLsbD i = x.toBitVec.getLsbD (m + i) := by
      rw [← h1]
      exact BitVec.getLsbD_ushiftRight _ _ _
    rw [e1, h2, if_pos (by omega), decide_eq_false (show ¬ 32 ≤ i by omega)]
    rfl
  rcases hk with rfl | rfl | rfl | rfl
  · exact e 24 (by decide) (by decide) (by omega)
  · exact e 16 (by decide) (by decide) (by omega)
  · exact e 8 (by decide) (by decide) (by omega)
  · exact e 0 (by decide) (by decide) (by omega)
/-- a byte as the tape holds it -/
def oby (y : Int32) : Prop := y &&& 255 = nI (y &&& 255).toNatClampNeg ∧ (y &&& 255).toNatClampNeg < 256 ∧ ((y &&& 255).toNatClampNeg < 128 → y = nI (y &&& 255).toNatClampNeg) ∧ (128 ≤ (y &&& 255).toNatClampNeg → y < 0)
theorem oby_all : ∀ m, m < 256 → ((vp_nar .byte (Int8.ofBitVec (BitVec.ofNat 8 m)).toInt32 &&& 255 = nI (vp_nar .byte (Int8.ofBitVec (BitVec.ofNat 8 m)).toInt32 &&& 255).toNatClampNeg) ∧ (vp_nar .byte (Int8.ofBitVec (BitVec.ofNat 8 m)).toInt32 &&& 255).toNatClampNeg < 256 ∧ ((vp_nar .byte (Int8.ofBitVec (BitVec.ofNat 8 m)).toInt32 &&& 255).toNatClampNeg < 128 → vp_nar .byte (Int8.ofBitVec (BitVec.ofNat 8 m)).toInt32 = nI (vp_nar .byte (Int8.ofBitVec (BitVec.ofNat 8 m)).toInt32 &&& 255).toNatClampNeg) ∧ (128 ≤ (vp_nar .byte (Int8.ofBitVec (BitVec.ofNat 8 m)).toInt32 &&& 255).toNatClampNeg → vp_nar .byte (Int8.ofBitVec (BitVec.ofNat 8 m)).toInt32 < 0)) := by decide +kernel
theorem oby_z (z : Int8) : oby (vp_nar .byte z.toInt32) := by
  have := oby_all z.toBitVec.toNat z.toBitVec.isLt
  have e : Int8.ofBitVec (BitVec.ofNat 8 z.toBitVec.toNat) = z := by
    refine Int8.toBitVec_inj.mp ?_
    show BitVec.ofNat 8 z.toBitVec.toNat = z.toBitVec
    exact BitVec.eq_of_toNat_eq (by rw [BitVec.toNat_ofNat]; exact Nat.mod_eq_of_lt z.toBitVec.isLt)
  rw [e] at this
  exact this
theorem oby_8 (v k : Int32) : oby (by8 v k) := oby_z _
theorem pt4_o {f : Nat → Int32} {n j : Nat} {x : Int32} (h : j < n ∨ n + 4 ≤ j) : pt4 f n x j = f j := by rw [pt4, pk_un (by omega), pk_un (by omega), pk_un (by omega), pk_un (by omega)]
theorem pt4_at {f : Nat → Int32} {n : Nat} {x : Int32} : pt4 f n x n = by8 x 24 ∧ pt4 f n x (n + 1) = by8 x 16 ∧ pt4 f n x (n + 2) = by8 x 8 ∧ pt4 f n x (n + 3) = by8 x 0 := by
  refine ⟨?_, ?_, ?_, ?_⟩
  · rw [pt4, pk_un (by omega), pk_un (by omega), pk_un (by omega), pk_us]
  · rw [pt4, pk_un (by omega), pk_un (by omega), pk_us]
  · rw [pt4, pk_un (by omega), pk_us]
  · rw [pt4, pk_us]
theorem pt4_cm {f g : Nat → Int32} {n : Nat} {x : Int32} (h : ∀ j, j < n → f j = g j) : ∀ j, j < n + 4 → pt4 f n x j = pt4 g n x j := fun j hj => by
  obtain ⟨a0, a1, a2, a3⟩ := pt4_at (f := f) (n := n) (x := x)
  obtain ⟨b0, b1, b2, b3⟩ := pt4_at (f := g) (n := n) (x := x)
  by_cases c : j < n
  · rw [pt4_o (Or.inl c), pt4_o (Or.inl c)]
    exact h j c
  · have : j = n ∨ j = n + 1 ∨ j = n + 2 ∨ j = n + 3 := by omega
    rcases this with rfl | rfl | rfl | rfl
    · rw [a0, b0]
    · rw [a1, b1]
    · rw [a2, b2]
    · rw [a3, b3]
theorem pt4_by {f : Nat → Int32} {n : Nat} {x : Int32} (h : ∀ j, j < n → oby (f j)) : ∀ j, j < n + 4 → oby (pt4 f n x j) := fun j hj => by
  obtain ⟨a0, a1, a2, a3⟩ := pt4_at (f := f) (n := n) (x := x)
  by_cases c : j < n
  · rw [pt4_o (Or.inl c)]
    exact h j c
  · have : j = n ∨ j = n + 1 ∨ j = n + 2 ∨ j = n + 3 := by omega
    rcases this with rfl | rfl | rfl | rfl
    · rw [a0]; exact oby_8 _ _
    · rw [a1]; exact oby_8 _ _
    · rw [a2]; exact oby_8 _ _
    · rw [a3]; exact oby_8 _ _
theorem AWc.fr {q : Nat → Nat} {M M' : Wd} {js : List Nat} (hA : AWc (aq q) M) (hj : InjQ q) (hF : Fr (js.map q) M M') (hjs : ∀ j ∈ js, j < 82 ∧ (j < 10 ∨ 30 ≤ j)) : AWc (aq q) M' := by
  have N : ∀ i, 10 ≤ i → i < 30 → q i ∉ js.map q := fun i h1 h2 => ninQ hj (by omega) (fun j z => (hjs j z).1) (fun z => by have := (hjs i z).2; omega)
  obtain ⟨so, po, t0, r0, i1, i2, i3, i4, ov, hp, vo, re, t, g, fl, tr, sa, cn, tu, s0, s1, p0, p1, hs, r3, r0', r1, r2, r6, r7, r8, r9, r10, r11, r15, r16, r17, r18⟩ := hA
  exact ⟨so, po, t0, r0, i1, i2, i3, i4, ov, hp, vo, re, t, g, fl, tr, sa, cn, tu, s0, s1, p0, p1, hs, hF.rd (N 13 (by decide) (by decide)) r3, hF.rd (N 10 (by decide) (by decide)) r0', hF.rd (N 11 (by decide) (by decide)) r1, hF.rd (N 12 (by decide) (by decide)) r2, hF.rd (N 16 (by decide) (by decide)) r6, hF.rd (N 17 (by decide) (by decide)) r7, hF.rd (N 18 (by decide) (by decide)) r8, hF.rd (N 19 (by decide) (by decide)) r9, hF.rd (N 20 (by decide) (by decide)) r10, hF.rd (N 21 (by decide) (by decide)) r11, hF.rd (N 25 (by decide) (by decide)) r15, hF.rd (N 26 (by decide) (by decide)) r16, hF.rd (N 27 (by decide) (by decide)) r17, hF.rd (N 28 (by decide) (by decide)) r18⟩
section FED
variable {G : GP} {M : Wd} {a b : Nat} {t : Nat → Int32} {e : Nat → Int32}
set_option maxRecDepth 20000 in
theorem t_hasRoom {sz : Nat} (hz : sz ≤ 800) (hA : gt M a = some (tpo b (nI sz) e)) : CtI G mX4_hasRoom [.ref a] M 0 0 (fun y M' => y = (if sz + 20 ≤ 800 then 1 else 0) ∧ M' = M) := by
  have e1 : nI sz + 20 = nI (sz + 20) := nI_add sz 20
  refine Ct.of (ls := [some (.ref a)]) (by decide) (by decide) rfl rfl rfl ?_
  refine Ev.ald0 dX4_hasRoom_0 ?_
  apply Ev.getf dX4_hasRoom_1 fX4_9
  · repeat (first | assumption | (refine gt_upI ?_; (repeat (first | exact In_of (gt_nw (by assumption)) | (apply In_of; assumption) | refine In_up ?_ | refine In_nw ?_)); done) | refine gt_rd (by first | assumption | (apply Ne.symm; assumption) | (exact hj _ _ (by omega) (by omega) (by omega)) | omega) ?_ | exact gt_nw (by assumption) | refine gt_odr (by first | assumption | (apply Ne.symm; assumption) | omega) ?_)
  · first | rfl | assumption
  refine Ev.bipush (v := 20) dX4_hasRoom_4 (by decide) ?_
  refine Ev.iadd dX4_hasRoom_6 ?_
  refine Ev.sipush (v := 800) dX4_hasRoom_7 (by decide) ?_
  rw [e1]
  refine Ev.icmp_gt (tgt := 17) dX4_hasRoom_10 (by decide) (fun c10 => ?_) (fun c10 => ?_)
  · have : ¬ sz + 20 ≤ 800 := fun z => by
      have := (nI_ltI (a := 800) (b := sz + 20) (by omega) (by omega)).mp c10
      omega
    refine Ev.iconst (v := 0) dX4_hasRoom_17 (by decide) ?_
    refine Ev.iret dX4_hasRoom_18 rfl rfl ?_
    exact ⟨_, rfl, by rw [if_neg this], rfl⟩
  · have : sz + 20 ≤ 800 := by
      by_cases z : sz + 20 ≤ 800
      · exact z
      · exact absurd ((nI_ltI (a := 800) (b := sz + 20) (by omega) (by omega)).mpr (by omega)) c10
    refine Ev.iconst (v := 1) dX4_hasRoom_13 (by decide) ?_
    refine Ev.goto (tgt := 18) dX4_hasRoom_14 (by decide) ?_
    refine Ev.iret dX4_hasRoom_18 rfl rfl ?_
    exact ⟨_, rfl, by rw [if_pos this], rfl⟩
set_option maxRecDepth 20000 in
theorem t_append {sz : Nat} {x : Int32} (hz : sz + 4 ≤ 800) (hA : gt M a = some (tpo b (nI sz) e)) (hB : gt M b = some (ia 1 800 t)) (hab : a ≠ b) : CtV G mX4_append [.ref a, .int x] M 0 0 (fun M' => M' = up (up M b (ia 1 800 (pt4 t sz x))) a (tpo b (nI (sz + 4)) e)) := by
  have one : ∀ (Q : Option Value → Wd → Prop) (k k' : Nat) (kk : Int32) (z : Nat) (f : Nat → Int32), (k = 24 ∨ k = 16 ∨ k = 8 ∨ k = 0) → nI k + Int32.ofInt (-8) = kk → z < 800 → Ev G mX4_append 3 [some (.ref a), some (.int x), some (.int kk)] [] (up (up M b (ia 1 800 (upd f z (by8 x (nI k))))) a (tpo b (nI (z + 1)) e)) 0 0 Q → Ev G mX4_append 3 [some (.ref a), some (.int x), some (.int (nI k))] [] (up (up M b (ia 1 800 f)) a (tpo b (nI z) e)) 0 0 Q := by
    intro Q k k' kk z f hk hkk hz9 kq
    have q1 : gt (up (up M b (ia 1 800 f)) a (tpo b (nI z) e)) a = some (tpo b (nI z) e) := gt_up (gt_rd hab hA)
    have q2 : gt (up (up M b (ia 1 800 f)) a (tpo b (nI z) e)) b = some (ia 1 800 f) := gt_rd hab.symm (gt_up hB)
    refine Ev.ild2 dX4_append_3 ?_
    refine Ev.if_lt (tgt := 46) dX4_append_4 (by decide) (fun c9 => absurd c9 (nI_pos (by omega))) (fun _ => ?_)
    refine Ev.ald0 dX4_append_7 ?_
    apply Ev.getf dX4_append_8 fX4_9
    · repeat (first | assumption | (refine gt_upI ?_; (repeat (first | exact In_of (gt_nw (by assumption)) | (apply In_of; assumption) | refine In_up ?_ | refine In_nw ?_)); done) | refine gt_rd (by first | assumption | (apply Ne.symm; assumption) | (exact hj _ _ (by omega) (by omega) (by omega)) | omega) ?_ | exact gt_nw (by assumption) | refine gt_odr (by first | assumption | (apply Ne.symm; assumption) | omega) ?_)
    · first | rfl | assumption
    refine Ev.sipush (v := 800) dX4_append_11 (by decide) ?_
    refine Ev.icmp_ge (tgt := 46) dX4_append_14 (by decide) (fun c9 => absurd ((nI_leI (a := 800) (by omega) (by omega)).mp c9) (by omega)) (fun _ => ?_)
    refine Ev.ald0 dX4_append_17 ?_
    apply Ev.getf dX4_append_18 fX4_15
    · repeat (first | assumption | (refine gt_upI ?_; (repeat (first | exact In_of (gt_nw (by assumption)) | (apply In_of; assumption) | refine In_up ?_ | refine In_nw ?_)); done) | refine gt_rd (by first | assumption | (apply Ne.symm; assumption) | (exact hj _ _ (by omega) (by omega) (by omega)) | omega) ?_ | exact gt_nw (by assumption) | refine gt_odr (by first | assumption | (apply Ne.symm; assumption) | omega) ?_)
    · first | rfl | assumption
    refine Ev.ald0 dX4_append_21 ?_
    apply Ev.getf dX4_append_22 fX4_9
    · repeat (first | assumption | (refine gt_upI ?_; (repeat (first | exact In_of (gt_nw (by assumption)) | (apply In_of; assumption) | refine In_up ?_ | refine In_nw ?_)); done) | refine gt_rd (by first | assumption | (apply Ne.symm; assumption) | (exact hj _ _ (by omega) (by omega) (by omega)) | omega) ?_ | exact gt_nw (by assumption) | refine gt_odr (by first | assumption | (apply Ne.symm; assumption) | omega) ?_)
    · first | rfl | assumption
    refine Ev.ild1 dX4_append_25 ?_
    refine Ev.ild2 dX4_append_26 ?_
    refine Ev.iushr dX4_append_27 ?_
    refine Ev.i2b dX4_append_28 ?_
    rw [sh8 k hk]
    apply Ev.bast dX4_append_29
    · repeat (first | assumption | (refine gt_upI ?_; (repeat (first | exact In_of (gt_nw (by assumption)) | (apply In_of; assumption) | refine In_up ?_ | refine In_nw ?_)); done) | refine gt_rd (by first | assumption | (apply Ne.symm; assumption) | (exact hj _ _ (by omega) (by omega) (by omega)) | omega) ?_ | exact gt_nw (by assumption) | refine gt_odr (by first | assumption | (apply Ne.symm; assumption) | omega) ?_)
    · exact vp_in_nI (by omega) (by omega)
    refine Ev.ald0 dX4_append_30 ?_
    refine Ev.dup dX4_append_31 rfl ?_
    apply Ev.getf dX4_append_32 fX4_9
    · repeat (first | assumption | (refine gt_upI ?_; (repeat (first | exact In_of (gt_nw (by assumption)) | (apply In_of; assumption) | refine In_up ?_ | refine In_nw ?_)); done) | refine gt_rd (by first | assumption | (apply Ne.symm; assumption) | (exact hj _ _ (by omega) (by omega) (by omega)) | omega) ?_ | exact gt_nw (by assumption) | refine gt_odr (by first | assumption | (apply Ne.symm; assumption) | omega) ?_)
    · first | rfl | assumption
    refine Ev.iconst (v := 1) dX4_append_35 (by decide) ?_
    refine Ev.iadd dX4_append_36 ?_
    apply Ev.put dX4_append_37 fX4_9
    · repeat (first | assumption | (refine gt_upI ?_; (repeat (first | exact In_of (gt_nw (by assumption)) | (apply In_of; assumption) | refine In_up ?_ | refine In_nw ?_)); done) | refine gt_rd (by first | assumption | (apply Ne.symm; assumption) | (exact hj _ _ (by omega) (by omega) (by omega)) | omega) ?_ | exact gt_nw (by assumption) | refine gt_odr (by first | assumption | (apply Ne.symm; assumption) | omega) ?_)
    · rfl
    · rfl
    · rfl
    rw [nI_clamp (by omega), nI_1]
    refine Ev.iinc2 dX4_append_40 rfl rfl hkk ?_
    refine Ev.goto (tgt := 3) dX4_append_43 (by decide) ?_
    refine Ev.cgM rfl ?_ kq
    rw [up_sw hab, up_up, up_up]
    rfl
  refine Ct.of (ls := [some (.ref a), some (.int x), none]) (by decide) (by decide) rfl rfl rfl ?_
  refine Ev.bipush (v := 24) dX4_append_0 (by decide) ?_
  refine Ev.ist2 dX4_append_2 rfl rfl ?_
  refine Ev.cgM (M' := up (up M b (ia 1 800 t)) a (tpo b (nI sz) e)) rfl (by rw [up_id hB, up_id hA]) ?_
  refine one _ 24 0 _ sz t (Or.inl rfl) (show nI 24 + Int32.ofInt (-8) = nI 16 by decide) (by omega) ?_
  refine one _ 16 0 _ (sz + 1) _ (Or.inr (Or.inl rfl)) (show nI 16 + Int32.ofInt (-8) = nI 8 by decide) (by omega) ?_
  refine one _ 8 0 _ (sz + 2) _ (Or.inr (Or.inr (Or.inl rfl))) (show nI 8 + Int32.ofInt (-8) = nI 0 by decide) (by omega) ?_
  refine one _ 0 0 _ (sz + 3) _ (Or.inr (Or.inr (Or.inr rfl))) (show nI 0 + Int32.ofInt (-8) = -8 by decide) (by omega) ?_
  refine Ev.ild2 dX4_append_3 ?_
  refine Ev.if_lt (tgt := 46) dX4_append_4 (by decide) (fun _ => ?_) (fun c9 => absurd (by decide) c9)
  refine Ev.vret dX4_append_46 rfl ?_
  exact ⟨rfl, rfl⟩
end FED
section FEK
variable {G : GP} {M : Wd} {q : Nat → Nat} {na : Nat} {S : Sg}
set_option maxRecDepth 20000 in
theorem k_feed {x0 x1 x2 x3 x4 : Int32} (hC : CR q na S M) (hS : Sok S) : CtI G mX5_feed [.ref (q 0), .int x0, .int x1, .int x2, .int x3, .int x4] M 0 0 (fun y M' => y = (sp_feed S x0 x1 x2 x3 x4).1 ∧ KR q (sp_feed S x0 x1 x2 x3 x4).2 M M') := by
  have hC0 := hC
  obtain ⟨⟨hj, hna⟩, h0, ⟨⟨e, ht⟩, ⟨t, hb, hbt⟩, g, h4, h5⟩, h2, hA, h3, h6⟩ := hC
  have hz := hS.2.2.2
  have hab : q 1 ≠ q 2 := hj _ _ (by decide) (by decide) (by decide)
  have h01 : q 0 ≠ q 1 := hj _ _ (by decide) (by decide) (by decide)
  have h02 : q 0 ≠ q 2 := hj _ _ (by decide) (by decide) (by decide)
  have ap : ∀ (f : Nat → Int32) (z : Nat), gt (up (up M (q 2) (ia 1 800 f)) (q 1) (tpo (q 2) (nI z) e)) (q 0) = some (oco q na S.2.1.length S.2.2.2.2.2) ∧ gt (up (up M (q 2) (ia 1 800 f)) (q 1) (tpo (q 2) (nI z) e)) (q 1) = some (tpo (q 2) (nI z) e) ∧ gt (up (up M (q 2) (ia 1 800 f)) (q 1) (tpo (q 2) (nI z) e)) (q 2) = some (ia 1 800 f) := fun f z => ⟨gt_rd h01 (gt_rd h02 h0), gt_up (gt_rd hab ht), gt_rd hab.symm (gt_up hb)⟩
  have nx : ∀ (f f' : Nat → Int32) (z z' : Nat), up (up (up (up M (q 2) (ia 1 800 f)) (q 1) (tpo (q 2) (nI z) e)) (q 2) (ia 1 800 f')) (q 1) (tpo (q 2) (nI z') e) = up (up M (q 2) (ia 1 800 f')) (q 1) (tpo (q 2) (nI z') e) := fun f f' z z' => by
    rw [up_sw (a := q 1) (b := q 2) hab, up_up, up_up]
  refine Ct.of (ls := [some (.ref (q 0)), some (.int x0), some (.int x1), some (.int x2), some (.int x3), some (.int x4)]) (by decide) (by decide) rfl rfl rfl ?_
  refine Ev.ald0 dX5_feed_0 ?_
  apply Ev.getf dX5_feed_1 fX5_12
  · repeat (first | assumption | (refine gt_upI ?_; (repeat (first | exact In_of (gt_nw (by assumption)) | (apply In_of; assumption) | refine In_up ?_ | refine In_nw ?_)); done) | refine gt_rd (by first | assumption | (apply Ne.symm; assumption) | (exact hj _ _ (by omega) (by omega) (by omega)) | omega) ?_ | exact gt_nw (by assumption) | refine gt_odr (by first | assumption | (apply Ne.symm; assumption) | omega) ?_)
  · first | rfl | assumption
  refine Ev.cvI (Yc := mX4_hasRoom) (ci := 4) dX5_feed_4 lX5_53 vX4_hasRoom rfl (t_hasRoom hz ht) ?_ rfl rfl rfl rfl ?_
  · apply Exists.intro; repeat (first | assumption | (refine gt_upI ?_; (repeat (first | exact In_of (gt_nw (by assumption)) | (apply In_of; assumption) | refine In_up ?_ | refine In_nw ?_)); done) | refine gt_rd (by first | assumption | (apply Ne.symm; assumption) | (exact hj _ _ (by omega) (by omega) (by omega)) | omega) ?_ | exact gt_nw (by assumption) | refine gt_odr (by first | assumption | (apply Ne.symm; assumption) | omega) ?_)
  rintro y M1 ⟨hy, rfl⟩
  refine Ev.if_ne (tgt := 12) dX5_feed_7 (by decide) (fun c7 => ?_) (fun c7 => ?_)
  · have t1 := if1_t hy c7
    rw [sp_feed, if_pos t1]
    refine Ev.ald0 dX5_feed_12 ?_
    apply Ev.getf dX5_feed_13 fX5_12
    · repeat (first | assumption | (refine gt_upI ?_; (repeat (first | exact In_of (gt_nw (by assumption)) | (apply In_of; assumption) | refine In_up ?_ | refine In_nw ?_)); done) | refine gt_rd (by first | assumption | (apply Ne.symm; assumption) | (exact hj _ _ (by omega) (by omega) (by omega)) | omega) ?_ | exact gt_nw (by assumption) | refine gt_odr (by first | assumption | (apply Ne.symm; assumption) | omega) ?_)
    · first | rfl | assumption
    refine Ev.ild1 dX5_feed_16 ?_
    refine Ev.cvV (Yc := mX4_append) (ci := 4) dX5_feed_17 lX5_57 vX4_append rfl (t_append (by omega) ht hb hab) ?_ rfl rfl rfl rfl ?_
    · apply Exists.intro; repeat (first | assumption | (refine gt_upI ?_; (repeat (first | exact In_of (gt_nw (by assumption)) | (apply In_of; assumption) | refine In_up ?_ | refine In_nw ?_)); done) | refine gt_rd (by first | assumption | (apply Ne.symm; assumption) | (exact hj _ _ (by omega) (by omega) (by omega)) | omega) ?_ | exact gt_nw (by assumption) | refine gt_odr (by first | assumption | (apply Ne.symm; assumption) | omega) ?_)
    rintro M2 rfl
    obtain ⟨a0, a1, a2⟩ := ap (pt4 t S.2.2.2.1 x0) (S.2.2.2.1 + 4)
    refine Ev.ald0 dX5_feed_20 ?_
    apply Ev.getf dX5_feed_21 fX5_12
    · repeat (first | assumption | (refine gt_upI ?_; (repeat (first | exact In_of (gt_nw (by assumption)) | (apply In_of; assumption) | refine In_up ?_ | refine In_nw ?_)); done) | refine gt_rd (by first | assumption | (apply Ne.symm; assumption) | (exact hj _ _ (by omega) (by omega) (by omega)) | omega) ?_ | exact gt_nw (by assumption) | refine gt_odr (by first | assumption | (apply Ne.symm; assumption) | omega) ?_)
    · first | rfl | assumption
    refine Ev.ild2 dX5_feed_24 ?_
    refine Ev.cvV (Yc := mX4_append) (ci := 4) dX5_feed_25 lX5_57 vX4_append rfl (t_append (by omega) a1 a2 hab) ?_ rfl rfl rfl rfl ?_
    · apply Exists.intro; repeat (first | assumption | (refine gt_upI ?_; (repeat (first | exact In_of (gt_nw (by assumption)) | (apply In_of; assumption) | refine In_up ?_ | refine In_nw ?_)); done) | refine gt_rd (by first | assumption | (apply Ne.symm; assumption) | (exact hj _ _ (by omega) (by omega) (by omega)) | omega) ?_ | exact gt_nw (by assumption) | refine gt_odr (by first | assumption | (apply Ne.symm; assumption) | omega) ?_)
    rintro M2 rfl
    rw [nx]
    obtain ⟨b0, b1, b2⟩ := ap (pt4 (pt4 t S.2.2.2.1 x0) (S.2.2.2.1 + 4) x1) (S.2.2.2.1 + 4 + 4)
    refine Ev.ald0 dX5_feed_28 ?_
    apply Ev.getf dX5_feed_29 fX5_12
    · repeat (first | assumption | (refine gt_upI ?_; (repeat (first | exact In_of (gt_nw (by assumption)) | (apply In_of; assumption) | refine In_up ?_ | refine In_nw ?_)); done) | refine gt_rd (by first | assumption | (apply Ne.symm; assumption) | (exact hj _ _ (by omega) (by omega) (by omega)) | omega) ?_ | exact gt_nw (by assumption) | refine gt_odr (by first | assumption | (apply Ne.symm; assumption) | omega) ?_)
    · first | rfl | assumption
    refine Ev.ild3 dX5_feed_32 ?_
    refine Ev.cvV (Yc := mX4_append) (ci := 4) dX5_feed_33 lX5_57 vX4_append rfl (t_append (by omega) b1 b2 hab) ?_ rfl rfl rfl rfl ?_
    · apply Exists.intro; repeat (first | assumption | (refine gt_upI ?_; (repeat (first | exact In_of (gt_nw (by assumption)) | (apply In_of; assumption) | refine In_up ?_ | refine In_nw ?_)); done) | refine gt_rd (by first | assumption | (apply Ne.symm; assumption) | (exact hj _ _ (by omega) (by omega) (by omega)) | omega) ?_ | exact gt_nw (by assumption) | refine gt_odr (by first | assumption | (apply Ne.symm; assumption) | omega) ?_)
    rintro M2 rfl
    rw [nx]
    obtain ⟨d0, d1, d2⟩ := ap (pt4 (pt4 (pt4 t S.2.2.2.1 x0) (S.2.2.2.1 + 4) x1) (S.2.2.2.1 + 4 + 4) x2) (S.2.2.2.1 + 4 + 4 + 4)
    refine Ev.ald0 dX5_feed_36 ?_
    apply Ev.getf dX5_feed_37 fX5_12
    · repeat (first | assumption | (refine gt_upI ?_; (repeat (first | exact In_of (gt_nw (by assumption)) | (apply In_of; assumption) | refine In_up ?_ | refine In_nw ?_)); done) | refine gt_rd (by first | assumption | (apply Ne.symm; assumption) | (exact hj _ _ (by omega) (by omega) (by omega)) | omega) ?_ | exact gt_nw (by assumption) | refine gt_odr (by first | assumption | (apply Ne.symm; assumption) | omega) ?_)
    · first | rfl | assumption
    refine Ev.ild4 dX5_feed_40 ?_
    refine Ev.cvV (Yc := mX4_append) (ci := 4) dX5_feed_42 lX5_57 vX4_append rfl (t_append (by omega) d1 d2 hab) ?_ rfl rfl rfl rfl ?_
    · apply Exists.intro; repeat (first | assumption | (refine gt_upI ?_; (repeat (first | exact In_of (gt_nw (by assumption)) | (apply In_of; assumption) | refine In_up ?_ | refine In_nw ?_)); done) | refine gt_rd (by first | assumption | (apply Ne.symm; assumption) | (exact hj _ _ (by omega) (by omega) (by omega)) | omega) ?_ | exact gt_nw (by assumption) | refine gt_odr (by first | assumption | (apply Ne.symm; assumption) | omega) ?_)
    rintro M2 rfl
    rw [nx]
    obtain ⟨f0, f1, f2⟩ := ap (pt4 (pt4 (pt4 (pt4 t S.2.2.2.1 x0) (S.2.2.2.1 + 4) x1) (S.2.2.2.1 + 4 + 4) x2) (S.2.2.2.1 + 4 + 4 + 4) x3) (S.2.2.2.1 + 4 + 4 + 4 + 4)
    refine Ev.ald0 dX5_feed_45 ?_
    apply Ev.getf dX5_feed_46 fX5_12
    · repeat (first | assumption | (refine gt_upI ?_; (repeat (first | exact In_of (gt_nw (by assumption)) | (apply In_of; assumption) | refine In_up ?_ | refine In_nw ?_)); done) | refine gt_rd (by first | assumption | (apply Ne.symm; assumption) | (exact hj _ _ (by omega) (by omega) (by omega)) | omega) ?_ | exact gt_nw (by assumption) | refine gt_odr (by first | assumption | (apply Ne.symm; assumption) | omega) ?_)
    · first | rfl | assumption
    refine Ev.ild5 dX5_feed_49 ?_
    refine Ev.cvV (Yc := mX4_append) (ci := 4) dX5_feed_51 lX5_57 vX4_append rfl (t_append (by omega) f1 f2 hab) ?_ rfl rfl rfl rfl ?_
    · apply Exists.intro; repeat (first | assumption | (refine gt_upI ?_; (repeat (first | exact In_of (gt_nw (by assumption)) | (apply In_of; assumption) | refine In_up ?_ | refine In_nw ?_)); done) | refine gt_rd (by first | assumption | (apply Ne.symm; assumption) | (exact hj _ _ (by omega) (by omega) (by omega)) | omega) ?_ | exact gt_nw (by assumption) | refine gt_odr (by first | assumption | (apply Ne.symm; assumption) | omega) ?_)
    rintro M2 rfl
    rw [nx]
    obtain ⟨z0, z1, z2⟩ := ap (pt4 (pt4 (pt4 (pt4 (pt4 t S.2.2.2.1 x0) (S.2.2.2.1 + 4) x1) (S.2.2.2.1 + 4 + 4) x2) (S.2.2.2.1 + 4 + 4 + 4) x3) (S.2.2.2.1 + 4 + 4 + 4 + 4) x4) (S.2.2.2.1 + 4 + 4 + 4 + 4 + 4)
    have hF : Fr ([1, 2].map q) M1 (up (up M1 (q 2) (ia 1 800 (pt4 (pt4 (pt4 (pt4 (pt4 t S.2.2.2.1 x0) (S.2.2.2.1 + 4) x1) (S.2.2.2.1 + 4 + 4) x2) (S.2.2.2.1 + 4 + 4 + 4) x3) (S.2.2.2.1 + 4 + 4 + 4 + 4) x4))) (q 1) (tpo (q 2) (nI (S.2.2.2.1 + 4 + 4 + 4 + 4 + 4)) e)) := (Fr.rf.pt (by simp)).pt (by simp)
    generalize up (up M1 (q 2) (ia 1 800 (pt4 (pt4 (pt4 (pt4 (pt4 t S.2.2.2.1 x0) (S.2.2.2.1 + 4) x1) (S.2.2.2.1 + 4 + 4) x2) (S.2.2.2.1 + 4 + 4 + 4) x3) (S.2.2.2.1 + 4 + 4 + 4 + 4) x4))) (q 1) (tpo (q 2) (nI (S.2.2.2.1 + 4 + 4 + 4 + 4 + 4)) e) = Z at *
    refine Ev.ald0 dX5_feed_54 ?_
    apply Ev.getf dX5_feed_55 fX5_12
    · repeat (first | assumption | (refine gt_upI ?_; (repeat (first | exact In_of (gt_nw (by assumption)) | (apply In_of; assumption) | refine In_up ?_ | refine In_nw ?_)); done) | refine gt_rd (by first | assumption | (apply Ne.symm; assumption) | (exact hj _ _ (by omega) (by omega) (by omega)) | omega) ?_ | exact gt_nw (by assumption) | refine gt_odr (by first | assumption | (apply Ne.symm; assumption) | omega) ?_)
    · first | rfl | assumption
    apply Ev.getf dX5_feed_58 fX5_61
    · repeat (first | assumption | (refine gt_upI ?_; (repeat (first | exact In_of (gt_nw (by assumption)) | (apply In_of; assumption) | refine In_up ?_ | refine In_nw ?_)); done) | refine gt_rd (by first | assumption | (apply Ne.symm; assumption) | (exact hj _ _ (by omega) (by omega) (by omega)) | omega) ?_ | exact gt_nw (by assumption) | refine gt_odr (by first | assumption | (apply Ne.symm; assumption) | omega) ?_)
    · first | rfl | assumption
    refine Ev.iret dX5_feed_61 rfl rfl ?_
    have N : ∀ i, i < 82 → i ∉ [1, 2] → q i ∉ [1, 2].map q := fun i h1 h2 => ninQ hj h1 (by decide) h2
    refine ⟨_, rfl, rfl, q, na, ⟨⟨hj, hna⟩, z0, ⟨⟨e, z1⟩, ⟨_, z2, fun j hj9 => ?_⟩, g, hF.rd (N 4 (by decide) (by decide)) h4, h5⟩, CRb.fr (q := q) (na := na) (S := S) h2 hj hF (by decide), hA.fr hj hF (by decide), h3.fr hF (N 40 (by decide) (by decide)) (N 41 (by decide) (by decide)) (N 42 (by decide) (by decide)), h6.fr hF (N 43 (by decide) (by decide)) (N 44 (by decide) (by decide)) (N 45 (by decide) (by decide))⟩, SQ.rf, hF.q (by decide)⟩
    exact pt4_cm (pt4_cm (pt4_cm (pt4_cm (pt4_cm hbt)))) j hj9
  · have t1 := if1_f hy c7
    rw [sp_feed, if_neg t1]
    refine Ev.iconst (v := -1) dX5_feed_10 (by decide) ?_
    refine Ev.iret dX5_feed_11 rfl rfl ?_
    exact ⟨_, rfl, rfl, q, na, hC0, SQ.rf, Fr.rf⟩
end FEK
