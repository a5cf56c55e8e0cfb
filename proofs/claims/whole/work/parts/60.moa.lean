/-! the reference: its cell, its readers -/
def InjM (a : Nat → Nat) : Prop := ∀ i j : Nat, i < 41 → j < 41 → i ≠ j → a i ≠ a j
abbrev mo (v : Nat → Int32) (L : Int64) (a : Nat → Nat) : En := ob 6 [.int (v 0), .ref (a 1), .ref (a 2), .int (v 3), .ref (a 4), .int (v 5), .int (v 6), .ref (a 7), .int (v 8), .int (v 9), .int (v 10), .int (v 11), .int (v 12), .int (v 13), .long L, .int (v 15), .int (v 16), .ref (a 17), .int (v 18), .int (v 19), .int (v 20), .int (v 21), .ref (a 22), .ref (a 23), .ref (a 24), .ref (a 25), .ref (a 26), .ref (a 27), .int (v 28), .int (v 29), .int (v 30), .ref (a 31), .ref (a 32), .int (v 33), .ref (a 34), .ref (a 35), .int (v 36), .int (v 37), .int (v 38), .ref (a 39), .ref (a 40)]
theorem i8x {k j n : Nat} (h : 8 * k + j < n) (hn : n ≤ 100000) : vp_in (8 * nI k + nI j) n ∧ (8 * nI k + nI j).toNatClampNeg = 8 * k + j := by
  have e : 8 * nI k + nI j = nI (8 * k + j) := by
    have := pk_mul 8 k
    rw [show nI 8 = 8 from rfl] at this
    rw [this, nI_add]
  rw [e]
  exact ⟨vp_in_nI h (by omega), nI_clamp (by omega)⟩
theorem lit_in (n N : Nat) (h : n < N) (hN : N ≤ 100000) : vp_in (nI n) N ∧ (nI n).toNatClampNeg = n := ⟨vp_in_nI h (by omega), nI_clamp (by omega)⟩
section MOA
variable {G : GP} {M : Wd} {a : Nat → Nat} {v m ct my b s eb es : Nat → Int32} {L : Int64}
set_option maxRecDepth 20000 in
theorem m_within {x y z : Int64} : CtI G mX6_within [.long x, .long y, .long z] M 0 0 (fun r M' => r = (if y ≤ x ∧ x ≤ z then 1 else 0) ∧ M' = M) := by
  refine Ct.of (ls := [some (.long x), none, some (.long y), none, some (.long z), none]) (by decide) (by decide) rfl rfl rfl ?_
  refine Ev.lld0 dX6_within_0 ?_
  refine Ev.lld2 dX6_within_1 ?_
  refine Ev.lcmp dX6_within_2 ?_
  refine Ev.if_lt (tgt := 17) dX6_within_3 (by decide) (fun c3 => ?_) (fun c3 => ?_)
  · refine Ev.iconst (v := 0) dX6_within_17 (by decide) ?_
    refine Ev.iret dX6_within_18 rfl rfl ?_
    first | exact ⟨_, rfl, (if_neg (fun q => absurd ((lg_cmp_lt _ _).mp c3) (Int64.not_lt.mpr q.1))).symm, rfl⟩ | exact ⟨_, rfl, (if_neg (fun q => absurd ((lg_cmp_gt _ _).mp c10) (Int64.not_lt.mpr q.2))).symm, rfl⟩ | exact ⟨_, rfl, (if_pos ⟨Int64.not_lt.mp (fun q => c3 ((lg_cmp_lt _ _).mpr q)), Int64.not_lt.mp (fun q => c10 ((lg_cmp_gt _ _).mpr q))⟩).symm, rfl⟩
  · refine Ev.lld0 dX6_within_6 ?_
    refine Ev.lld4 dX6_within_7 ?_
    refine Ev.lcmp dX6_within_9 ?_
    refine Ev.if_gt (tgt := 17) dX6_within_10 (by decide) (fun c10 => ?_) (fun c10 => ?_)
    · refine Ev.iconst (v := 0) dX6_within_17 (by decide) ?_
      refine Ev.iret dX6_within_18 rfl rfl ?_
      first | exact ⟨_, rfl, (if_neg (fun q => absurd ((lg_cmp_lt _ _).mp c3) (Int64.not_lt.mpr q.1))).symm, rfl⟩ | exact ⟨_, rfl, (if_neg (fun q => absurd ((lg_cmp_gt _ _).mp c10) (Int64.not_lt.mpr q.2))).symm, rfl⟩ | exact ⟨_, rfl, (if_pos ⟨Int64.not_lt.mp (fun q => c3 ((lg_cmp_lt _ _).mpr q)), Int64.not_lt.mp (fun q => c10 ((lg_cmp_gt _ _).mpr q))⟩).symm, rfl⟩
    · refine Ev.iconst (v := 1) dX6_within_13 (by decide) ?_
      refine Ev.goto (tgt := 18) dX6_within_14 (by decide) ?_
      refine Ev.iret dX6_within_18 rfl rfl ?_
      first | exact ⟨_, rfl, (if_neg (fun q => absurd ((lg_cmp_lt _ _).mp c3) (Int64.not_lt.mpr q.1))).symm, rfl⟩ | exact ⟨_, rfl, (if_neg (fun q => absurd ((lg_cmp_gt _ _).mp c10) (Int64.not_lt.mpr q.2))).symm, rfl⟩ | exact ⟨_, rfl, (if_pos ⟨Int64.not_lt.mp (fun q => c3 ((lg_cmp_lt _ _).mpr q)), Int64.not_lt.mp (fun q => c10 ((lg_cmp_gt _ _).mpr q))⟩).symm, rfl⟩
/-- within, of ints -/
theorem m_withinI {x y z : Int32} : CtI G mX6_within [.long x.toInt64, .long y.toInt64, .long z.toInt64] M 0 0 (fun r M' => r = (if y ≤ x ∧ x ≤ z then 1 else 0) ∧ M' = M) := by
  refine Ct.mono m_within ?_
  rintro v M' ⟨r, rfl, hr, rfl⟩
  refine ⟨r, rfl, ?_, rfl⟩
  rw [hr]
  have e : ∀ p q : Int32, p.toInt64 ≤ q.toInt64 ↔ p ≤ q := fun p q => by rw [Int64.le_iff_toInt_le, Int32.le_iff_toInt_le, Int32.toInt_toInt64, Int32.toInt_toInt64]
  by_cases h : y ≤ x ∧ x ≤ z
  · rw [if_pos h, if_pos ⟨(e _ _).mpr h.1, (e _ _).mpr h.2⟩]
  · rw [if_neg h, if_neg (fun q => h ⟨(e _ _).mp q.1, (e _ _).mp q.2⟩)]
set_option maxRecDepth 20000 in
theorem m_of {o j : Int32} (k i : Nat) (ho : o = nI k) (hi : j = nI i) (h0 : gt M (a 0) = some (mo v L a)) (h1 : gt M (a 1) = some (ia 0 1189 m)) (hk : 8 * k + i < 1189) : CtI G mX6_of [.ref (a 0), .int o, .int j] M 0 0 (fun x M' => x = m (8 * k + i) ∧ M' = M) := by
  subst ho; subst hi
  have e := i8x hk (by omega)
  have b := e.1
  refine Ct.of (ls := [some (.ref (a 0)), some (.int (nI k)), some (.int (nI i))]) (by decide) (by decide) rfl rfl rfl ?_
  refine Ev.ald0 dX6_of_0 ?_
  apply Ev.getf dX6_of_1 fX6_13
  · repeat (first | assumption | (refine gt_upI ?_; (repeat (first | refine In_up ?_ | refine In_nw ?_)); apply In_of; assumption) | refine gt_rd (by first | assumption | (apply Ne.symm; assumption) | (exact hj _ _ (by omega) (by omega) (by omega)) | omega) ?_ | exact gt_nw (by assumption) | refine gt_odr (by first | assumption | (apply Ne.symm; assumption) | omega) ?_)
  · first | rfl | assumption
  refine Ev.bipush (v := 8) dX6_of_4 (by decide) ?_
  refine Ev.ild1 dX6_of_6 ?_
  refine Ev.imul dX6_of_7 ?_
  refine Ev.ild2 dX6_of_8 ?_
  refine Ev.iadd dX6_of_9 ?_
  apply Ev.iald dX6_of_10
  · repeat (first | assumption | (refine gt_upI ?_; (repeat (first | refine In_up ?_ | refine In_nw ?_)); apply In_of; assumption) | refine gt_rd (by first | assumption | (apply Ne.symm; assumption) | (exact hj _ _ (by omega) (by omega) (by omega)) | omega) ?_ | exact gt_nw (by assumption) | refine gt_odr (by first | assumption | (apply Ne.symm; assumption) | omega) ?_)
  · assumption
  rw [e.2]
  refine Ev.iret dX6_of_11 rfl rfl ?_
  exact ⟨_, rfl, rfl, rfl⟩
set_option maxRecDepth 20000 in
theorem m_isGone {o : Int32} (k : Nat) (ho : o = nI k) (h0 : gt M (a 0) = some (mo v L a)) (h1 : gt M (a 1) = some (ia 0 1189 m)) (hk : k < 148) : CtI G mX6_isGone [.ref (a 0), .int o] M 0 0 (fun x M' => x = (if m (8 * k + 7) = 1 then 1 else 0) ∧ M' = M) := by
  refine Ct.of (ls := [some (.ref (a 0)), some (.int o)]) (by decide) (by decide) rfl rfl rfl ?_
  refine Ev.ald0 dX6_isGone_0 ?_
  refine Ev.ild1 dX6_isGone_1 ?_
  refine Ev.bipush (v := 7) dX6_isGone_2 (by decide) ?_
  refine Ev.cvI (Yc := mX6_of) (ci := 6) dX6_isGone_4 lX6_201 vX6_of rfl (m_of k 7 ho rfl h0 h1 (by omega)) ?_ rfl rfl rfl rfl ?_
  · apply Exists.intro; repeat (first | assumption | (refine gt_upI ?_; (repeat (first | refine In_up ?_ | refine In_nw ?_)); apply In_of; assumption) | refine gt_rd (by first | assumption | (apply Ne.symm; assumption) | (exact hj _ _ (by omega) (by omega) (by omega)) | omega) ?_ | exact gt_nw (by assumption) | refine gt_odr (by first | assumption | (apply Ne.symm; assumption) | omega) ?_)
  rintro x M' ⟨hx, rfl⟩
  subst hx
  refine Ev.iconst (v := 1) dX6_isGone_7 (by decide) ?_
  refine Ev.icmp_ne (tgt := 15) dX6_isGone_8 (by decide) (fun c8 => ?_) (fun c8 => ?_)
  · refine Ev.iconst (v := 0) dX6_isGone_15 (by decide) ?_
    refine Ev.iret dX6_isGone_16 rfl rfl ?_
    first | exact ⟨_, rfl, (if_neg c8).symm, rfl⟩ | exact ⟨_, rfl, (if_pos c8).symm, rfl⟩
  · refine Ev.iconst (v := 1) dX6_isGone_11 (by decide) ?_
    refine Ev.goto (tgt := 16) dX6_isGone_12 (by decide) ?_
    refine Ev.iret dX6_isGone_16 rfl rfl ?_
    first | exact ⟨_, rfl, (if_neg c8).symm, rfl⟩ | exact ⟨_, rfl, (if_pos c8).symm, rfl⟩
set_option maxRecDepth 20000 in
theorem m_isOrder {o : Int32} (h0 : gt M (a 0) = some (mo v L a)) (h1 : gt M (a 1) = some (ia 0 1189 m)) : CtI G mX6_isOrder [.ref (a 0), .int o] M 0 0 (fun x M' => x = (if 0 ≤ o ∧ o < m 328 then 1 else 0) ∧ M' = M) := by
  have e := lit_in 328 1189 (by omega) (by omega)
  have b : vp_in (328 : Int32) 1189 := e.1
  have e2 : (328 : Int32).toNatClampNeg = 328 := e.2
  refine Ct.of (ls := [some (.ref (a 0)), some (.int o)]) (by decide) (by decide) rfl rfl rfl ?_
  refine Ev.ild1 dX6_isOrder_0 ?_
  refine Ev.if_lt (tgt := 20) dX6_isOrder_1 (by decide) (fun c1 => ?_) (fun c1 => ?_)
  · refine Ev.iconst (v := 0) dX6_isOrder_20 (by decide) ?_
    refine Ev.iret dX6_isOrder_21 rfl rfl ?_
    first | exact ⟨_, rfl, (if_neg (fun q => absurd c1 (Int32.not_lt.mpr q.1))).symm, rfl⟩ | exact ⟨_, rfl, (if_neg (fun q => absurd q.2 (Int32.not_lt.mpr c13))).symm, rfl⟩ | exact ⟨_, rfl, (if_pos ⟨Int32.not_lt.mp c1, Int32.not_le.mp c13⟩).symm, rfl⟩
  · refine Ev.ild1 dX6_isOrder_4 ?_
    refine Ev.ald0 dX6_isOrder_5 ?_
    apply Ev.getf dX6_isOrder_6 fX6_13
    · repeat (first | assumption | (refine gt_upI ?_; (repeat (first | refine In_up ?_ | refine In_nw ?_)); apply In_of; assumption) | refine gt_rd (by first | assumption | (apply Ne.symm; assumption) | (exact hj _ _ (by omega) (by omega) (by omega)) | omega) ?_ | exact gt_nw (by assumption) | refine gt_odr (by first | assumption | (apply Ne.symm; assumption) | omega) ?_)
    · first | rfl | assumption
    refine Ev.sipush (v := 328) dX6_isOrder_9 (by decide) ?_
    apply Ev.iald dX6_isOrder_12
    · repeat (first | assumption | (refine gt_upI ?_; (repeat (first | refine In_up ?_ | refine In_nw ?_)); apply In_of; assumption) | refine gt_rd (by first | assumption | (apply Ne.symm; assumption) | (exact hj _ _ (by omega) (by omega) (by omega)) | omega) ?_ | exact gt_nw (by assumption) | refine gt_odr (by first | assumption | (apply Ne.symm; assumption) | omega) ?_)
    · assumption
    rw [e2]
    refine Ev.icmp_ge (tgt := 20) dX6_isOrder_13 (by decide) (fun c13 => ?_) (fun c13 => ?_)
    · refine Ev.iconst (v := 0) dX6_isOrder_20 (by decide) ?_
      refine Ev.iret dX6_isOrder_21 rfl rfl ?_
      first | exact ⟨_, rfl, (if_neg (fun q => absurd c1 (Int32.not_lt.mpr q.1))).symm, rfl⟩ | exact ⟨_, rfl, (if_neg (fun q => absurd q.2 (Int32.not_lt.mpr c13))).symm, rfl⟩ | exact ⟨_, rfl, (if_pos ⟨Int32.not_lt.mp c1, Int32.not_le.mp c13⟩).symm, rfl⟩
    · refine Ev.iconst (v := 1) dX6_isOrder_16 (by decide) ?_
      refine Ev.goto (tgt := 21) dX6_isOrder_17 (by decide) ?_
      refine Ev.iret dX6_isOrder_21 rfl rfl ?_
      first | exact ⟨_, rfl, (if_neg (fun q => absurd c1 (Int32.not_lt.mpr q.1))).symm, rfl⟩ | exact ⟨_, rfl, (if_neg (fun q => absurd q.2 (Int32.not_lt.mpr c13))).symm, rfl⟩ | exact ⟨_, rfl, (if_pos ⟨Int32.not_lt.mp c1, Int32.not_le.mp c13⟩).symm, rfl⟩
set_option maxRecDepth 20000 in
theorem m_size {x : Int32} : CtI G mX6_size [.int x] M 0 0 (fun y M' => y = ab x ∧ M' = M) := by
  refine Ct.of (ls := [some (.int x)]) (by decide) (by decide) rfl rfl rfl ?_
  refine Ev.ild0 dX6_size_0 ?_
  refine Ev.if_ge (tgt := 9) dX6_size_1 (by decide) (fun c1 => ?_) (fun c1 => ?_)
  · refine Ev.ild0 dX6_size_9 ?_
    refine Ev.iret dX6_size_10 rfl rfl ?_
    first | exact ⟨_, rfl, (if_pos c1).symm, rfl⟩ | exact ⟨_, rfl, by rw [ab, if_neg c1]; exact (Int32.zero_sub _).symm, rfl⟩
  · refine Ev.ild0 dX6_size_4 ?_
    refine Ev.ineg dX6_size_5 ?_
    refine Ev.goto (tgt := 10) dX6_size_6 (by decide) ?_
    refine Ev.iret dX6_size_10 rfl rfl ?_
    first | exact ⟨_, rfl, (if_pos c1).symm, rfl⟩ | exact ⟨_, rfl, by rw [ab, if_neg c1]; exact (Int32.zero_sub _).symm, rfl⟩
set_option maxRecDepth 20000 in
theorem m_lesser {x y : Int32} : CtI G mX6_lesser [.int x, .int y] M 0 0 (fun z M' => z = mn x y ∧ M' = M) := by
  refine Ct.of (ls := [some (.int x), some (.int y)]) (by decide) (by decide) rfl rfl rfl ?_
  refine Ev.ild0 dX6_lesser_0 ?_
  refine Ev.ild1 dX6_lesser_1 ?_
  refine Ev.icmp_ge (tgt := 9) dX6_lesser_2 (by decide) (fun c2 => ?_) (fun c2 => ?_)
  · refine Ev.ild1 dX6_lesser_9 ?_
    refine Ev.iret dX6_lesser_10 rfl rfl ?_
    refine ⟨_, rfl, ?_, rfl⟩
    rw [mn]
    split
    · first | rfl | (rename_i q; exact absurd (Int32.lt_trans q (Int32.not_le.mp c2)) Int32.lt_irrefl)
    · first | rfl | (rename_i q; exact Int32.le_antisymm c2 (Int32.not_lt.mp q))
  · refine Ev.ild0 dX6_lesser_5 ?_
    refine Ev.goto (tgt := 10) dX6_lesser_6 (by decide) ?_
    refine Ev.iret dX6_lesser_10 rfl rfl ?_
    refine ⟨_, rfl, ?_, rfl⟩
    rw [mn]
    split
    · first | rfl | (rename_i q; exact absurd (Int32.lt_trans q (Int32.not_le.mp c2)) Int32.lt_irrefl)
    · first | rfl | (rename_i q; exact Int32.le_antisymm c2 (Int32.not_lt.mp q))
set_option maxRecDepth 20000 in
theorem m_overAt {x : Int32} (p : Nat) (hp : x = nI p) (h0 : gt M (a 0) = some (mo v L a)) (h24 : gt M (a 24) = some (ia 0 1001 b)) (h25 : gt M (a 25) = some (ia 0 1001 s)) (hl : p < 1001) : CtI G mX6_overAt [.ref (a 0), .int x] M 0 0 (fun y M' => y = b p - s p ∧ M' = M) := by
  subst hp
  have e := lit_in p 1001 hl (by omega)
  have bb := e.1
  refine Ct.of (ls := [some (.ref (a 0)), some (.int (nI p))]) (by decide) (by decide) rfl rfl rfl ?_
  refine Ev.ald0 dX6_overAt_0 ?_
  apply Ev.getf dX6_overAt_1 fX6_37
  · repeat (first | assumption | (refine gt_upI ?_; (repeat (first | refine In_up ?_ | refine In_nw ?_)); apply In_of; assumption) | refine gt_rd (by first | assumption | (apply Ne.symm; assumption) | (exact hj _ _ (by omega) (by omega) (by omega)) | omega) ?_ | exact gt_nw (by assumption) | refine gt_odr (by first | assumption | (apply Ne.symm; assumption) | omega) ?_)
  · first | rfl | assumption
  refine Ev.ild1 dX6_overAt_4 ?_
  apply Ev.iald dX6_overAt_5
  · repeat (first | assumption | (refine gt_upI ?_; (repeat (first | refine In_up ?_ | refine In_nw ?_)); apply In_of; assumption) | refine gt_rd (by first | assumption | (apply Ne.symm; assumption) | (exact hj _ _ (by omega) (by omega) (by omega)) | omega) ?_ | exact gt_nw (by assumption) | refine gt_odr (by first | assumption | (apply Ne.symm; assumption) | omega) ?_)
  · assumption
  refine Ev.ald0 dX6_overAt_6 ?_
  apply Ev.getf dX6_overAt_7 fX6_40
  · repeat (first | assumption | (refine gt_upI ?_; (repeat (first | refine In_up ?_ | refine In_nw ?_)); apply In_of; assumption) | refine gt_rd (by first | assumption | (apply Ne.symm; assumption) | (exact hj _ _ (by omega) (by omega) (by omega)) | omega) ?_ | exact gt_nw (by assumption) | refine gt_odr (by first | assumption | (apply Ne.symm; assumption) | omega) ?_)
  · first | rfl | assumption
  refine Ev.ild1 dX6_overAt_10 ?_
  apply Ev.iald dX6_overAt_11
  · repeat (first | assumption | (refine gt_upI ?_; (repeat (first | refine In_up ?_ | refine In_nw ?_)); apply In_of; assumption) | refine gt_rd (by first | assumption | (apply Ne.symm; assumption) | (exact hj _ _ (by omega) (by omega) (by omega)) | omega) ?_ | exact gt_nw (by assumption) | refine gt_odr (by first | assumption | (apply Ne.symm; assumption) | omega) ?_)
  · assumption
  refine Ev.isub dX6_overAt_12 ?_
  rw [e.2]
  refine Ev.iret dX6_overAt_13 rfl rfl ?_
  exact ⟨_, rfl, rfl, rfl⟩
set_option maxRecDepth 20000 in
theorem m_helpAt {x : Int32} (p : Nat) (hp : x = nI p) (h0 : gt M (a 0) = some (mo v L a)) (h24 : gt M (a 24) = some (ia 0 1001 b)) (h25 : gt M (a 25) = some (ia 0 1001 s)) (h26 : gt M (a 26) = some (ia 0 1001 eb)) (h27 : gt M (a 27) = some (ia 0 1001 es)) (hl : p < 1001) : CtI G mX6_helpAt [.ref (a 0), .int x] M 0 0 (fun y M' => y = hpf (b p, s p, eb p, es p) ∧ M' = M) := by
  have e := lit_in p 1001 hl (by omega)
  have bb : vp_in x 1001 := by rw [hp]; exact e.1
  have e2 : x.toNatClampNeg = p := by rw [hp]; exact e.2
  refine Ct.of (ls := [some (.ref (a 0)), some (.int x), none]) (by decide) (by decide) rfl rfl rfl ?_
  refine Ev.ald0 dX6_helpAt_0 ?_
  refine Ev.ild1 dX6_helpAt_1 ?_
  refine Ev.cvI (Yc := mX6_overAt) (ci := 6) dX6_helpAt_2 lX6_208 vX6_overAt rfl (m_overAt p hp h0 h24 h25 hl) ?_ rfl rfl rfl rfl ?_
  · apply Exists.intro; repeat (first | assumption | (refine gt_upI ?_; (repeat (first | refine In_up ?_ | refine In_nw ?_)); apply In_of; assumption) | refine gt_rd (by first | assumption | (apply Ne.symm; assumption) | (exact hj _ _ (by omega) (by omega) (by omega)) | omega) ?_ | exact gt_nw (by assumption) | refine gt_odr (by first | assumption | (apply Ne.symm; assumption) | omega) ?_)
  rintro o M' ⟨ho, rfl⟩
  subst ho
  refine Ev.ist2 dX6_helpAt_5 rfl rfl ?_
  refine Ev.ild2 dX6_helpAt_6 ?_
  refine Ev.if_le (tgt := 23) dX6_helpAt_7 (by decide) (fun c7 => ?_) (fun c7 => ?_)
  · refine Ev.ald0 dX6_helpAt_23 ?_
    apply Ev.getf dX6_helpAt_24 fX6_43
    · repeat (first | assumption | (refine gt_upI ?_; (repeat (first | refine In_up ?_ | refine In_nw ?_)); apply In_of; assumption) | refine gt_rd (by first | assumption | (apply Ne.symm; assumption) | (exact hj _ _ (by omega) (by omega) (by omega)) | omega) ?_ | exact gt_nw (by assumption) | refine gt_odr (by first | assumption | (apply Ne.symm; assumption) | omega) ?_)
    · first | rfl | assumption
    refine Ev.ild1 dX6_helpAt_27 ?_
    apply Ev.iald dX6_helpAt_28
    · repeat (first | assumption | (refine gt_upI ?_; (repeat (first | refine In_up ?_ | refine In_nw ?_)); apply In_of; assumption) | refine gt_rd (by first | assumption | (apply Ne.symm; assumption) | (exact hj _ _ (by omega) (by omega) (by omega)) | omega) ?_ | exact gt_nw (by assumption) | refine gt_odr (by first | assumption | (apply Ne.symm; assumption) | omega) ?_)
    · assumption
    rw [e2]
    refine Ev.ild2 dX6_helpAt_29 ?_
    refine Ev.ineg dX6_helpAt_30 ?_
    refine Ev.csI (Yc := mX6_lesser) dX6_helpAt_31 lX6_211 vX6_lesser rfl m_lesser rfl rfl rfl ?_
    rintro y M' ⟨hy, rfl⟩
    subst hy
    refine Ev.iret dX6_helpAt_34 rfl rfl ?_
    first | exact ⟨_, rfl, (if_pos c7).symm, rfl⟩ | exact ⟨_, rfl, (if_neg c7).symm, rfl⟩
  · refine Ev.ald0 dX6_helpAt_10 ?_
    apply Ev.getf dX6_helpAt_11 fX6_46
    · repeat (first | assumption | (refine gt_upI ?_; (repeat (first | refine In_up ?_ | refine In_nw ?_)); apply In_of; assumption) | refine gt_rd (by first | assumption | (apply Ne.symm; assumption) | (exact hj _ _ (by omega) (by omega) (by omega)) | omega) ?_ | exact gt_nw (by assumption) | refine gt_odr (by first | assumption | (apply Ne.symm; assumption) | omega) ?_)
    · first | rfl | assumption
    refine Ev.ild1 dX6_helpAt_14 ?_
    apply Ev.iald dX6_helpAt_15
    · repeat (first | assumption | (refine gt_upI ?_; (repeat (first | refine In_up ?_ | refine In_nw ?_)); apply In_of; assumption) | refine gt_rd (by first | assumption | (apply Ne.symm; assumption) | (exact hj _ _ (by omega) (by omega) (by omega)) | omega) ?_ | exact gt_nw (by assumption) | refine gt_odr (by first | assumption | (apply Ne.symm; assumption) | omega) ?_)
    · assumption
    rw [e2]
    refine Ev.ild2 dX6_helpAt_16 ?_
    refine Ev.csI (Yc := mX6_lesser) dX6_helpAt_17 lX6_211 vX6_lesser rfl m_lesser rfl rfl rfl ?_
    rintro y M' ⟨hy, rfl⟩
    subst hy
    refine Ev.goto (tgt := 34) dX6_helpAt_20 (by decide) ?_
    refine Ev.iret dX6_helpAt_34 rfl rfl ?_
    first | exact ⟨_, rfl, (if_pos c7).symm, rfl⟩ | exact ⟨_, rfl, (if_neg c7).symm, rfl⟩
set_option maxRecDepth 20000 in
theorem m_volumeAt {x : Int32} (p : Nat) (hp : x = nI p) (h0 : gt M (a 0) = some (mo v L a)) (h24 : gt M (a 24) = some (ia 0 1001 b)) (h25 : gt M (a 25) = some (ia 0 1001 s)) (h26 : gt M (a 26) = some (ia 0 1001 eb)) (h27 : gt M (a 27) = some (ia 0 1001 es)) (hl : p < 1001) : CtI G mX6_volumeAt [.ref (a 0), .int x] M 0 0 (fun y M' => y = vof (b p, s p, eb p, es p) ∧ M' = M) := by
  have e := lit_in p 1001 hl (by omega)
  have bb : vp_in x 1001 := by rw [hp]; exact e.1
  have e2 : x.toNatClampNeg = p := by rw [hp]; exact e.2
  refine Ct.of (ls := [some (.ref (a 0)), some (.int x)]) (by decide) (by decide) rfl rfl rfl ?_
  refine Ev.ald0 dX6_volumeAt_0 ?_
  apply Ev.getf dX6_volumeAt_1 fX6_37
  · repeat (first | assumption | (refine gt_upI ?_; (repeat (first | refine In_up ?_ | refine In_nw ?_)); apply In_of; assumption) | refine gt_rd (by first | assumption | (apply Ne.symm; assumption) | (exact hj _ _ (by omega) (by omega) (by omega)) | omega) ?_ | exact gt_nw (by assumption) | refine gt_odr (by first | assumption | (apply Ne.symm; assumption) | omega) ?_)
  · first | rfl | assumption
  refine Ev.ild1 dX6_volumeAt_4 ?_
  apply Ev.iald dX6_volumeAt_5
  · repeat (first | assumption | (refine gt_upI ?_; (repeat (first | refine In_up ?_ | refine In_nw ?_)); apply In_of; assumption) | refine gt_rd (by first | assumption | (apply Ne.symm; assumption) | (exact hj _ _ (by omega) (by omega) (by omega)) | omega) ?_ | exact gt_nw (by assumption) | refine gt_odr (by first | assumption | (apply Ne.symm; assumption) | omega) ?_)
  · assumption
  refine Ev.ald0 dX6_volumeAt_6 ?_
  apply Ev.getf dX6_volumeAt_7 fX6_40
  · repeat (first | assumption | (refine gt_upI ?_; (repeat (first | refine In_up ?_ | refine In_nw ?_)); apply In_of; assumption) | refine gt_rd (by first | assumption | (apply Ne.symm; assumption) | (exact hj _ _ (by omega) (by omega) (by omega)) | omega) ?_ | exact gt_nw (by assumption) | refine gt_odr (by first | assumption | (apply Ne.symm; assumption) | omega) ?_)
  · first | rfl | assumption
  refine Ev.ild1 dX6_volumeAt_10 ?_
  apply Ev.iald dX6_volumeAt_11
  · repeat (first | assumption | (refine gt_upI ?_; (repeat (first | refine In_up ?_ | refine In_nw ?_)); apply In_of; assumption) | refine gt_rd (by first | assumption | (apply Ne.symm; assumption) | (exact hj _ _ (by omega) (by omega) (by omega)) | omega) ?_ | exact gt_nw (by assumption) | refine gt_odr (by first | assumption | (apply Ne.symm; assumption) | omega) ?_)
  · assumption
  rw [e2]
  refine Ev.csI (Yc := mX6_lesser) dX6_volumeAt_12 lX6_211 vX6_lesser rfl m_lesser rfl rfl rfl ?_
  rintro y M' ⟨hy, rfl⟩
  subst hy
  refine Ev.ald0 dX6_volumeAt_15 ?_
  refine Ev.ild1 dX6_volumeAt_16 ?_
  refine Ev.cvI (Yc := mX6_helpAt) (ci := 6) dX6_volumeAt_17 lX6_214 vX6_helpAt rfl (m_helpAt p hp h0 h24 h25 h26 h27 hl) ?_ rfl rfl rfl rfl ?_
  · apply Exists.intro; repeat (first | assumption | (refine gt_upI ?_; (repeat (first | refine In_up ?_ | refine In_nw ?_)); apply In_of; assumption) | refine gt_rd (by first | assumption | (apply Ne.symm; assumption) | (exact hj _ _ (by omega) (by omega) (by omega)) | omega) ?_ | exact gt_nw (by assumption) | refine gt_odr (by first | assumption | (apply Ne.symm; assumption) | omega) ?_)
  rintro o M' ⟨ho, rfl⟩
  subst ho
  refine Ev.iadd dX6_volumeAt_20 ?_
  refine Ev.iret dX6_volumeAt_21 rfl rfl ?_
  exact ⟨_, rfl, rfl, rfl⟩
set_option maxRecDepth 20000 in
theorem m_restAt {x : Int32} (p : Nat) (hp : x = nI p) (h0 : gt M (a 0) = some (mo v L a)) (h24 : gt M (a 24) = some (ia 0 1001 b)) (h25 : gt M (a 25) = some (ia 0 1001 s)) (h26 : gt M (a 26) = some (ia 0 1001 eb)) (h27 : gt M (a 27) = some (ia 0 1001 es)) (hl : p < 1001) : CtI G mX6_restAt [.ref (a 0), .int x] M 0 0 (fun y M' => y = ref (b p, s p, eb p, es p) ∧ M' = M) := by
  refine Ct.of (ls := [some (.ref (a 0)), some (.int x), none]) (by decide) (by decide) rfl rfl rfl ?_
  refine Ev.ald0 dX6_restAt_0 ?_
  refine Ev.ild1 dX6_restAt_1 ?_
  refine Ev.cvI (Yc := mX6_overAt) (ci := 6) dX6_restAt_2 lX6_208 vX6_overAt rfl (m_overAt p hp h0 h24 h25 hl) ?_ rfl rfl rfl rfl ?_
  · apply Exists.intro; repeat (first | assumption | (refine gt_upI ?_; (repeat (first | refine In_up ?_ | refine In_nw ?_)); apply In_of; assumption) | refine gt_rd (by first | assumption | (apply Ne.symm; assumption) | (exact hj _ _ (by omega) (by omega) (by omega)) | omega) ?_ | exact gt_nw (by assumption) | refine gt_odr (by first | assumption | (apply Ne.symm; assumption) | omega) ?_)
  rintro o M' ⟨ho, rfl⟩
  subst ho
  refine Ev.ist2 dX6_restAt_5 rfl rfl ?_
  refine Ev.ild2 dX6_restAt_6 ?_
  refine Ev.if_le (tgt := 20) dX6_restAt_7 (by decide) (fun c7 => ?_) (fun c7 => ?_)
  · refine Ev.ild2 dX6_restAt_20 ?_
    refine Ev.ald0 dX6_restAt_21 ?_
    refine Ev.ild1 dX6_restAt_22 ?_
    refine Ev.cvI (Yc := mX6_helpAt) (ci := 6) dX6_restAt_23 lX6_214 vX6_helpAt rfl (m_helpAt p hp h0 h24 h25 h26 h27 hl) ?_ rfl rfl rfl rfl ?_
    · apply Exists.intro; repeat (first | assumption | (refine gt_upI ?_; (repeat (first | refine In_up ?_ | refine In_nw ?_)); apply In_of; assumption) | refine gt_rd (by first | assumption | (apply Ne.symm; assumption) | (exact hj _ _ (by omega) (by omega) (by omega)) | omega) ?_ | exact gt_nw (by assumption) | refine gt_odr (by first | assumption | (apply Ne.symm; assumption) | omega) ?_)
    rintro o M' ⟨ho, rfl⟩
    subst ho
    refine Ev.iadd dX6_restAt_26 ?_
    refine Ev.iret dX6_restAt_27 rfl rfl ?_
    first | exact ⟨_, rfl, (if_pos c7).symm, rfl⟩ | exact ⟨_, rfl, (if_neg c7).symm, rfl⟩
  · refine Ev.ild2 dX6_restAt_10 ?_
    refine Ev.ald0 dX6_restAt_11 ?_
    refine Ev.ild1 dX6_restAt_12 ?_
    refine Ev.cvI (Yc := mX6_helpAt) (ci := 6) dX6_restAt_13 lX6_214 vX6_helpAt rfl (m_helpAt p hp h0 h24 h25 h26 h27 hl) ?_ rfl rfl rfl rfl ?_
    · apply Exists.intro; repeat (first | assumption | (refine gt_upI ?_; (repeat (first | refine In_up ?_ | refine In_nw ?_)); apply In_of; assumption) | refine gt_rd (by first | assumption | (apply Ne.symm; assumption) | (exact hj _ _ (by omega) (by omega) (by omega)) | omega) ?_ | exact gt_nw (by assumption) | refine gt_odr (by first | assumption | (apply Ne.symm; assumption) | omega) ?_)
    rintro o M' ⟨ho, rfl⟩
    subst ho
    refine Ev.isub dX6_restAt_16 ?_
    refine Ev.goto (tgt := 27) dX6_restAt_17 (by decide) ?_
    refine Ev.iret dX6_restAt_27 rfl rfl ?_
    first | exact ⟨_, rfl, (if_pos c7).symm, rfl⟩ | exact ⟨_, rfl, (if_neg c7).symm, rfl⟩
set_option maxRecDepth 20000 in
theorem m_isWilling {o p : Int32} (k : Nat) (ho : o = nI k) (h0 : gt M (a 0) = some (mo v L a)) (h1 : gt M (a 1) = some (ia 0 1189 m)) (h22 : gt M (a 22) = some (ia 2 41 ct)) (hk : k < 41) : CtI G mX6_isWilling [.ref (a 0), .int o, .int p] M 0 0 (fun x M' => x = (if ct k ≠ 0 ∧ (m (8 * k + 1) = 0 ∨ (m (8 * k + 0) = 0 ∧ p ≤ m (8 * k + 3) ∨ m (8 * k + 0) ≠ 0 ∧ m (8 * k + 3) ≤ p)) then 1 else 0) ∧ M' = M) := by
  have e := lit_in k 41 hk (by omega)
  have bb : vp_in o 41 := by rw [ho]; exact e.1
  have e2 : o.toNatClampNeg = k := by rw [ho]; exact e.2
  refine Ct.of (ls := [some (.ref (a 0)), some (.int o), some (.int p), none]) (by decide) (by decide) rfl rfl rfl ?_
  refine Ev.ald0 dX6_isWilling_0 ?_
  refine Ev.ild1 dX6_isWilling_1 ?_
  refine Ev.iconst (v := 1) dX6_isWilling_2 (by decide) ?_
  refine Ev.cvI (Yc := mX6_of) (ci := 6) dX6_isWilling_3 lX6_201 vX6_of rfl (m_of k 1 ho rfl h0 h1 (by omega)) ?_ rfl rfl rfl rfl ?_
  · apply Exists.intro; repeat (first | assumption | (refine gt_upI ?_; (repeat (first | refine In_up ?_ | refine In_nw ?_)); apply In_of; assumption) | refine gt_rd (by first | assumption | (apply Ne.symm; assumption) | (exact hj _ _ (by omega) (by omega) (by omega)) | omega) ?_ | exact gt_nw (by assumption) | refine gt_odr (by first | assumption | (apply Ne.symm; assumption) | omega) ?_)
  rintro x M' ⟨hx, rfl⟩
  subst hx
  refine Ev.ist3 dX6_isWilling_6 rfl rfl ?_
  refine Ev.ald0 dX6_isWilling_7 ?_
  apply Ev.getf dX6_isWilling_8 fX6_30
  · repeat (first | assumption | (refine gt_upI ?_; (repeat (first | refine In_up ?_ | refine In_nw ?_)); apply In_of; assumption) | refine gt_rd (by first | assumption | (apply Ne.symm; assumption) | (exact hj _ _ (by omega) (by omega) (by omega)) | omega) ?_ | exact gt_nw (by assumption) | refine gt_odr (by first | assumption | (apply Ne.symm; assumption) | omega) ?_)
  · first | rfl | assumption
  refine Ev.ild1 dX6_isWilling_11 ?_
  apply Ev.zald dX6_isWilling_12
  · repeat (first | assumption | (refine gt_upI ?_; (repeat (first | refine In_up ?_ | refine In_nw ?_)); apply In_of; assumption) | refine gt_rd (by first | assumption | (apply Ne.symm; assumption) | (exact hj _ _ (by omega) (by omega) (by omega)) | omega) ?_ | exact gt_nw (by assumption) | refine gt_odr (by first | assumption | (apply Ne.symm; assumption) | omega) ?_)
  · assumption
  rw [e2]
  refine Ev.if_eq (tgt := 56) dX6_isWilling_13 (by decide) (fun c13 => ?_) (fun c13 => ?_)
  · refine Ev.iconst (v := 0) dX6_isWilling_56 (by decide) ?_
    refine Ev.iret dX6_isWilling_57 rfl rfl ?_
    exact ⟨_, rfl, by grind, rfl⟩
  · refine Ev.ild3 dX6_isWilling_16 ?_
    refine Ev.if_eq (tgt := 52) dX6_isWilling_17 (by decide) (fun c17 => ?_) (fun c17 => ?_)
    · refine Ev.iconst (v := 1) dX6_isWilling_52 (by decide) ?_
      refine Ev.goto (tgt := 57) dX6_isWilling_53 (by decide) ?_
      refine Ev.iret dX6_isWilling_57 rfl rfl ?_
      exact ⟨_, rfl, by grind, rfl⟩
    · refine Ev.ald0 dX6_isWilling_20 ?_
      refine Ev.ild1 dX6_isWilling_21 ?_
      refine Ev.iconst (v := 0) dX6_isWilling_22 (by decide) ?_
      refine Ev.cvI (Yc := mX6_of) (ci := 6) dX6_isWilling_23 lX6_201 vX6_of rfl (m_of k 0 ho rfl h0 h1 (by omega)) ?_ rfl rfl rfl rfl ?_
      · apply Exists.intro; repeat (first | assumption | (refine gt_upI ?_; (repeat (first | refine In_up ?_ | refine In_nw ?_)); apply In_of; assumption) | refine gt_rd (by first | assumption | (apply Ne.symm; assumption) | (exact hj _ _ (by omega) (by omega) (by omega)) | omega) ?_ | exact gt_nw (by assumption) | refine gt_odr (by first | assumption | (apply Ne.symm; assumption) | omega) ?_)
      rintro x M' ⟨hx, rfl⟩
      subst hx
      refine Ev.if_ne (tgt := 42) dX6_isWilling_26 (by decide) (fun c26 => ?_) (fun c26 => ?_)
      · refine Ev.ald0 dX6_isWilling_42 ?_
        refine Ev.ild1 dX6_isWilling_43 ?_
        refine Ev.iconst (v := 3) dX6_isWilling_44 (by decide) ?_
        refine Ev.cvI (Yc := mX6_of) (ci := 6) dX6_isWilling_45 lX6_201 vX6_of rfl (m_of k 3 ho rfl h0 h1 (by omega)) ?_ rfl rfl rfl rfl ?_
        · apply Exists.intro; repeat (first | assumption | (refine gt_upI ?_; (repeat (first | refine In_up ?_ | refine In_nw ?_)); apply In_of; assumption) | refine gt_rd (by first | assumption | (apply Ne.symm; assumption) | (exact hj _ _ (by omega) (by omega) (by omega)) | omega) ?_ | exact gt_nw (by assumption) | refine gt_odr (by first | assumption | (apply Ne.symm; assumption) | omega) ?_)
        rintro x M' ⟨hx, rfl⟩
        subst hx
        refine Ev.ild2 dX6_isWilling_48 ?_
        refine Ev.icmp_gt (tgt := 56) dX6_isWilling_49 (by decide) (fun c49 => ?_) (fun c49 => ?_)
        · refine Ev.iconst (v := 0) dX6_isWilling_56 (by decide) ?_
          refine Ev.iret dX6_isWilling_57 rfl rfl ?_
          exact ⟨_, rfl, by grind, rfl⟩
        · refine Ev.iconst (v := 1) dX6_isWilling_52 (by decide) ?_
          refine Ev.goto (tgt := 57) dX6_isWilling_53 (by decide) ?_
          refine Ev.iret dX6_isWilling_57 rfl rfl ?_
          exact ⟨_, rfl, by grind, rfl⟩
      · refine Ev.ald0 dX6_isWilling_29 ?_
        refine Ev.ild1 dX6_isWilling_30 ?_
        refine Ev.iconst (v := 3) dX6_isWilling_31 (by decide) ?_
        refine Ev.cvI (Yc := mX6_of) (ci := 6) dX6_isWilling_32 lX6_201 vX6_of rfl (m_of k 3 ho rfl h0 h1 (by omega)) ?_ rfl rfl rfl rfl ?_
        · apply Exists.intro; repeat (first | assumption | (refine gt_upI ?_; (repeat (first | refine In_up ?_ | refine In_nw ?_)); apply In_of; assumption) | refine gt_rd (by first | assumption | (apply Ne.symm; assumption) | (exact hj _ _ (by omega) (by omega) (by omega)) | omega) ?_ | exact gt_nw (by assumption) | refine gt_odr (by first | assumption | (apply Ne.symm; assumption) | omega) ?_)
        rintro x M' ⟨hx, rfl⟩
        subst hx
        refine Ev.ild2 dX6_isWilling_35 ?_
        refine Ev.icmp_lt (tgt := 56) dX6_isWilling_36 (by decide) (fun c36 => ?_) (fun c36 => ?_)
        · refine Ev.iconst (v := 0) dX6_isWilling_56 (by decide) ?_
          refine Ev.iret dX6_isWilling_57 rfl rfl ?_
          exact ⟨_, rfl, by grind, rfl⟩
        · refine Ev.goto (tgt := 52) dX6_isWilling_39 (by decide) ?_
          refine Ev.iconst (v := 1) dX6_isWilling_52 (by decide) ?_
          refine Ev.goto (tgt := 57) dX6_isWilling_53 (by decide) ?_
          refine Ev.iret dX6_isWilling_57 rfl rfl ?_
          exact ⟨_, rfl, by grind, rfl⟩
end MOA
