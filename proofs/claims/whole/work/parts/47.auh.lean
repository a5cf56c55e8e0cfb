/-! what is asked of a cross: slices, trades, owners, gain -/
theorem ix3 {k j n : Nat} (h : 3 * k + j < n) (hn : n ≤ 100000) : vp_in (nI k * 3 + nI j) n ∧ (nI k * 3 + nI j).toNatClampNeg = 3 * k + j := by
  have e : nI k * 3 + nI j = nI (3 * k + j) := by
    have := pk_mul k 3
    rw [show nI 3 = 3 from rfl] at this
    rw [this, nI_add, Nat.mul_comm]
  rw [e]
  exact ⟨vp_in_nI h (by omega), nI_clamp (by omega)⟩
theorem n3 (n : Nat) : nI n * 3 = nI (3 * n) := by
  have := pk_mul n 3
  rw [show nI 3 = 3 from rfl, Nat.mul_comm] at this
  exact this
def wl (f : Nat → Int32) (o : Nat) (p : Int32) : Prop := f (8 * o + 1) = 0 ∨ (f (8 * o + 0) = 0 ∧ p ≤ f (8 * o + 3) ∨ f (8 * o + 0) ≠ 0 ∧ f (8 * o + 3) ≤ p)
noncomputable def cts (f s : Nat → Int32) (p : Int32) : Nat → Int32
  | 0 => 0
  | i + 1 => cts f s p i + (if f (8 * nb (s i) + 1) = 0 ∨ (f (8 * nb (s i) + 0) = 0 ∧ p ≤ f (8 * nb (s i) + 3) ∨ f (8 * nb (s i) + 0) ≠ 0 ∧ f (8 * nb (s i) + 3) ≤ p) then 1 else 0)
noncomputable def fds (f s : Nat → Int32) (p wt : Int32) : Nat → Nat → Int32 → Int32
  | 0, _, _ => -1
  | e + 1, i, c => if f (8 * nb (s i) + 1) = 0 ∨ (f (8 * nb (s i) + 0) = 0 ∧ p ≤ f (8 * nb (s i) + 3) ∨ f (8 * nb (s i) + 0) ≠ 0 ∧ f (8 * nb (s i) + 3) ≤ p) then (if c = wt then s i else fds f s p wt e (i + 1) (c + 1)) else fds f s p wt e (i + 1) c
noncomputable def fof (f fl : Nat → Int32) (ow sd : Int32) : Nat → Int32
  | 0 => 0
  | k + 1 => fof f fl ow sd k + (if f (8 * k + 6) = ow ∧ f (8 * k + 0) = sd then fl k else 0)
noncomputable def twn (f tr : Nat → Int32) (ow : Int32) : Nat → Int32
  | 0 => 0
  | k + 1 => twn f tr ow k + (if f (8 * (tr (3 * k + 0)).toNatClampNeg + 6) = ow ∧ f (8 * (tr (3 * k + 1)).toNatClampNeg + 6) = ow then tr (3 * k + 2) else 0)
noncomputable def gnd (f fl : Nat → Int32) (pr : Int32) : Nat → Int64
  | 0 => 0
  | k + 1 => gnd f fl pr k + (if f (8 * k + 1) = 0 then 0 else (fl k).toInt64 * (if f (8 * k + 0) = 0 then -(pr - f (8 * k + 3)) else pr - f (8 * k + 3)).toInt64)
section AUH
variable {G : GP} {M : Wd} {ad : Nat → Nat} {so po : Nat → Option Nat} {z n r w tc : Nat} {f sa fl cn s tr g : Nat → Int32} {i1 i2 i3 i4 ph rf lo hi : Int32}
set_option maxRecDepth 20000 in
theorem a_tradePart {o j : Int32} (k i : Nat) (ho : o = nI k) (hji : j = nI i) (h3 : gt M (ad 3) = some (auc ad i1 i2 i3 i4)) (h6 : gt M (ad 6) = some (ia 0 246 tr)) (hk : 3 * k + i < 246) : CtI G mX0_tradePart [.ref (ad 3), .int o, .int j] M 0 0 (fun x M' => x = tr (3 * k + i) ∧ M' = M) := by
  subst ho; subst hji
  have e := ix3 hk (by omega)
  have b := e.1
  refine Ct.of (ls := [some (.ref (ad 3)), some (.int (nI k)), some (.int (nI i))]) (by decide) (by decide) rfl rfl rfl ?_
  refine Ev.ald0 dX0_tradePart_0 ?_
  apply Ev.getf dX0_tradePart_1 fX0_39
  · repeat (first | assumption | (refine gt_upI ?_; (repeat (first | refine In_up ?_ | refine In_nw ?_)); apply In_of; assumption) | refine gt_rd (by first | assumption | (apply Ne.symm; assumption) | (exact hj _ _ (by omega) (by omega) (by omega)) | omega) ?_ | exact gt_nw (by assumption) | refine gt_odr (by first | assumption | (apply Ne.symm; assumption) | omega) ?_)
  · first | rfl | assumption
  refine Ev.ild1 dX0_tradePart_4 ?_
  refine Ev.iconst (v := 3) dX0_tradePart_5 (by decide) ?_
  refine Ev.imul dX0_tradePart_6 ?_
  refine Ev.ild2 dX0_tradePart_7 ?_
  refine Ev.iadd dX0_tradePart_8 ?_
  apply Ev.iald dX0_tradePart_9
  · repeat (first | assumption | (refine gt_upI ?_; (repeat (first | refine In_up ?_ | refine In_nw ?_)); apply In_of; assumption) | refine gt_rd (by first | assumption | (apply Ne.symm; assumption) | (exact hj _ _ (by omega) (by omega) (by omega)) | omega) ?_ | exact gt_nw (by assumption) | refine gt_odr (by first | assumption | (apply Ne.symm; assumption) | omega) ?_)
  · assumption
  rw [e.2]
  refine Ev.iret dX0_tradePart_10 rfl rfl ?_
  exact ⟨_, rfl, rfl, rfl⟩
set_option maxRecDepth 20000 in
theorem a_filledOf {ow sd : Int32} (h3 : gt M (ad 3) = some (auc ad i1 i2 i3 i4)) (h2 : gt M (ad 2) = some (ia 0 41 fl)) (h13 : gt M (ad 13) = some (bk r w n ph rf lo hi)) (h14 : gt M (ad 14) = some (ia 0 z f)) (hn : n ≤ 41) (hz : 8 * n ≤ z) (hz2 : z ≤ 100000) : CtI G mX0_filledOf [.ref (ad 3), .int ow, .int sd] M 0 0 (fun x M' => x = fof f fl ow sd n ∧ M' = M) := by
  have L : ∀ d k a5, k + d = n → Ev G mX0_filledOf 5 [some (.ref (ad 3)), some (.int ow), some (.int sd), some (.int (fof f fl ow sd k)), some (.int (nI k)), a5] [] M 0 0 (fun v M' => ∃ x, v = some (.int x) ∧ x = fof f fl ow sd n ∧ M' = M) := by
    intro d
    induction d with
    | zero =>
      intro k a5 hk
      refine Ev.ild4 dX0_filledOf_5 ?_
      refine Ev.ald0 dX0_filledOf_7 ?_
      apply Ev.getf dX0_filledOf_8 fX0_62
      · repeat (first | assumption | (refine gt_upI ?_; (repeat (first | refine In_up ?_ | refine In_nw ?_)); apply In_of; assumption) | refine gt_rd (by first | assumption | (apply Ne.symm; assumption) | (exact hj _ _ (by omega) (by omega) (by omega)) | omega) ?_ | exact gt_nw (by assumption) | refine gt_odr (by first | assumption | (apply Ne.symm; assumption) | omega) ?_)
      · first | rfl | assumption
      apply Ev.getf dX0_filledOf_11 fX0_72
      · repeat (first | assumption | (refine gt_upI ?_; (repeat (first | refine In_up ?_ | refine In_nw ?_)); apply In_of; assumption) | refine gt_rd (by first | assumption | (apply Ne.symm; assumption) | (exact hj _ _ (by omega) (by omega) (by omega)) | omega) ?_ | exact gt_nw (by assumption) | refine gt_odr (by first | assumption | (apply Ne.symm; assumption) | omega) ?_)
      · first | rfl | assumption
      refine Ev.icmp_ge (tgt := 72) dX0_filledOf_14 (by decide) (fun c9 => ?_) (fun c9 => absurd (nI_le (by omega) (by omega)) c9)
      refine Ev.ild3 dX0_filledOf_72 ?_
      refine Ev.iret dX0_filledOf_73 rfl rfl ?_
      exact ⟨_, rfl, by rw [show k = n by omega], rfl⟩
    | succ d ih =>
      intro k a5 hk
      have e := nI_clamp (n := k) (by omega)
      have b : vp_in (nI k) 41 := vp_in_nI (by omega) (by omega)
      refine Ev.ild4 dX0_filledOf_5 ?_
      refine Ev.ald0 dX0_filledOf_7 ?_
      apply Ev.getf dX0_filledOf_8 fX0_62
      · repeat (first | assumption | (refine gt_upI ?_; (repeat (first | refine In_up ?_ | refine In_nw ?_)); apply In_of; assumption) | refine gt_rd (by first | assumption | (apply Ne.symm; assumption) | (exact hj _ _ (by omega) (by omega) (by omega)) | omega) ?_ | exact gt_nw (by assumption) | refine gt_odr (by first | assumption | (apply Ne.symm; assumption) | omega) ?_)
      · first | rfl | assumption
      apply Ev.getf dX0_filledOf_11 fX0_72
      · repeat (first | assumption | (refine gt_upI ?_; (repeat (first | refine In_up ?_ | refine In_nw ?_)); apply In_of; assumption) | refine gt_rd (by first | assumption | (apply Ne.symm; assumption) | (exact hj _ _ (by omega) (by omega) (by omega)) | omega) ?_ | exact gt_nw (by assumption) | refine gt_odr (by first | assumption | (apply Ne.symm; assumption) | omega) ?_)
      · first | rfl | assumption
      refine Ev.icmp_ge (tgt := 72) dX0_filledOf_14 (by decide) (fun c9 => absurd c9 (nI_ge (by omega) (by omega))) (fun c9 => ?_)
      have J : ∀ v : Int32, v = (if f (8 * k + 6) = ow ∧ f (8 * k + 0) = sd then 1 else 0) → Ev G mX0_filledOf 45 [some (.ref (ad 3)), some (.int ow), some (.int sd), some (.int (fof f fl ow sd k)), some (.int (nI k)), a5] [.int v] M 0 0 (fun v M' => ∃ x, v = some (.int x) ∧ x = fof f fl ow sd n ∧ M' = M) := by
        intro v hv
        refine Ev.ist5 dX0_filledOf_45 rfl rfl ?_
        refine Ev.ild3 dX0_filledOf_47 ?_
        refine Ev.ild5 dX0_filledOf_48 ?_
        refine Ev.if_eq (tgt := 63) dX0_filledOf_50 (by decide) (fun c50 => ?_) (fun c50 => ?_)
        · refine Ev.iconst (v := 0) dX0_filledOf_63 (by decide) ?_
          refine Ev.iadd dX0_filledOf_64 ?_
          refine Ev.ist3 dX0_filledOf_65 rfl rfl ?_
          apply Ev.iinc4 dX0_filledOf_66 rfl rfl
          · first | exact nI_inc _ | rfl
          refine Ev.goto (tgt := 5) dX0_filledOf_69 (by decide) ?_
          first | exact Ev.cg (by rw [fof, if_neg (v01_f hv c50)]) (ih (k + 1) (some (.int v)) (by omega)) | exact Ev.cg (by rw [fof, if_pos (v01_t hv c50)]) (ih (k + 1) (some (.int v)) (by omega))
        · refine Ev.ald0 dX0_filledOf_53 ?_
          apply Ev.getf dX0_filledOf_54 fX0_25
          · repeat (first | assumption | (refine gt_upI ?_; (repeat (first | refine In_up ?_ | refine In_nw ?_)); apply In_of; assumption) | refine gt_rd (by first | assumption | (apply Ne.symm; assumption) | (exact hj _ _ (by omega) (by omega) (by omega)) | omega) ?_ | exact gt_nw (by assumption) | refine gt_odr (by first | assumption | (apply Ne.symm; assumption) | omega) ?_)
          · first | rfl | assumption
          refine Ev.ild4 dX0_filledOf_57 ?_
          apply Ev.iald dX0_filledOf_59
          · repeat (first | assumption | (refine gt_upI ?_; (repeat (first | refine In_up ?_ | refine In_nw ?_)); apply In_of; assumption) | refine gt_rd (by first | assumption | (apply Ne.symm; assumption) | (exact hj _ _ (by omega) (by omega) (by omega)) | omega) ?_ | exact gt_nw (by assumption) | refine gt_odr (by first | assumption | (apply Ne.symm; assumption) | omega) ?_)
          · assumption
          rw [e]
          refine Ev.goto (tgt := 64) dX0_filledOf_60 (by decide) ?_
          refine Ev.iadd dX0_filledOf_64 ?_
          refine Ev.ist3 dX0_filledOf_65 rfl rfl ?_
          apply Ev.iinc4 dX0_filledOf_66 rfl rfl
          · first | exact nI_inc _ | rfl
          refine Ev.goto (tgt := 5) dX0_filledOf_69 (by decide) ?_
          first | exact Ev.cg (by rw [fof, if_neg (v01_f hv c50)]) (ih (k + 1) (some (.int v)) (by omega)) | exact Ev.cg (by rw [fof, if_pos (v01_t hv c50)]) (ih (k + 1) (some (.int v)) (by omega))
      refine Ev.ald0 dX0_filledOf_17 ?_
      refine Ev.ild4 dX0_filledOf_18 ?_
      refine Ev.bipush (v := 6) dX0_filledOf_20 (by decide) ?_
      refine Ev.cvI (Yc := mX0_get) (ci := 0) dX0_filledOf_22 lX0_86 vX0_get rfl (a_get k 6 rfl rfl h3 rfl h14 (by omega) hz2) ?_ rfl rfl rfl rfl ?_
      · apply Exists.intro; repeat (first | assumption | (refine gt_upI ?_; (repeat (first | refine In_up ?_ | refine In_nw ?_)); apply In_of; assumption) | refine gt_rd (by first | assumption | (apply Ne.symm; assumption) | (exact hj _ _ (by omega) (by omega) (by omega)) | omega) ?_ | exact gt_nw (by assumption) | refine gt_odr (by first | assumption | (apply Ne.symm; assumption) | omega) ?_)
      rintro y M' ⟨hy, rfl⟩
      subst hy
      refine Ev.ild1 dX0_filledOf_25 ?_
      refine Ev.icmp_ne (tgt := 44) dX0_filledOf_26 (by decide) (fun c26 => ?_) (fun c26 => ?_)
      · refine Ev.iconst (v := 0) dX0_filledOf_44 (by decide) ?_
        first | exact J 0 (if_neg (fun q => c26 q.1)).symm | exact J 0 (if_neg (fun q => c37 q.2)).symm | exact J 1 (if_pos ⟨c26, c37⟩).symm
      · refine Ev.ald0 dX0_filledOf_29 ?_
        refine Ev.ild4 dX0_filledOf_30 ?_
        refine Ev.iconst (v := 0) dX0_filledOf_32 (by decide) ?_
        refine Ev.cvI (Yc := mX0_get) (ci := 0) dX0_filledOf_33 lX0_86 vX0_get rfl (a_get k 0 rfl rfl h3 rfl h14 (by omega) hz2) ?_ rfl rfl rfl rfl ?_
        · apply Exists.intro; repeat (first | assumption | (refine gt_upI ?_; (repeat (first | refine In_up ?_ | refine In_nw ?_)); apply In_of; assumption) | refine gt_rd (by first | assumption | (apply Ne.symm; assumption) | (exact hj _ _ (by omega) (by omega) (by omega)) | omega) ?_ | exact gt_nw (by assumption) | refine gt_odr (by first | assumption | (apply Ne.symm; assumption) | omega) ?_)
        rintro y M' ⟨hy, rfl⟩
        subst hy
        refine Ev.ild2 dX0_filledOf_36 ?_
        refine Ev.icmp_ne (tgt := 44) dX0_filledOf_37 (by decide) (fun c37 => ?_) (fun c37 => ?_)
        · refine Ev.iconst (v := 0) dX0_filledOf_44 (by decide) ?_
          first | exact J 0 (if_neg (fun q => c26 q.1)).symm | exact J 0 (if_neg (fun q => c37 q.2)).symm | exact J 1 (if_pos ⟨c26, c37⟩).symm
        · refine Ev.iconst (v := 1) dX0_filledOf_40 (by decide) ?_
          refine Ev.goto (tgt := 45) dX0_filledOf_41 (by decide) ?_
          first | exact J 0 (if_neg (fun q => c26 q.1)).symm | exact J 0 (if_neg (fun q => c37 q.2)).symm | exact J 1 (if_pos ⟨c26, c37⟩).symm
  refine Ct.of (ls := [some (.ref (ad 3)), some (.int ow), some (.int sd), none, none, none]) (by decide) (by decide) rfl rfl rfl ?_
  refine Ev.iconst (v := 0) dX0_filledOf_0 (by decide) ?_
  refine Ev.ist3 dX0_filledOf_1 rfl rfl ?_
  refine Ev.iconst (v := 0) dX0_filledOf_2 (by decide) ?_
  refine Ev.ist4 dX0_filledOf_3 rfl rfl ?_
  exact L n 0 _ (by omega)
set_option maxRecDepth 20000 in
theorem a_gained (h3 : gt M (ad 3) = some (auc ad i1 i2 i3 i4)) (h1 : gt M (ad 1) = some (cc g)) (h2 : gt M (ad 2) = some (ia 0 41 fl)) (h13 : gt M (ad 13) = some (bk r w n ph rf lo hi)) (h14 : gt M (ad 14) = some (ia 0 z f)) (hn : n ≤ 41) (hz : 8 * n ≤ z) (hz2 : z ≤ 100000) : CtL G mX0_gained [.ref (ad 3)] M 0 0 (fun x M' => x = gnd f fl (g 0) n ∧ M' = M) := by
  have L : ∀ d k a4 a5, k + d = n → Ev G mX0_gained 4 [some (.ref (ad 3)), some (.long (gnd f fl (g 0) k)), none, some (.int (nI k)), a4, a5] [] M 0 0 (fun v M' => ∃ x, v = some (.long x) ∧ x = gnd f fl (g 0) n ∧ M' = M) := by
    intro d
    induction d with
    | zero =>
      intro k a4 a5 hk
      refine Ev.ild3 dX0_gained_4 ?_
      refine Ev.ald0 dX0_gained_5 ?_
      apply Ev.getf dX0_gained_6 fX0_62
      · repeat (first | assumption | (refine gt_upI ?_; (repeat (first | refine In_up ?_ | refine In_nw ?_)); apply In_of; assumption) | refine gt_rd (by first | assumption | (apply Ne.symm; assumption) | (exact hj _ _ (by omega) (by omega) (by omega)) | omega) ?_ | exact gt_nw (by assumption) | refine gt_odr (by first | assumption | (apply Ne.symm; assumption) | omega) ?_)
      · first | rfl | assumption
      apply Ev.getf dX0_gained_9 fX0_72
      · repeat (first | assumption | (refine gt_upI ?_; (repeat (first | refine In_up ?_ | refine In_nw ?_)); apply In_of; assumption) | refine gt_rd (by first | assumption | (apply Ne.symm; assumption) | (exact hj _ _ (by omega) (by omega) (by omega)) | omega) ?_ | exact gt_nw (by assumption) | refine gt_odr (by first | assumption | (apply Ne.symm; assumption) | omega) ?_)
      · first | rfl | assumption
      refine Ev.icmp_ge (tgt := 83) dX0_gained_12 (by decide) (fun c9 => ?_) (fun c9 => absurd (nI_le (by omega) (by omega)) c9)
      refine Ev.lld1 dX0_gained_83 ?_
      refine Ev.lret dX0_gained_84 rfl ?_
      exact ⟨_, rfl, by rw [show k = n by omega], rfl⟩
    | succ d ih =>
      intro k a4 a5 hk
      have e := nI_clamp (n := k) (by omega)
      have b : vp_in (nI k) 41 := vp_in_nI (by omega) (by omega)
      refine Ev.ild3 dX0_gained_4 ?_
      refine Ev.ald0 dX0_gained_5 ?_
      apply Ev.getf dX0_gained_6 fX0_62
      · repeat (first | assumption | (refine gt_upI ?_; (repeat (first | refine In_up ?_ | refine In_nw ?_)); apply In_of; assumption) | refine gt_rd (by first | assumption | (apply Ne.symm; assumption) | (exact hj _ _ (by omega) (by omega) (by omega)) | omega) ?_ | exact gt_nw (by assumption) | refine gt_odr (by first | assumption | (apply Ne.symm; assumption) | omega) ?_)
      · first | rfl | assumption
      apply Ev.getf dX0_gained_9 fX0_72
      · repeat (first | assumption | (refine gt_upI ?_; (repeat (first | refine In_up ?_ | refine In_nw ?_)); apply In_of; assumption) | refine gt_rd (by first | assumption | (apply Ne.symm; assumption) | (exact hj _ _ (by omega) (by omega) (by omega)) | omega) ?_ | exact gt_nw (by assumption) | refine gt_odr (by first | assumption | (apply Ne.symm; assumption) | omega) ?_)
      · first | rfl | assumption
      refine Ev.icmp_ge (tgt := 83) dX0_gained_12 (by decide) (fun c9 => absurd c9 (nI_ge (by omega) (by omega))) (fun c9 => ?_)
      have J : ∀ v a4 : Int32, v = (if f (8 * k + 0) = 0 then -(g 0 - f (8 * k + 3)) else g 0 - f (8 * k + 3)) → Ev G mX0_gained 48 [some (.ref (ad 3)), some (.long (gnd f fl (g 0) k)), none, some (.int (nI k)), some (.int a4), a5] [.int v] M 0 0 (fun v M' => ∃ x, v = some (.long x) ∧ x = gnd f fl (g 0) n ∧ M' = M) := by
        intro v a4 hv
        refine Ev.ist5 dX0_gained_48 rfl rfl ?_
        refine Ev.lld1 dX0_gained_50 ?_
        refine Ev.ald0 dX0_gained_51 ?_
        refine Ev.ild3 dX0_gained_52 ?_
        refine Ev.iconst (v := 1) dX0_gained_53 (by decide) ?_
        refine Ev.cvI (Yc := mX0_get) (ci := 0) dX0_gained_54 lX0_86 vX0_get rfl (a_get k 1 rfl rfl h3 rfl h14 (by omega) hz2) ?_ rfl rfl rfl rfl ?_
        · apply Exists.intro; repeat (first | assumption | (refine gt_upI ?_; (repeat (first | refine In_up ?_ | refine In_nw ?_)); apply In_of; assumption) | refine gt_rd (by first | assumption | (apply Ne.symm; assumption) | (exact hj _ _ (by omega) (by omega) (by omega)) | omega) ?_ | exact gt_nw (by assumption) | refine gt_odr (by first | assumption | (apply Ne.symm; assumption) | omega) ?_)
        rintro y M' ⟨hy, rfl⟩
        subst hy
        refine Ev.if_ne (tgt := 64) dX0_gained_57 (by decide) (fun c57 => ?_) (fun c57 => ?_)
        · refine Ev.ald0 dX0_gained_64 ?_
          apply Ev.getf dX0_gained_65 fX0_25
          · repeat (first | assumption | (refine gt_upI ?_; (repeat (first | refine In_up ?_ | refine In_nw ?_)); apply In_of; assumption) | refine gt_rd (by first | assumption | (apply Ne.symm; assumption) | (exact hj _ _ (by omega) (by omega) (by omega)) | omega) ?_ | exact gt_nw (by assumption) | refine gt_odr (by first | assumption | (apply Ne.symm; assumption) | omega) ?_)
          · first | rfl | assumption
          refine Ev.ild3 dX0_gained_68 ?_
          apply Ev.iald dX0_gained_69
          · repeat (first | assumption | (refine gt_upI ?_; (repeat (first | refine In_up ?_ | refine In_nw ?_)); apply In_of; assumption) | refine gt_rd (by first | assumption | (apply Ne.symm; assumption) | (exact hj _ _ (by omega) (by omega) (by omega)) | omega) ?_ | exact gt_nw (by assumption) | refine gt_odr (by first | assumption | (apply Ne.symm; assumption) | omega) ?_)
          · assumption
          rw [e]
          refine Ev.i2l dX0_gained_70 ?_
          refine Ev.ild5 dX0_gained_71 ?_
          refine Ev.i2l dX0_gained_73 ?_
          refine Ev.lmul dX0_gained_74 ?_
          refine Ev.ladd dX0_gained_75 ?_
          refine Ev.lst1 dX0_gained_76 rfl rfl ?_
          apply Ev.iinc3 dX0_gained_77 rfl rfl
          · first | exact nI_inc _ | rfl
          refine Ev.goto (tgt := 4) dX0_gained_80 (by decide) ?_
          first | exact Ev.cg (by rw [gnd, if_pos c57]) (ih (k + 1) (some (.int a4)) (some (.int v)) (by omega)) | exact Ev.cg (by rw [gnd, if_neg c57, ← hv]) (ih (k + 1) (some (.int a4)) (some (.int v)) (by omega))
        · refine Ev.lconst (v := 0) dX0_gained_60 (by decide) ?_
          refine Ev.goto (tgt := 75) dX0_gained_61 (by decide) ?_
          refine Ev.ladd dX0_gained_75 ?_
          refine Ev.lst1 dX0_gained_76 rfl rfl ?_
          apply Ev.iinc3 dX0_gained_77 rfl rfl
          · first | exact nI_inc _ | rfl
          refine Ev.goto (tgt := 4) dX0_gained_80 (by decide) ?_
          first | exact Ev.cg (by rw [gnd, if_pos c57]) (ih (k + 1) (some (.int a4)) (some (.int v)) (by omega)) | exact Ev.cg (by rw [gnd, if_neg c57, ← hv]) (ih (k + 1) (some (.int a4)) (some (.int v)) (by omega))
      refine Ev.ald0 dX0_gained_15 ?_
      apply Ev.getf dX0_gained_16 fX0_21
      · repeat (first | assumption | (refine gt_upI ?_; (repeat (first | refine In_up ?_ | refine In_nw ?_)); apply In_of; assumption) | refine gt_rd (by first | assumption | (apply Ne.symm; assumption) | (exact hj _ _ (by omega) (by omega) (by omega)) | omega) ?_ | exact gt_nw (by assumption) | refine gt_odr (by first | assumption | (apply Ne.symm; assumption) | omega) ?_)
      · first | rfl | assumption
      apply Ev.getf dX0_gained_19 fX0_174
      · repeat (first | assumption | (refine gt_upI ?_; (repeat (first | refine In_up ?_ | refine In_nw ?_)); apply In_of; assumption) | refine gt_rd (by first | assumption | (apply Ne.symm; assumption) | (exact hj _ _ (by omega) (by omega) (by omega)) | omega) ?_ | exact gt_nw (by assumption) | refine gt_odr (by first | assumption | (apply Ne.symm; assumption) | omega) ?_)
      · first | rfl | assumption
      refine Ev.ald0 dX0_gained_22 ?_
      refine Ev.ild3 dX0_gained_23 ?_
      refine Ev.iconst (v := 3) dX0_gained_24 (by decide) ?_
      refine Ev.cvI (Yc := mX0_get) (ci := 0) dX0_gained_25 lX0_86 vX0_get rfl (a_get k 3 rfl rfl h3 rfl h14 (by omega) hz2) ?_ rfl rfl rfl rfl ?_
      · apply Exists.intro; repeat (first | assumption | (refine gt_upI ?_; (repeat (first | refine In_up ?_ | refine In_nw ?_)); apply In_of; assumption) | refine gt_rd (by first | assumption | (apply Ne.symm; assumption) | (exact hj _ _ (by omega) (by omega) (by omega)) | omega) ?_ | exact gt_nw (by assumption) | refine gt_odr (by first | assumption | (apply Ne.symm; assumption) | omega) ?_)
      rintro y M' ⟨hy, rfl⟩
      subst hy
      refine Ev.isub dX0_gained_28 ?_
      refine Ev.ist4 dX0_gained_29 rfl rfl ?_
      refine Ev.ald0 dX0_gained_31 ?_
      refine Ev.ild3 dX0_gained_32 ?_
      refine Ev.iconst (v := 0) dX0_gained_33 (by decide) ?_
      refine Ev.cvI (Yc := mX0_get) (ci := 0) dX0_gained_34 lX0_86 vX0_get rfl (a_get k 0 rfl rfl h3 rfl h14 (by omega) hz2) ?_ rfl rfl rfl rfl ?_
      · apply Exists.intro; repeat (first | assumption | (refine gt_upI ?_; (repeat (first | refine In_up ?_ | refine In_nw ?_)); apply In_of; assumption) | refine gt_rd (by first | assumption | (apply Ne.symm; assumption) | (exact hj _ _ (by omega) (by omega) (by omega)) | omega) ?_ | exact gt_nw (by assumption) | refine gt_odr (by first | assumption | (apply Ne.symm; assumption) | omega) ?_)
      rintro y M' ⟨hy, rfl⟩
      subst hy
      refine Ev.if_ne (tgt := 46) dX0_gained_37 (by decide) (fun c37 => ?_) (fun c37 => ?_)
      · refine Ev.ild4 dX0_gained_46 ?_
        first | exact J _ _ (if_neg c37).symm | exact J _ _ (if_pos c37).symm
      · refine Ev.ild4 dX0_gained_40 ?_
        refine Ev.ineg dX0_gained_42 ?_
        refine Ev.goto (tgt := 48) dX0_gained_43 (by decide) ?_
        first | exact J _ _ (if_neg c37).symm | exact J _ _ (if_pos c37).symm
  refine Ct.of (ls := [some (.ref (ad 3)), none, none, none, none, none]) (by decide) (by decide) rfl rfl rfl ?_
  refine Ev.lconst (v := 0) dX0_gained_0 (by decide) ?_
  refine Ev.lst1 dX0_gained_1 rfl rfl ?_
  refine Ev.iconst (v := 0) dX0_gained_2 (by decide) ?_
  refine Ev.ist3 dX0_gained_3 rfl rfl ?_
  exact L n 0 _ _ (by omega)
set_option maxRecDepth 20000 in
theorem a_tradedWithin {ow : Int32} (h3 : gt M (ad 3) = some (auc ad i1 i2 (nI tc) i4)) (h6 : gt M (ad 6) = some (ia 0 246 tr)) (h14 : gt M (ad 14) = some (ia 0 z f)) (htc : tc ≤ 82) (hn : n ≤ 41) (hz : 8 * n ≤ z) (hz2 : z ≤ 100000) (htr : ∀ k, k < tc → ∃ a b, a < n ∧ b < n ∧ tr (3 * k + 0) = nI a ∧ tr (3 * k + 1) = nI b) : CtI G mX0_tradedWithin [.ref (ad 3), .int ow] M 0 0 (fun x M' => x = twn f tr ow tc ∧ M' = M) := by
  have L : ∀ d k a4 a5, k + d = tc → Ev G mX0_tradedWithin 4 [some (.ref (ad 3)), some (.int ow), some (.int (twn f tr ow k)), some (.int (nI k)), a4, a5] [] M 0 0 (fun v M' => ∃ x, v = some (.int x) ∧ x = twn f tr ow tc ∧ M' = M) := by
    intro d
    induction d with
    | zero =>
      intro k a4 a5 hk
      refine Ev.ild3 dX0_tradedWithin_4 ?_
      refine Ev.ald0 dX0_tradedWithin_5 ?_
      apply Ev.getf dX0_tradedWithin_6 fX0_36
      · repeat (first | assumption | (refine gt_upI ?_; (repeat (first | refine In_up ?_ | refine In_nw ?_)); apply In_of; assumption) | refine gt_rd (by first | assumption | (apply Ne.symm; assumption) | (exact hj _ _ (by omega) (by omega) (by omega)) | omega) ?_ | exact gt_nw (by assumption) | refine gt_odr (by first | assumption | (apply Ne.symm; assumption) | omega) ?_)
      · first | rfl | assumption
      refine Ev.icmp_ge (tgt := 87) dX0_tradedWithin_9 (by decide) (fun c9 => ?_) (fun c9 => absurd (nI_le (by omega) (by omega)) c9)
      refine Ev.ild2 dX0_tradedWithin_87 ?_
      refine Ev.iret dX0_tradedWithin_88 rfl rfl ?_
      exact ⟨_, rfl, by rw [show k = tc by omega], rfl⟩
    | succ d ih =>
      intro k a4 a5 hk
      obtain ⟨a, b, ha, hb, ea, eb⟩ := htr k (by omega)
      have ca : (tr (3 * k + 0)).toNatClampNeg = a := by rw [ea]; exact nI_clamp (by omega)
      have cb : (tr (3 * k + 1)).toNatClampNeg = b := by rw [eb]; exact nI_clamp (by omega)
      refine Ev.ild3 dX0_tradedWithin_4 ?_
      refine Ev.ald0 dX0_tradedWithin_5 ?_
      apply Ev.getf dX0_tradedWithin_6 fX0_36
      · repeat (first | assumption | (refine gt_upI ?_; (repeat (first | refine In_up ?_ | refine In_nw ?_)); apply In_of; assumption) | refine gt_rd (by first | assumption | (apply Ne.symm; assumption) | (exact hj _ _ (by omega) (by omega) (by omega)) | omega) ?_ | exact gt_nw (by assumption) | refine gt_odr (by first | assumption | (apply Ne.symm; assumption) | omega) ?_)
      · first | rfl | assumption
      refine Ev.icmp_ge (tgt := 87) dX0_tradedWithin_9 (by decide) (fun c9 => absurd c9 (nI_ge (by omega) (by omega))) (fun c9 => ?_)
      have J2 : ∀ u v : Int32, u = (if f (8 * a + 6) = ow then 1 else 0) → v = (if f (8 * b + 6) = ow then 1 else 0) → Ev G mX0_tradedWithin 56 [some (.ref (ad 3)), some (.int ow), some (.int (twn f tr ow k)), some (.int (nI k)), some (.int u), a5] [.int v] M 0 0 (fun v M' => ∃ x, v = some (.int x) ∧ x = twn f tr ow tc ∧ M' = M) := by
        intro u v hu hv
        refine Ev.ist5 dX0_tradedWithin_56 rfl rfl ?_
        refine Ev.ild2 dX0_tradedWithin_58 ?_
        refine Ev.ild4 dX0_tradedWithin_59 ?_
        refine Ev.if_eq (tgt := 78) dX0_tradedWithin_61 (by decide) (fun c61 => ?_) (fun c61 => ?_)
        · refine Ev.iconst (v := 0) dX0_tradedWithin_78 (by decide) ?_
          refine Ev.iadd dX0_tradedWithin_79 ?_
          refine Ev.ist2 dX0_tradedWithin_80 rfl rfl ?_
          apply Ev.iinc3 dX0_tradedWithin_81 rfl rfl
          · first | exact nI_inc _ | rfl
          refine Ev.goto (tgt := 4) dX0_tradedWithin_84 (by decide) ?_
          first | exact Ev.cg (by rw [twn, ca, cb, if_neg (fun q => v01_f hu c61 q.1)]) (ih (k + 1) (some (.int u)) (some (.int v)) (by omega)) | exact Ev.cg (by rw [twn, ca, cb, if_neg (fun q => v01_f hv c66 q.2)]) (ih (k + 1) (some (.int u)) (some (.int v)) (by omega)) | exact Ev.cg (by rw [twn, ca, cb, if_pos ⟨v01_t hu c61, v01_t hv c66⟩]) (ih (k + 1) (some (.int u)) (some (.int v)) (by omega))
        · refine Ev.ild5 dX0_tradedWithin_64 ?_
          refine Ev.if_eq (tgt := 78) dX0_tradedWithin_66 (by decide) (fun c66 => ?_) (fun c66 => ?_)
          · refine Ev.iconst (v := 0) dX0_tradedWithin_78 (by decide) ?_
            refine Ev.iadd dX0_tradedWithin_79 ?_
            refine Ev.ist2 dX0_tradedWithin_80 rfl rfl ?_
            apply Ev.iinc3 dX0_tradedWithin_81 rfl rfl
            · first | exact nI_inc _ | rfl
            refine Ev.goto (tgt := 4) dX0_tradedWithin_84 (by decide) ?_
            first | exact Ev.cg (by rw [twn, ca, cb, if_neg (fun q => v01_f hu c61 q.1)]) (ih (k + 1) (some (.int u)) (some (.int v)) (by omega)) | exact Ev.cg (by rw [twn, ca, cb, if_neg (fun q => v01_f hv c66 q.2)]) (ih (k + 1) (some (.int u)) (some (.int v)) (by omega)) | exact Ev.cg (by rw [twn, ca, cb, if_pos ⟨v01_t hu c61, v01_t hv c66⟩]) (ih (k + 1) (some (.int u)) (some (.int v)) (by omega))
          · refine Ev.ald0 dX0_tradedWithin_69 ?_
            refine Ev.ild3 dX0_tradedWithin_70 ?_
            refine Ev.iconst (v := 2) dX0_tradedWithin_71 (by decide) ?_
            refine Ev.cvI (Yc := mX0_tradePart) (ci := 0) dX0_tradedWithin_72 lX0_183 vX0_tradePart rfl (a_tradePart k 2 rfl rfl h3 h6 (by omega)) ?_ rfl rfl rfl rfl ?_
            · apply Exists.intro; repeat (first | assumption | (refine gt_upI ?_; (repeat (first | refine In_up ?_ | refine In_nw ?_)); apply In_of; assumption) | refine gt_rd (by first | assumption | (apply Ne.symm; assumption) | (exact hj _ _ (by omega) (by omega) (by omega)) | omega) ?_ | exact gt_nw (by assumption) | refine gt_odr (by first | assumption | (apply Ne.symm; assumption) | omega) ?_)
            rintro y M' ⟨hy, rfl⟩
            subst hy
            refine Ev.goto (tgt := 79) dX0_tradedWithin_75 (by decide) ?_
            refine Ev.iadd dX0_tradedWithin_79 ?_
            refine Ev.ist2 dX0_tradedWithin_80 rfl rfl ?_
            apply Ev.iinc3 dX0_tradedWithin_81 rfl rfl
            · first | exact nI_inc _ | rfl
            refine Ev.goto (tgt := 4) dX0_tradedWithin_84 (by decide) ?_
            first | exact Ev.cg (by rw [twn, ca, cb, if_neg (fun q => v01_f hu c61 q.1)]) (ih (k + 1) (some (.int u)) (some (.int v)) (by omega)) | exact Ev.cg (by rw [twn, ca, cb, if_neg (fun q => v01_f hv c66 q.2)]) (ih (k + 1) (some (.int u)) (some (.int v)) (by omega)) | exact Ev.cg (by rw [twn, ca, cb, if_pos ⟨v01_t hu c61, v01_t hv c66⟩]) (ih (k + 1) (some (.int u)) (some (.int v)) (by omega))
      have J1 : ∀ u : Int32, u = (if f (8 * a + 6) = ow then 1 else 0) → Ev G mX0_tradedWithin 33 [some (.ref (ad 3)), some (.int ow), some (.int (twn f tr ow k)), some (.int (nI k)), a4, a5] [.int u] M 0 0 (fun v M' => ∃ x, v = some (.int x) ∧ x = twn f tr ow tc ∧ M' = M) := by
        intro u hu
        refine Ev.ist4 dX0_tradedWithin_33 rfl rfl ?_
        refine Ev.ald0 dX0_tradedWithin_35 ?_
        refine Ev.ald0 dX0_tradedWithin_36 ?_
        refine Ev.ild3 dX0_tradedWithin_37 ?_
        refine Ev.iconst (v := 1) dX0_tradedWithin_38 (by decide) ?_
        refine Ev.cvI (Yc := mX0_tradePart) (ci := 0) dX0_tradedWithin_39 lX0_183 vX0_tradePart rfl (a_tradePart k 1 rfl rfl h3 h6 (by omega)) ?_ rfl rfl rfl rfl ?_
        · apply Exists.intro; repeat (first | assumption | (refine gt_upI ?_; (repeat (first | refine In_up ?_ | refine In_nw ?_)); apply In_of; assumption) | refine gt_rd (by first | assumption | (apply Ne.symm; assumption) | (exact hj _ _ (by omega) (by omega) (by omega)) | omega) ?_ | exact gt_nw (by assumption) | refine gt_odr (by first | assumption | (apply Ne.symm; assumption) | omega) ?_)
        rintro y M' ⟨hy, rfl⟩
        rw [eb] at hy
        refine Ev.bipush (v := 6) dX0_tradedWithin_42 (by decide) ?_
        refine Ev.cvI (Yc := mX0_get) (ci := 0) dX0_tradedWithin_44 lX0_86 vX0_get rfl (a_get b 6 hy rfl h3 rfl h14 (by omega) hz2) ?_ rfl rfl rfl rfl ?_
        · apply Exists.intro; repeat (first | assumption | (refine gt_upI ?_; (repeat (first | refine In_up ?_ | refine In_nw ?_)); apply In_of; assumption) | refine gt_rd (by first | assumption | (apply Ne.symm; assumption) | (exact hj _ _ (by omega) (by omega) (by omega)) | omega) ?_ | exact gt_nw (by assumption) | refine gt_odr (by first | assumption | (apply Ne.symm; assumption) | omega) ?_)
        rintro y2 M' ⟨hy2, rfl⟩
        subst hy2
        refine Ev.ild1 dX0_tradedWithin_47 ?_
        refine Ev.icmp_ne (tgt := 55) dX0_tradedWithin_48 (by decide) (fun c48 => ?_) (fun c48 => ?_)
        · refine Ev.iconst (v := 0) dX0_tradedWithin_55 (by decide) ?_
          first | exact J2 _ _ hu (if_neg c48).symm | exact J2 _ _ hu (if_pos c48).symm
        · refine Ev.iconst (v := 1) dX0_tradedWithin_51 (by decide) ?_
          refine Ev.goto (tgt := 56) dX0_tradedWithin_52 (by decide) ?_
          first | exact J2 _ _ hu (if_neg c48).symm | exact J2 _ _ hu (if_pos c48).symm
      refine Ev.ald0 dX0_tradedWithin_12 ?_
      refine Ev.ald0 dX0_tradedWithin_13 ?_
      refine Ev.ild3 dX0_tradedWithin_14 ?_
      refine Ev.iconst (v := 0) dX0_tradedWithin_15 (by decide) ?_
      refine Ev.cvI (Yc := mX0_tradePart) (ci := 0) dX0_tradedWithin_16 lX0_183 vX0_tradePart rfl (a_tradePart k 0 rfl rfl h3 h6 (by omega)) ?_ rfl rfl rfl rfl ?_
      · apply Exists.intro; repeat (first | assumption | (refine gt_upI ?_; (repeat (first | refine In_up ?_ | refine In_nw ?_)); apply In_of; assumption) | refine gt_rd (by first | assumption | (apply Ne.symm; assumption) | (exact hj _ _ (by omega) (by omega) (by omega)) | omega) ?_ | exact gt_nw (by assumption) | refine gt_odr (by first | assumption | (apply Ne.symm; assumption) | omega) ?_)
      rintro y M' ⟨hy, rfl⟩
      rw [ea] at hy
      refine Ev.bipush (v := 6) dX0_tradedWithin_19 (by decide) ?_
      refine Ev.cvI (Yc := mX0_get) (ci := 0) dX0_tradedWithin_21 lX0_86 vX0_get rfl (a_get a 6 hy rfl h3 rfl h14 (by omega) hz2) ?_ rfl rfl rfl rfl ?_
      · apply Exists.intro; repeat (first | assumption | (refine gt_upI ?_; (repeat (first | refine In_up ?_ | refine In_nw ?_)); apply In_of; assumption) | refine gt_rd (by first | assumption | (apply Ne.symm; assumption) | (exact hj _ _ (by omega) (by omega) (by omega)) | omega) ?_ | exact gt_nw (by assumption) | refine gt_odr (by first | assumption | (apply Ne.symm; assumption) | omega) ?_)
      rintro y2 M' ⟨hy2, rfl⟩
      subst hy2
      refine Ev.ild1 dX0_tradedWithin_24 ?_
      refine Ev.icmp_ne (tgt := 32) dX0_tradedWithin_25 (by decide) (fun c25 => ?_) (fun c25 => ?_)
      · refine Ev.iconst (v := 0) dX0_tradedWithin_32 (by decide) ?_
        first | exact J1 _ (if_neg c25).symm | exact J1 _ (if_pos c25).symm
      · refine Ev.iconst (v := 1) dX0_tradedWithin_28 (by decide) ?_
        refine Ev.goto (tgt := 33) dX0_tradedWithin_29 (by decide) ?_
        first | exact J1 _ (if_neg c25).symm | exact J1 _ (if_pos c25).symm
  refine Ct.of (ls := [some (.ref (ad 3)), some (.int ow), none, none, none, none]) (by decide) (by decide) rfl rfl rfl ?_
  refine Ev.iconst (v := 0) dX0_tradedWithin_0 (by decide) ?_
  refine Ev.ist2 dX0_tradedWithin_1 rfl rfl ?_
  refine Ev.iconst (v := 0) dX0_tradedWithin_2 (by decide) ?_
  refine Ev.ist3 dX0_tradedWithin_3 rfl rfl ?_
  exact L tc 0 _ _ (by omega)
set_option maxRecDepth 20000 in
theorem a_countSlices {sd pr : Int32} {j c : Nat} (hsd : sd = nI j) (hj2 : j < 2) (h3 : gt M (ad 3) = some (auc ad i1 i2 i3 i4)) (h8 : gt M (ad 8) = some (ra 4 2 so)) (h10 : gt M (ad 10) = some (ia 0 2 cn)) (h14 : gt M (ad 14) = some (ia 0 z f)) (hs : gt M (ad (15 + j)) = some (ia 0 82 s)) (s0 : so j = some (ad (15 + j))) (hc : cn j = nI c) (hc2 : c ≤ 82) (hn : n ≤ 41) (hz : 8 * n ≤ z) (hz2 : z ≤ 100000) (hks : ∀ i, i < c → ∃ o, o < n ∧ s i &&& 63 = nI o) : CtI G mX0_countSlices [.ref (ad 3), .int sd, .int pr] M 0 0 (fun x M' => x = cts f s pr c ∧ M' = M) := by
  subst hsd
  have ej := nI_clamp (n := j) (by omega)
  have bj : vp_in (nI j) 2 := vp_in_nI (by omega) (by omega)
  have qs : so (nI j).toNatClampNeg = some (ad (15 + j)) := by rw [ej]; exact s0
  have L : ∀ d i, i + d = c → Ev G mX0_countSlices 5 [some (.ref (ad 3)), some (.int (nI j)), some (.int pr), some (.int (cts f s pr i)), some (.int (nI i))] [] M 0 0 (fun v M' => ∃ x, v = some (.int x) ∧ x = cts f s pr c ∧ M' = M) := by
    intro d
    induction d with
    | zero =>
      intro i hk
      refine Ev.ild4 dX0_countSlices_5 ?_
      refine Ev.ald0 dX0_countSlices_7 ?_
      apply Ev.getf dX0_countSlices_8 fX0_53
      · repeat (first | assumption | (refine gt_upI ?_; (repeat (first | refine In_up ?_ | refine In_nw ?_)); apply In_of; assumption) | refine gt_rd (by first | assumption | (apply Ne.symm; assumption) | (exact hj _ _ (by omega) (by omega) (by omega)) | omega) ?_ | exact gt_nw (by assumption) | refine gt_odr (by first | assumption | (apply Ne.symm; assumption) | omega) ?_)
      · first | rfl | assumption
      refine Ev.ild1 dX0_countSlices_11 ?_
      apply Ev.iald dX0_countSlices_12
      · repeat (first | assumption | (refine gt_upI ?_; (repeat (first | refine In_up ?_ | refine In_nw ?_)); apply In_of; assumption) | refine gt_rd (by first | assumption | (apply Ne.symm; assumption) | (exact hj _ _ (by omega) (by omega) (by omega)) | omega) ?_ | exact gt_nw (by assumption) | refine gt_odr (by first | assumption | (apply Ne.symm; assumption) | omega) ?_)
      · assumption
      rw [ej, hc]
      refine Ev.icmp_ge (tgt := 50) dX0_countSlices_13 (by decide) (fun c9 => ?_) (fun c9 => absurd (nI_le (by omega) (by omega)) c9)
      refine Ev.ild3 dX0_countSlices_50 ?_
      refine Ev.iret dX0_countSlices_51 rfl rfl ?_
      exact ⟨_, rfl, by rw [show i = c by omega], rfl⟩
    | succ d ih =>
      intro i hk
      obtain ⟨o, ho, hno⟩ := hks i (by omega)
      have enb : nb (s i) = o := by rw [nb, hno]; exact nI_clamp (by omega)
      have e := nI_clamp (n := i) (by omega)
      have b : vp_in (nI i) 82 := vp_in_nI (by omega) (by omega)
      refine Ev.ild4 dX0_countSlices_5 ?_
      refine Ev.ald0 dX0_countSlices_7 ?_
      apply Ev.getf dX0_countSlices_8 fX0_53
      · repeat (first | assumption | (refine gt_upI ?_; (repeat (first | refine In_up ?_ | refine In_nw ?_)); apply In_of; assumption) | refine gt_rd (by first | assumption | (apply Ne.symm; assumption) | (exact hj _ _ (by omega) (by omega) (by omega)) | omega) ?_ | exact gt_nw (by assumption) | refine gt_odr (by first | assumption | (apply Ne.symm; assumption) | omega) ?_)
      · first | rfl | assumption
      refine Ev.ild1 dX0_countSlices_11 ?_
      apply Ev.iald dX0_countSlices_12
      · repeat (first | assumption | (refine gt_upI ?_; (repeat (first | refine In_up ?_ | refine In_nw ?_)); apply In_of; assumption) | refine gt_rd (by first | assumption | (apply Ne.symm; assumption) | (exact hj _ _ (by omega) (by omega) (by omega)) | omega) ?_ | exact gt_nw (by assumption) | refine gt_odr (by first | assumption | (apply Ne.symm; assumption) | omega) ?_)
      · assumption
      rw [ej, hc]
      refine Ev.icmp_ge (tgt := 50) dX0_countSlices_13 (by decide) (fun c9 => absurd c9 (nI_ge (by omega) (by omega))) (fun c9 => ?_)
      refine Ev.ild3 dX0_countSlices_16 ?_
      refine Ev.ald0 dX0_countSlices_17 ?_
      refine Ev.ald0 dX0_countSlices_18 ?_
      apply Ev.getf dX0_countSlices_19 fX0_47
      · repeat (first | assumption | (refine gt_upI ?_; (repeat (first | refine In_up ?_ | refine In_nw ?_)); apply In_of; assumption) | refine gt_rd (by first | assumption | (apply Ne.symm; assumption) | (exact hj _ _ (by omega) (by omega) (by omega)) | omega) ?_ | exact gt_nw (by assumption) | refine gt_odr (by first | assumption | (apply Ne.symm; assumption) | omega) ?_)
      · first | rfl | assumption
      refine Ev.ild1 dX0_countSlices_22 ?_
      apply Ev.arld dX0_countSlices_23
      · repeat (first | assumption | (refine gt_upI ?_; (repeat (first | refine In_up ?_ | refine In_nw ?_)); apply In_of; assumption) | refine gt_rd (by first | assumption | (apply Ne.symm; assumption) | (exact hj _ _ (by omega) (by omega) (by omega)) | omega) ?_ | exact gt_nw (by assumption) | refine gt_odr (by first | assumption | (apply Ne.symm; assumption) | omega) ?_)
      · assumption
      · assumption
      refine Ev.ild4 dX0_countSlices_24 ?_
      apply Ev.iald dX0_countSlices_26
      · repeat (first | assumption | (refine gt_upI ?_; (repeat (first | refine In_up ?_ | refine In_nw ?_)); apply In_of; assumption) | refine gt_rd (by first | assumption | (apply Ne.symm; assumption) | (exact hj _ _ (by omega) (by omega) (by omega)) | omega) ?_ | exact gt_nw (by assumption) | refine gt_odr (by first | assumption | (apply Ne.symm; assumption) | omega) ?_)
      · assumption
      rw [e]
      refine Ev.csI (Yc := mX0_numberOf) dX0_countSlices_27 lX0_104 vX0_numberOf rfl a_numberOf rfl rfl rfl ?_
      rintro x M' ⟨hx, rfl⟩
      rw [hno] at hx
      subst hx
      refine Ev.ild2 dX0_countSlices_30 ?_
      refine Ev.cvI (Yc := mX0_isWilling) (ci := 0) dX0_countSlices_31 lX0_112 vX0_isWilling rfl (a_isWilling o rfl h3 rfl h14 (by omega) hz2) ?_ rfl rfl rfl rfl ?_
      · apply Exists.intro; repeat (first | assumption | (refine gt_upI ?_; (repeat (first | refine In_up ?_ | refine In_nw ?_)); apply In_of; assumption) | refine gt_rd (by first | assumption | (apply Ne.symm; assumption) | (exact hj _ _ (by omega) (by omega) (by omega)) | omega) ?_ | exact gt_nw (by assumption) | refine gt_odr (by first | assumption | (apply Ne.symm; assumption) | omega) ?_)
      rintro y M' ⟨hy, rfl⟩
      refine Ev.if_eq (tgt := 41) dX0_countSlices_34 (by decide) (fun c34 => ?_) (fun c34 => ?_)
      · refine Ev.iconst (v := 0) dX0_countSlices_41 (by decide) ?_
        refine Ev.iadd dX0_countSlices_42 ?_
        refine Ev.ist3 dX0_countSlices_43 rfl rfl ?_
        apply Ev.iinc4 dX0_countSlices_44 rfl rfl
        · first | exact nI_inc _ | rfl
        refine Ev.goto (tgt := 5) dX0_countSlices_47 (by decide) ?_
        first | exact Ev.cg (by rw [cts, enb, if_neg (v01_f hy c34)]) (ih (i + 1) (by omega)) | exact Ev.cg (by rw [cts, enb, if_pos (v01_t hy c34)]) (ih (i + 1) (by omega))
      · refine Ev.iconst (v := 1) dX0_countSlices_37 (by decide) ?_
        refine Ev.goto (tgt := 42) dX0_countSlices_38 (by decide) ?_
        refine Ev.iadd dX0_countSlices_42 ?_
        refine Ev.ist3 dX0_countSlices_43 rfl rfl ?_
        apply Ev.iinc4 dX0_countSlices_44 rfl rfl
        · first | exact nI_inc _ | rfl
        refine Ev.goto (tgt := 5) dX0_countSlices_47 (by decide) ?_
        first | exact Ev.cg (by rw [cts, enb, if_neg (v01_f hy c34)]) (ih (i + 1) (by omega)) | exact Ev.cg (by rw [cts, enb, if_pos (v01_t hy c34)]) (ih (i + 1) (by omega))
  refine Ct.of (ls := [some (.ref (ad 3)), some (.int (nI j)), some (.int pr), none, none]) (by decide) (by decide) rfl rfl rfl ?_
  refine Ev.iconst (v := 0) dX0_countSlices_0 (by decide) ?_
  refine Ev.ist3 dX0_countSlices_1 rfl rfl ?_
  refine Ev.iconst (v := 0) dX0_countSlices_2 (by decide) ?_
  refine Ev.ist4 dX0_countSlices_3 rfl rfl ?_
  exact L c 0 (by omega)
set_option maxRecDepth 20000 in
theorem a_findSlice {sd pr wt : Int32} {j c : Nat} (hsd : sd = nI j) (hj2 : j < 2) (h3 : gt M (ad 3) = some (auc ad i1 i2 i3 i4)) (h8 : gt M (ad 8) = some (ra 4 2 so)) (h10 : gt M (ad 10) = some (ia 0 2 cn)) (h14 : gt M (ad 14) = some (ia 0 z f)) (hs : gt M (ad (15 + j)) = some (ia 0 82 s)) (s0 : so j = some (ad (15 + j))) (hc : cn j = nI c) (hc2 : c ≤ 82) (hn : n ≤ 41) (hz : 8 * n ≤ z) (hz2 : z ≤ 100000) (hks : ∀ i, i < c → ∃ o, o < n ∧ s i &&& 63 = nI o) : CtI G mX0_findSlice [.ref (ad 3), .int sd, .int pr, .int wt] M 0 0 (fun x M' => x = fds f s pr wt c 0 0 ∧ M' = M) := by
  subst hsd
  have ej := nI_clamp (n := j) (by omega)
  have bj : vp_in (nI j) 2 := vp_in_nI (by omega) (by omega)
  have qs : so (nI j).toNatClampNeg = some (ad (15 + j)) := by rw [ej]; exact s0
  have L : ∀ d i (q : Int32), i + d = c → Ev G mX0_findSlice 6 [some (.ref (ad 3)), some (.int (nI j)), some (.int pr), some (.int wt), some (.int q), some (.int (nI i))] [] M 0 0 (fun v M' => ∃ x, v = some (.int x) ∧ x = fds f s pr wt d i q ∧ M' = M) := by
    intro d
    induction d with
    | zero =>
      intro i q hk
      refine Ev.ild5 dX0_findSlice_6 ?_
      refine Ev.ald0 dX0_findSlice_8 ?_
      apply Ev.getf dX0_findSlice_9 fX0_53
      · repeat (first | assumption | (refine gt_upI ?_; (repeat (first | refine In_up ?_ | refine In_nw ?_)); apply In_of; assumption) | refine gt_rd (by first | assumption | (apply Ne.symm; assumption) | (exact hj _ _ (by omega) (by omega) (by omega)) | omega) ?_ | exact gt_nw (by assumption) | refine gt_odr (by first | assumption | (apply Ne.symm; assumption) | omega) ?_)
      · first | rfl | assumption
      refine Ev.ild1 dX0_findSlice_12 ?_
      apply Ev.iald dX0_findSlice_13
      · repeat (first | assumption | (refine gt_upI ?_; (repeat (first | refine In_up ?_ | refine In_nw ?_)); apply In_of; assumption) | refine gt_rd (by first | assumption | (apply Ne.symm; assumption) | (exact hj _ _ (by omega) (by omega) (by omega)) | omega) ?_ | exact gt_nw (by assumption) | refine gt_odr (by first | assumption | (apply Ne.symm; assumption) | omega) ?_)
      · assumption
      rw [ej, hc]
      refine Ev.icmp_ge (tgt := 62) dX0_findSlice_14 (by decide) (fun c9 => ?_) (fun c9 => absurd (nI_le (by omega) (by omega)) c9)
      refine Ev.iconst (v := -1) dX0_findSlice_62 (by decide) ?_
      refine Ev.iret dX0_findSlice_63 rfl rfl ?_
      exact ⟨_, rfl, rfl, rfl⟩
    | succ d ih =>
      intro i q hk
      obtain ⟨o, ho, hno⟩ := hks i (by omega)
      have enb : nb (s i) = o := by rw [nb, hno]; exact nI_clamp (by omega)
      have e := nI_clamp (n := i) (by omega)
      have b : vp_in (nI i) 82 := vp_in_nI (by omega) (by omega)
      rw [fds, enb]
      refine Ev.ild5 dX0_findSlice_6 ?_
      refine Ev.ald0 dX0_findSlice_8 ?_
      apply Ev.getf dX0_findSlice_9 fX0_53
      · repeat (first | assumption | (refine gt_upI ?_; (repeat (first | refine In_up ?_ | refine In_nw ?_)); apply In_of; assumption) | refine gt_rd (by first | assumption | (apply Ne.symm; assumption) | (exact hj _ _ (by omega) (by omega) (by omega)) | omega) ?_ | exact gt_nw (by assumption) | refine gt_odr (by first | assumption | (apply Ne.symm; assumption) | omega) ?_)
      · first | rfl | assumption
      refine Ev.ild1 dX0_findSlice_12 ?_
      apply Ev.iald dX0_findSlice_13
      · repeat (first | assumption | (refine gt_upI ?_; (repeat (first | refine In_up ?_ | refine In_nw ?_)); apply In_of; assumption) | refine gt_rd (by first | assumption | (apply Ne.symm; assumption) | (exact hj _ _ (by omega) (by omega) (by omega)) | omega) ?_ | exact gt_nw (by assumption) | refine gt_odr (by first | assumption | (apply Ne.symm; assumption) | omega) ?_)
      · assumption
      rw [ej, hc]
      refine Ev.icmp_ge (tgt := 62) dX0_findSlice_14 (by decide) (fun c9 => absurd c9 (nI_ge (by omega) (by omega))) (fun c9 => ?_)
      refine Ev.ald0 dX0_findSlice_17 ?_
      refine Ev.ald0 dX0_findSlice_18 ?_
      apply Ev.getf dX0_findSlice_19 fX0_47
      · repeat (first | assumption | (refine gt_upI ?_; (repeat (first | refine In_up ?_ | refine In_nw ?_)); apply In_of; assumption) | refine gt_rd (by first | assumption | (apply Ne.symm; assumption) | (exact hj _ _ (by omega) (by omega) (by omega)) | omega) ?_ | exact gt_nw (by assumption) | refine gt_odr (by first | assumption | (apply Ne.symm; assumption) | omega) ?_)
      · first | rfl | assumption
      refine Ev.ild1 dX0_findSlice_22 ?_
      apply Ev.arld dX0_findSlice_23
      · repeat (first | assumption | (refine gt_upI ?_; (repeat (first | refine In_up ?_ | refine In_nw ?_)); apply In_of; assumption) | refine gt_rd (by first | assumption | (apply Ne.symm; assumption) | (exact hj _ _ (by omega) (by omega) (by omega)) | omega) ?_ | exact gt_nw (by assumption) | refine gt_odr (by first | assumption | (apply Ne.symm; assumption) | omega) ?_)
      · assumption
      · assumption
      refine Ev.ild5 dX0_findSlice_24 ?_
      apply Ev.iald dX0_findSlice_26
      · repeat (first | assumption | (refine gt_upI ?_; (repeat (first | refine In_up ?_ | refine In_nw ?_)); apply In_of; assumption) | refine gt_rd (by first | assumption | (apply Ne.symm; assumption) | (exact hj _ _ (by omega) (by omega) (by omega)) | omega) ?_ | exact gt_nw (by assumption) | refine gt_odr (by first | assumption | (apply Ne.symm; assumption) | omega) ?_)
      · assumption
      rw [e]
      refine Ev.csI (Yc := mX0_numberOf) dX0_findSlice_27 lX0_104 vX0_numberOf rfl a_numberOf rfl rfl rfl ?_
      rintro x M' ⟨hx, rfl⟩
      rw [hno] at hx
      subst hx
      refine Ev.ild2 dX0_findSlice_30 ?_
      refine Ev.cvI (Yc := mX0_isWilling) (ci := 0) dX0_findSlice_31 lX0_112 vX0_isWilling rfl (a_isWilling o rfl h3 rfl h14 (by omega) hz2) ?_ rfl rfl rfl rfl ?_
      · apply Exists.intro; repeat (first | assumption | (refine gt_upI ?_; (repeat (first | refine In_up ?_ | refine In_nw ?_)); apply In_of; assumption) | refine gt_rd (by first | assumption | (apply Ne.symm; assumption) | (exact hj _ _ (by omega) (by omega) (by omega)) | omega) ?_ | exact gt_nw (by assumption) | refine gt_odr (by first | assumption | (apply Ne.symm; assumption) | omega) ?_)
      rintro y M' ⟨hy, rfl⟩
      refine Ev.if_eq (tgt := 56) dX0_findSlice_34 (by decide) (fun c34 => ?_) (fun c34 => ?_)
      · rw [if_neg (v01_f hy c34)]
        apply Ev.iinc5 dX0_findSlice_56 rfl rfl
        · first | exact nI_inc _ | rfl
        refine Ev.goto (tgt := 6) dX0_findSlice_59 (by decide) ?_
        exact ih (i + 1) q (by omega)
      · rw [if_pos (v01_t hy c34)]
        refine Ev.ild4 dX0_findSlice_37 ?_
        refine Ev.ild3 dX0_findSlice_39 ?_
        refine Ev.icmp_ne (tgt := 53) dX0_findSlice_40 (by decide) (fun c40 => ?_) (fun c40 => ?_)
        · rw [if_neg c40]
          refine Ev.iinc4 (v := q + 1) dX0_findSlice_53 rfl rfl rfl ?_
          apply Ev.iinc5 dX0_findSlice_56 rfl rfl
          · first | exact nI_inc _ | rfl
          refine Ev.goto (tgt := 6) dX0_findSlice_59 (by decide) ?_
          exact ih (i + 1) (q + 1) (by omega)
        · rw [if_pos c40]
          refine Ev.ald0 dX0_findSlice_43 ?_
          apply Ev.getf dX0_findSlice_44 fX0_47
          · repeat (first | assumption | (refine gt_upI ?_; (repeat (first | refine In_up ?_ | refine In_nw ?_)); apply In_of; assumption) | refine gt_rd (by first | assumption | (apply Ne.symm; assumption) | (exact hj _ _ (by omega) (by omega) (by omega)) | omega) ?_ | exact gt_nw (by assumption) | refine gt_odr (by first | assumption | (apply Ne.symm; assumption) | omega) ?_)
          · first | rfl | assumption
          refine Ev.ild1 dX0_findSlice_47 ?_
          apply Ev.arld dX0_findSlice_48
          · repeat (first | assumption | (refine gt_upI ?_; (repeat (first | refine In_up ?_ | refine In_nw ?_)); apply In_of; assumption) | refine gt_rd (by first | assumption | (apply Ne.symm; assumption) | (exact hj _ _ (by omega) (by omega) (by omega)) | omega) ?_ | exact gt_nw (by assumption) | refine gt_odr (by first | assumption | (apply Ne.symm; assumption) | omega) ?_)
          · assumption
          · assumption
          refine Ev.ild5 dX0_findSlice_49 ?_
          apply Ev.iald dX0_findSlice_51
          · repeat (first | assumption | (refine gt_upI ?_; (repeat (first | refine In_up ?_ | refine In_nw ?_)); apply In_of; assumption) | refine gt_rd (by first | assumption | (apply Ne.symm; assumption) | (exact hj _ _ (by omega) (by omega) (by omega)) | omega) ?_ | exact gt_nw (by assumption) | refine gt_odr (by first | assumption | (apply Ne.symm; assumption) | omega) ?_)
          · assumption
          rw [e]
          refine Ev.iret dX0_findSlice_52 rfl rfl ?_
          exact ⟨_, rfl, rfl, rfl⟩
  refine Ct.of (ls := [some (.ref (ad 3)), some (.int (nI j)), some (.int pr), some (.int wt), none, none]) (by decide) (by decide) rfl rfl rfl ?_
  refine Ev.iconst (v := 0) dX0_findSlice_0 (by decide) ?_
  refine Ev.ist4 dX0_findSlice_1 rfl rfl ?_
  refine Ev.iconst (v := 0) dX0_findSlice_3 (by decide) ?_
  refine Ev.ist5 dX0_findSlice_4 rfl rfl ?_
  exact L c 0 0 (by omega)
end AUH
