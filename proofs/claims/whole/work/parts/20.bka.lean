set_option maxRecDepth 20000 in
theorem c_X2_get {G : GP} {M : Wd} {h r n : Nat} {fs : List Value} {f : Nat → Int32} {o w : Int32} (hB : gt M h = some (ob 2 (.ref r :: fs))) (hr : gt M r = some (ia 0 n f)) (hi : vp_in (o * 8 + w) n) : CtI G mX2_get [.ref h, .int o, .int w] M 0 0 (fun x M' => x = f (o * 8 + w).toNatClampNeg ∧ M' = M) := by
  refine Ct.of (ls := [some (.ref h), some (.int o), some (.int w)]) (by decide) (by decide) rfl rfl rfl ?_
  refine Ev.ald0 dX2_get_0 ?_
  apply Ev.getf dX2_get_1 fX2_9
  · repeat (first | assumption | (refine gt_upI ?_; (repeat (first | refine In_up ?_ | refine In_nw ?_)); apply In_of; assumption) | refine gt_rd (by first | assumption | (apply Ne.symm; assumption) | (exact hj _ _ (by omega) (by omega) (by omega)) | omega) ?_ | exact gt_nw (by assumption) | refine gt_odr (by first | assumption | (apply Ne.symm; assumption) | omega) ?_)
  · first | rfl | assumption
  refine Ev.ild1 dX2_get_4 ?_
  refine Ev.bipush (v := 8) dX2_get_5 (by decide) ?_
  refine Ev.imul dX2_get_7 ?_
  refine Ev.ild2 dX2_get_8 ?_
  refine Ev.iadd dX2_get_9 ?_
  apply Ev.iald dX2_get_10
  · repeat (first | assumption | (refine gt_upI ?_; (repeat (first | refine In_up ?_ | refine In_nw ?_)); apply In_of; assumption) | refine gt_rd (by first | assumption | (apply Ne.symm; assumption) | (exact hj _ _ (by omega) (by omega) (by omega)) | omega) ?_ | exact gt_nw (by assumption) | refine gt_odr (by first | assumption | (apply Ne.symm; assumption) | omega) ?_)
  · assumption
  refine Ev.iret dX2_get_11 rfl rfl ?_
  exact ⟨_, rfl, rfl, rfl⟩
set_option maxRecDepth 20000 in
theorem c_X2_set {G : GP} {M : Wd} {h r n : Nat} {fs : List Value} {f : Nat → Int32} {o w v : Int32} (hB : gt M h = some (ob 2 (.ref r :: fs))) (hr : gt M r = some (ia 0 n f)) (hi : vp_in (o * 8 + w) n) : CtV G mX2_set [.ref h, .int o, .int w, .int v] M 0 0 (fun M' => M' = up M r (ia 0 n (upd f (o * 8 + w).toNatClampNeg v))) := by
  refine Ct.of (ls := [some (.ref h), some (.int o), some (.int w), some (.int v)]) (by decide) (by decide) rfl rfl rfl ?_
  refine Ev.ald0 dX2_set_0 ?_
  apply Ev.getf dX2_set_1 fX2_9
  · repeat (first | assumption | (refine gt_upI ?_; (repeat (first | refine In_up ?_ | refine In_nw ?_)); apply In_of; assumption) | refine gt_rd (by first | assumption | (apply Ne.symm; assumption) | (exact hj _ _ (by omega) (by omega) (by omega)) | omega) ?_ | exact gt_nw (by assumption) | refine gt_odr (by first | assumption | (apply Ne.symm; assumption) | omega) ?_)
  · first | rfl | assumption
  refine Ev.ild1 dX2_set_4 ?_
  refine Ev.bipush (v := 8) dX2_set_5 (by decide) ?_
  refine Ev.imul dX2_set_7 ?_
  refine Ev.ild2 dX2_set_8 ?_
  refine Ev.iadd dX2_set_9 ?_
  refine Ev.ild3 dX2_set_10 ?_
  apply Ev.iast dX2_set_11
  · repeat (first | assumption | (refine gt_upI ?_; (repeat (first | refine In_up ?_ | refine In_nw ?_)); apply In_of; assumption) | refine gt_rd (by first | assumption | (apply Ne.symm; assumption) | (exact hj _ _ (by omega) (by omega) (by omega)) | omega) ?_ | exact gt_nw (by assumption) | refine gt_odr (by first | assumption | (apply Ne.symm; assumption) | omega) ?_)
  · assumption
  refine Ev.vret dX2_set_12 rfl ?_
  exact ⟨rfl, rfl⟩
set_option maxRecDepth 20000 in
theorem c_X2_has {G : GP} {M : Wd} {h r w : Nat} {fs : List Value} {o sz : Int32} (hB : gt M h = some (ob 2 (.ref r :: .ref w :: .int sz :: fs))) : CtI G mX2_has [.ref h, .int o] M 0 0 (fun x M' => x = (if 0 ≤ o ∧ o < sz then 1 else 0) ∧ M' = M) := by
  refine Ct.of (ls := [some (.ref h), some (.int o)]) (by decide) (by decide) rfl rfl rfl ?_
  refine Ev.ild1 dX2_has_0 ?_
  refine Ev.if_lt (tgt := 16) dX2_has_1 (by decide) (fun c1 => ?_) (fun c1 => ?_)
  · refine Ev.iconst (v := 0) dX2_has_16 (by decide) ?_
    refine Ev.iret dX2_has_17 rfl rfl ?_
    exact ⟨_, rfl, by rw [if_neg]; rintro ⟨h1, h2⟩; exact absurd c1 (Int32.not_lt.mpr h1), rfl⟩
  · refine Ev.ild1 dX2_has_4 ?_
    refine Ev.ald0 dX2_has_5 ?_
    apply Ev.getf dX2_has_6 fX2_18
    · repeat (first | assumption | (refine gt_upI ?_; (repeat (first | refine In_up ?_ | refine In_nw ?_)); apply In_of; assumption) | refine gt_rd (by first | assumption | (apply Ne.symm; assumption) | (exact hj _ _ (by omega) (by omega) (by omega)) | omega) ?_ | exact gt_nw (by assumption) | refine gt_odr (by first | assumption | (apply Ne.symm; assumption) | omega) ?_)
    · first | rfl | assumption
    refine Ev.icmp_ge (tgt := 16) dX2_has_9 (by decide) (fun c2 => ?_) (fun c2 => ?_)
    · refine Ev.iconst (v := 0) dX2_has_16 (by decide) ?_
      refine Ev.iret dX2_has_17 rfl rfl ?_
      exact ⟨_, rfl, by rw [if_neg]; rintro ⟨h1, h2⟩; exact absurd h2 (Int32.not_lt.mpr c2), rfl⟩
    · refine Ev.iconst (v := 1) dX2_has_12 (by decide) ?_
      refine Ev.goto (tgt := 17) dX2_has_13 (by decide) ?_
      refine Ev.iret dX2_has_17 rfl rfl ?_
      exact ⟨_, rfl, by rw [if_pos]; exact ⟨Int32.not_lt.mp c1, Int32.not_le.mp c2⟩, rfl⟩
set_option maxRecDepth 20000 in
theorem c_X2_reset {G : GP} {M : Wd} {h : Nat} {r w a b c d e : Value} (hB : gt M h = some (ob 2 [r, w, a, b, c, d, e])) : CtV G mX2_reset [.ref h] M 0 0 (fun M' => M' = up M h (ob 2 [r, w, .int 0, .int 0, .int 100, .int 1, .int 999])) := by
  refine Ct.of (ls := [some (.ref h)]) (by decide) (by decide) rfl rfl rfl ?_
  refine Ev.ald0 dX2_reset_0 ?_
  refine Ev.iconst (v := 0) dX2_reset_1 (by decide) ?_
  apply Ev.put dX2_reset_2 fX2_18
  · repeat (first | assumption | (refine gt_upI ?_; (repeat (first | refine In_up ?_ | refine In_nw ?_)); apply In_of; assumption) | refine gt_rd (by first | assumption | (apply Ne.symm; assumption) | (exact hj _ _ (by omega) (by omega) (by omega)) | omega) ?_ | exact gt_nw (by assumption) | refine gt_odr (by first | assumption | (apply Ne.symm; assumption) | omega) ?_)
  · rfl
  · rfl
  · rfl
  refine Ev.ald0 dX2_reset_5 ?_
  refine Ev.iconst (v := 0) dX2_reset_6 (by decide) ?_
  apply Ev.put dX2_reset_7 fX2_22
  · repeat (first | assumption | (refine gt_upI ?_; (repeat (first | refine In_up ?_ | refine In_nw ?_)); apply In_of; assumption) | refine gt_rd (by first | assumption | (apply Ne.symm; assumption) | (exact hj _ _ (by omega) (by omega) (by omega)) | omega) ?_ | exact gt_nw (by assumption) | refine gt_odr (by first | assumption | (apply Ne.symm; assumption) | omega) ?_)
  · rfl
  · rfl
  · rfl
  refine Ev.ald0 dX2_reset_10 ?_
  refine Ev.bipush (v := 100) dX2_reset_11 (by decide) ?_
  apply Ev.put dX2_reset_13 fX2_25
  · repeat (first | assumption | (refine gt_upI ?_; (repeat (first | refine In_up ?_ | refine In_nw ?_)); apply In_of; assumption) | refine gt_rd (by first | assumption | (apply Ne.symm; assumption) | (exact hj _ _ (by omega) (by omega) (by omega)) | omega) ?_ | exact gt_nw (by assumption) | refine gt_odr (by first | assumption | (apply Ne.symm; assumption) | omega) ?_)
  · rfl
  · rfl
  · rfl
  refine Ev.ald0 dX2_reset_16 ?_
  refine Ev.iconst (v := 1) dX2_reset_17 (by decide) ?_
  apply Ev.put dX2_reset_18 fX2_28
  · repeat (first | assumption | (refine gt_upI ?_; (repeat (first | refine In_up ?_ | refine In_nw ?_)); apply In_of; assumption) | refine gt_rd (by first | assumption | (apply Ne.symm; assumption) | (exact hj _ _ (by omega) (by omega) (by omega)) | omega) ?_ | exact gt_nw (by assumption) | refine gt_odr (by first | assumption | (apply Ne.symm; assumption) | omega) ?_)
  · rfl
  · rfl
  · rfl
  refine Ev.ald0 dX2_reset_21 ?_
  refine Ev.sipush (v := 999) dX2_reset_22 (by decide) ?_
  apply Ev.put dX2_reset_25 fX2_31
  · repeat (first | assumption | (refine gt_upI ?_; (repeat (first | refine In_up ?_ | refine In_nw ?_)); apply In_of; assumption) | refine gt_rd (by first | assumption | (apply Ne.symm; assumption) | (exact hj _ _ (by omega) (by omega) (by omega)) | omega) ?_ | exact gt_nw (by assumption) | refine gt_odr (by first | assumption | (apply Ne.symm; assumption) | omega) ?_)
  · rfl
  · rfl
  · rfl
  refine Ev.vret dX2_reset_28 rfl ?_
  refine ⟨rfl, ?_⟩
  rw [up_up, up_up, up_up, up_up]
  rfl
