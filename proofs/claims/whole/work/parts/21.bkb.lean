/-- a book's cell -/
abbrev bk (r w n : Nat) (ph rf lo hi : Int32) : En := ob 2 [.ref r, .ref w, .int (nI n), .int ph, .int rf, .int lo, .int hi]
section BKB
variable {G : GP} {M : Wd} {h r w n : Nat} {fs : List Value} {f : Nat → Int32} {ph rf lo hi : Int32}
theorem c_get {z : Nat} {o j : Int32} (k i : Nat) (ho : o = nI k) (hj : j = nI i) (hB : gt M h = some (ob 2 (.ref r :: fs))) (hr : gt M r = some (ia 0 z f)) (hk : 8 * k + i < z) (hz : z ≤ 100000) : CtI G mX2_get [.ref h, .int o, .int j] M 0 0 (fun x M' => x = f (8 * k + i) ∧ M' = M) := by
  subst ho; subst hj
  have e := ix8 hk hz
  have := c_X2_get (G := G) hB hr e.1
  rw [e.2] at this
  exact this
theorem c_set {z : Nat} {o j v : Int32} (k i : Nat) (ho : o = nI k) (hj : j = nI i) (hB : gt M h = some (ob 2 (.ref r :: fs))) (hr : gt M r = some (ia 0 z f)) (hk : 8 * k + i < z) (hz : z ≤ 100000) : CtV G mX2_set [.ref h, .int o, .int j, .int v] M 0 0 (fun M' => M' = up M r (ia 0 z (upd f (8 * k + i) v))) := by
  subst ho; subst hj
  have e := ix8 hk hz
  have := c_X2_set (G := G) (v := v) hB hr e.1
  rw [e.2] at this
  exact this
set_option maxRecDepth 20000 in
/-- stands: of any number -/
theorem c_stands {o : Int32} (hB : gt M h = some (bk r w n ph rf lo hi)) (hr : gt M r = some (ia 0 328 f)) (hn : n ≤ 41) : CtI G mX2_stands [.ref h, .int o] M 0 0 (fun x M' => M' = M ∧ ((∃ k, k < n ∧ o = nI k ∧ f (8 * k + 7) = 0 ∧ x = 1) ∨ ((∀ k, k < n → o = nI k → f (8 * k + 7) ≠ 0) ∧ x = 0))) := by
  refine Ct.of (ls := [some (.ref h), some (.int o)]) (by decide) (by decide) rfl rfl rfl ?_
  refine Ev.ald0 dX2_stands_0 ?_
  refine Ev.ild1 dX2_stands_1 ?_
  refine Ev.cvI (Yc := mX2_has) (ci := 2) dX2_stands_2 lX2_40 vX2_has rfl (c_X2_has hB) ?_ rfl rfl rfl rfl ?_
  · apply Exists.intro; repeat (first | assumption | (refine gt_upI ?_; (repeat (first | refine In_up ?_ | refine In_nw ?_)); apply In_of; assumption) | refine gt_rd (by first | assumption | (apply Ne.symm; assumption) | (exact hj _ _ (by omega) (by omega) (by omega)) | omega) ?_ | exact gt_nw (by assumption) | refine gt_odr (by first | assumption | (apply Ne.symm; assumption) | omega) ?_)
  rintro x M' ⟨hx, rfl⟩
  refine Ev.if_eq (tgt := 22) dX2_stands_5 (by decide) (fun c1 => ?_) (fun c1 => ?_)
  · refine Ev.iconst (v := 0) dX2_stands_22 (by decide) ?_
    refine Ev.iret dX2_stands_23 rfl rfl ?_
    refine ⟨_, rfl, rfl, Or.inr ⟨fun k hk e => ?_, rfl⟩⟩
    rw [e, if_pos ⟨nI_pos' (by omega), nI_lt hk (by omega)⟩] at hx
    rw [hx] at c1
    exact absurd c1 (by decide)
  · have hin : 0 ≤ o ∧ o < nI n := by
      by_cases q : 0 ≤ o ∧ o < nI n
      · exact q
      · rw [if_neg q] at hx
        exact absurd hx c1
    obtain ⟨k, hk, ho⟩ := nI_in_of hin.1 hin.2 (by omega)
    refine Ev.ald0 dX2_stands_8 ?_
    refine Ev.ild1 dX2_stands_9 ?_
    refine Ev.bipush (v := 7) dX2_stands_10 (by decide) ?_
    refine Ev.cvI (Yc := mX2_get) (ci := 2) dX2_stands_12 lX2_44 vX2_get rfl (c_get k 7 ho rfl hB hr (by omega) (by omega)) ?_ rfl rfl rfl rfl ?_
    · apply Exists.intro; repeat (first | assumption | (refine gt_upI ?_; (repeat (first | refine In_up ?_ | refine In_nw ?_)); apply In_of; assumption) | refine gt_rd (by first | assumption | (apply Ne.symm; assumption) | (exact hj _ _ (by omega) (by omega) (by omega)) | omega) ?_ | exact gt_nw (by assumption) | refine gt_odr (by first | assumption | (apply Ne.symm; assumption) | omega) ?_)
    rintro y M'' ⟨hy, rfl⟩
    refine Ev.if_ne (tgt := 22) dX2_stands_15 (by decide) (fun c2 => ?_) (fun c2 => ?_)
    · refine Ev.iconst (v := 0) dX2_stands_22 (by decide) ?_
      refine Ev.iret dX2_stands_23 rfl rfl ?_
      refine ⟨_, rfl, rfl, Or.inr ⟨fun k2 hk2 e => ?_, rfl⟩⟩
      have : k2 = k := (nI_eq (by omega) (by omega)).mp (e.symm.trans ho)
      rw [this, ← hy]
      exact c2
    · refine Ev.iconst (v := 1) dX2_stands_18 (by decide) ?_
      refine Ev.goto (tgt := 23) dX2_stands_19 (by decide) ?_
      refine Ev.iret dX2_stands_23 rfl rfl ?_
      exact ⟨_, rfl, rfl, Or.inl ⟨k, hk, ho, hy.symm.trans c2, rfl⟩⟩
/-- stands: of a number below the size -/
theorem c_standsN {o : Int32} (k : Nat) (ho : o = nI k) (hk : k < n) (hB : gt M h = some (bk r w n ph rf lo hi)) (hr : gt M r = some (ia 0 328 f)) (hn : n ≤ 41) : CtI G mX2_stands [.ref h, .int o] M 0 0 (fun x M' => x = (if f (8 * k + 7) = 0 then 1 else 0) ∧ M' = M) := by
  refine Ct.mono (c_stands (G := G) (o := o) hB hr hn) ?_
  rintro v M' ⟨x, rfl, rfl, h | h⟩
  · obtain ⟨k2, hk2, e, h0, rfl⟩ := h
    have : k2 = k := (nI_eq (by omega) (by omega)).mp (e.symm.trans ho)
    subst this
    exact ⟨_, rfl, by rw [if_pos h0], rfl⟩
  · obtain ⟨h1, rfl⟩ := h
    exact ⟨_, rfl, by rw [if_neg (h1 k hk ho)], rfl⟩
set_option maxRecDepth 20000 in
theorem c_shownOf {o : Int32} (k : Nat) (ho : o = nI k) (hk : k < 41) (hB : gt M h = some (ob 2 (.ref r :: fs))) (hr : gt M r = some (ia 0 328 f)) : CtI G mX2_shownOf [.ref h, .int o] M 0 0 (fun x M' => x = (if f (8 * k + 1) = 2 then 0 else if f (8 * k + 1) = 3 then f (8 * k + 4) else f (8 * k + 2)) ∧ M' = M) := by
  refine Ct.of (ls := [some (.ref h), some (.int o)]) (by decide) (by decide) rfl rfl rfl ?_
  refine Ev.ald0 dX2_shownOf_0 ?_
  refine Ev.ild1 dX2_shownOf_1 ?_
  refine Ev.iconst (v := 1) dX2_shownOf_2 (by decide) ?_
  refine Ev.cvI (Yc := mX2_get) (ci := 2) dX2_shownOf_3 lX2_44 vX2_get rfl (c_get k 1 ho rfl hB hr (by omega) (by omega)) ?_ rfl rfl rfl rfl ?_
  · apply Exists.intro; repeat (first | assumption | (refine gt_upI ?_; (repeat (first | refine In_up ?_ | refine In_nw ?_)); apply In_of; assumption) | refine gt_rd (by first | assumption | (apply Ne.symm; assumption) | (exact hj _ _ (by omega) (by omega) (by omega)) | omega) ?_ | exact gt_nw (by assumption) | refine gt_odr (by first | assumption | (apply Ne.symm; assumption) | omega) ?_)
  rintro x M' ⟨hx, rfl⟩
  by_cases h2 : x = 2
  · refine Ev.lsw (off := 26) (tgt := 32) dX2_shownOf_6 (by decide) (by rw [h2]; try rfl) (by decide) ?_
    refine Ev.iconst (v := 0) dX2_shownOf_32 (by decide) ?_
    refine Ev.iret dX2_shownOf_33 rfl rfl ?_
    exact ⟨_, rfl, by rw [← hx, if_pos h2], rfl⟩
  · by_cases h3 : x = 3
    · refine Ev.lsw (off := 28) (tgt := 34) dX2_shownOf_6 (by decide) (by rw [h3]; try rfl) (by decide) ?_
      refine Ev.ald0 dX2_shownOf_34 ?_
      refine Ev.ild1 dX2_shownOf_35 ?_
      refine Ev.iconst (v := 4) dX2_shownOf_36 (by decide) ?_
      refine Ev.cvI (Yc := mX2_get) (ci := 2) dX2_shownOf_37 lX2_44 vX2_get rfl (c_get k 4 ho rfl hB hr (by omega) (by omega)) ?_ rfl rfl rfl rfl ?_
      · apply Exists.intro; repeat (first | assumption | (refine gt_upI ?_; (repeat (first | refine In_up ?_ | refine In_nw ?_)); apply In_of; assumption) | refine gt_rd (by first | assumption | (apply Ne.symm; assumption) | (exact hj _ _ (by omega) (by omega) (by omega)) | omega) ?_ | exact gt_nw (by assumption) | refine gt_odr (by first | assumption | (apply Ne.symm; assumption) | omega) ?_)
      rintro y M'' ⟨hy, rfl⟩
      refine Ev.iret dX2_shownOf_40 rfl rfl ?_
      exact ⟨_, rfl, by rw [← hx, if_neg h2, if_pos h3]; exact hy, rfl⟩
    · refine Ev.lsw (off := 35) (tgt := 41) dX2_shownOf_6 (by decide) ((lv_osw h2 rfl).trans ((lv_osw h3 rfl).trans rfl)) (by decide) ?_
      refine Ev.ald0 dX2_shownOf_41 ?_
      refine Ev.ild1 dX2_shownOf_42 ?_
      refine Ev.iconst (v := 2) dX2_shownOf_43 (by decide) ?_
      refine Ev.cvI (Yc := mX2_get) (ci := 2) dX2_shownOf_44 lX2_44 vX2_get rfl (c_get k 2 ho rfl hB hr (by omega) (by omega)) ?_ rfl rfl rfl rfl ?_
      · apply Exists.intro; repeat (first | assumption | (refine gt_upI ?_; (repeat (first | refine In_up ?_ | refine In_nw ?_)); apply In_of; assumption) | refine gt_rd (by first | assumption | (apply Ne.symm; assumption) | (exact hj _ _ (by omega) (by omega) (by omega)) | omega) ?_ | exact gt_nw (by assumption) | refine gt_odr (by first | assumption | (apply Ne.symm; assumption) | omega) ?_)
      rintro y M'' ⟨hy, rfl⟩
      refine Ev.iret dX2_shownOf_47 rfl rfl ?_
      exact ⟨_, rfl, by rw [← hx, if_neg h2, if_neg h3]; exact hy, rfl⟩
set_option maxRecDepth 20000 in
theorem c_standsAt {o sd : Int32} (k : Nat) (ho : o = nI k) (hk : k < n) (hB : gt M h = some (bk r w n ph rf lo hi)) (hr : gt M r = some (ia 0 328 f)) (hn : n ≤ 41) : CtI G mX2_standsAtLevel [.ref h, .int o, .int sd] M 0 0 (fun x M' => x = (if f (8 * k + 7) = 0 ∧ f (8 * k + 0) = sd ∧ f (8 * k + 1) ≠ 0 then 1 else 0) ∧ M' = M) := by
  refine Ct.of (ls := [some (.ref h), some (.int o), some (.int sd)]) (by decide) (by decide) rfl rfl rfl ?_
  refine Ev.ald0 dX2_standsAtLevel_0 ?_
  refine Ev.ild1 dX2_standsAtLevel_1 ?_
  refine Ev.cvI (Yc := mX2_stands) (ci := 2) dX2_standsAtLevel_2 lX2_57 vX2_stands rfl (c_standsN k ho hk hB hr hn) ?_ rfl rfl rfl rfl ?_
  · apply Exists.intro; repeat (first | assumption | (refine gt_upI ?_; (repeat (first | refine In_up ?_ | refine In_nw ?_)); apply In_of; assumption) | refine gt_rd (by first | assumption | (apply Ne.symm; assumption) | (exact hj _ _ (by omega) (by omega) (by omega)) | omega) ?_ | exact gt_nw (by assumption) | refine gt_odr (by first | assumption | (apply Ne.symm; assumption) | omega) ?_)
  rintro x M' ⟨hx, rfl⟩
  refine Ev.if_eq (tgt := 31) dX2_standsAtLevel_5 (by decide) (fun c1 => ?_) (fun c1 => ?_)
  · refine Ev.iconst (v := 0) dX2_standsAtLevel_31 (by decide) ?_
    refine Ev.iret dX2_standsAtLevel_32 rfl rfl ?_
    refine ⟨_, rfl, ?_, rfl⟩
    rw [if_neg]
    rintro ⟨h1, -⟩
    rw [if_pos h1] at hx
    rw [hx] at c1
    exact absurd c1 (by decide)
  · have h7 : f (8 * k + 7) = 0 := by
      by_cases q : f (8 * k + 7) = 0
      · exact q
      · rw [if_neg q] at hx
        exact absurd hx c1
    refine Ev.ald0 dX2_standsAtLevel_8 ?_
    refine Ev.ild1 dX2_standsAtLevel_9 ?_
    refine Ev.iconst (v := 0) dX2_standsAtLevel_10 (by decide) ?_
    refine Ev.cvI (Yc := mX2_get) (ci := 2) dX2_standsAtLevel_11 lX2_44 vX2_get rfl (c_get k 0 ho rfl hB hr (by omega) (by omega)) ?_ rfl rfl rfl rfl ?_
    · apply Exists.intro; repeat (first | assumption | (refine gt_upI ?_; (repeat (first | refine In_up ?_ | refine In_nw ?_)); apply In_of; assumption) | refine gt_rd (by first | assumption | (apply Ne.symm; assumption) | (exact hj _ _ (by omega) (by omega) (by omega)) | omega) ?_ | exact gt_nw (by assumption) | refine gt_odr (by first | assumption | (apply Ne.symm; assumption) | omega) ?_)
    rintro y M'' ⟨hy, rfl⟩
    refine Ev.ild2 dX2_standsAtLevel_14 ?_
    refine Ev.icmp_ne (tgt := 31) dX2_standsAtLevel_15 (by decide) (fun c2 => ?_) (fun c2 => ?_)
    · refine Ev.iconst (v := 0) dX2_standsAtLevel_31 (by decide) ?_
      refine Ev.iret dX2_standsAtLevel_32 rfl rfl ?_
      exact ⟨_, rfl, by rw [if_neg]; rintro ⟨-, h1, -⟩; exact c2 (hy.trans h1), rfl⟩
    · refine Ev.ald0 dX2_standsAtLevel_18 ?_
      refine Ev.ild1 dX2_standsAtLevel_19 ?_
      refine Ev.iconst (v := 1) dX2_standsAtLevel_20 (by decide) ?_
      refine Ev.cvI (Yc := mX2_get) (ci := 2) dX2_standsAtLevel_21 lX2_44 vX2_get rfl (c_get k 1 ho rfl hB hr (by omega) (by omega)) ?_ rfl rfl rfl rfl ?_
      · apply Exists.intro; repeat (first | assumption | (refine gt_upI ?_; (repeat (first | refine In_up ?_ | refine In_nw ?_)); apply In_of; assumption) | refine gt_rd (by first | assumption | (apply Ne.symm; assumption) | (exact hj _ _ (by omega) (by omega) (by omega)) | omega) ?_ | exact gt_nw (by assumption) | refine gt_odr (by first | assumption | (apply Ne.symm; assumption) | omega) ?_)
      rintro t M'' ⟨ht, rfl⟩
      refine Ev.if_eq (tgt := 31) dX2_standsAtLevel_24 (by decide) (fun c3 => ?_) (fun c3 => ?_)
      · refine Ev.iconst (v := 0) dX2_standsAtLevel_31 (by decide) ?_
        refine Ev.iret dX2_standsAtLevel_32 rfl rfl ?_
        exact ⟨_, rfl, by rw [if_neg]; rintro ⟨-, -, h1⟩; exact h1 (ht.symm.trans c3), rfl⟩
      · refine Ev.iconst (v := 1) dX2_standsAtLevel_27 (by decide) ?_
        refine Ev.goto (tgt := 32) dX2_standsAtLevel_28 (by decide) ?_
        refine Ev.iret dX2_standsAtLevel_32 rfl rfl ?_
        exact ⟨_, rfl, by rw [if_pos ⟨h7, hy.symm.trans c2, fun q => c3 (ht.trans q)⟩], rfl⟩
end BKB
