section BKG
variable {G : GP} {M : Wd} {h r w n : Nat} {fs : List Value} {f : Nat → Int32} {ph rf lo hi : Int32}
set_option maxRecDepth 20000 in
theorem c_keepShown (hB : gt M h = some (bk r w n ph rf lo hi)) (hr : gt M r = some (ia 0 328 f)) (hn : n ≤ 41) (hne : h ≠ r) : CtV G mX2_keepShown [.ref h] M 0 0 (fun M' => M' = up M r (ia 0 328 (ksh f n))) := by
  have L : ∀ d k, k + d = n → Ev G mX2_keepShown 2 [some (.ref h), some (.int (nI k))] [] (up M r (ia 0 328 (ksh f k))) 0 0 (fun v M' => v = none ∧ M' = up M r (ia 0 328 (ksh f n))) := by
    intro d
    induction d with
    | zero =>
      intro k hk
      refine Ev.ild1 dX2_keepShown_2 ?_
      refine Ev.ald0 dX2_keepShown_3 ?_
      apply Ev.getf dX2_keepShown_4 fX2_18
      · repeat (first | assumption | (refine gt_upI ?_; (repeat (first | refine In_up ?_ | refine In_nw ?_)); apply In_of; assumption) | refine gt_rd (by first | assumption | (apply Ne.symm; assumption) | (exact hj _ _ (by omega) (by omega) (by omega)) | omega) ?_ | exact gt_nw (by assumption) | refine gt_odr (by first | assumption | (apply Ne.symm; assumption) | omega) ?_)
      · first | rfl | assumption
      refine Ev.icmp_ge (tgt := 34) dX2_keepShown_7 (by decide) (fun c9 => ?_) (fun c9 => absurd (nI_le (by omega) (by omega)) c9)
      refine Ev.vret dX2_keepShown_34 rfl ?_
      exact ⟨rfl, by rw [show k = n by omega]⟩
    | succ d ih =>
      intro k hk
      refine Ev.ild1 dX2_keepShown_2 ?_
      refine Ev.ald0 dX2_keepShown_3 ?_
      apply Ev.getf dX2_keepShown_4 fX2_18
      · repeat (first | assumption | (refine gt_upI ?_; (repeat (first | refine In_up ?_ | refine In_nw ?_)); apply In_of; assumption) | refine gt_rd (by first | assumption | (apply Ne.symm; assumption) | (exact hj _ _ (by omega) (by omega) (by omega)) | omega) ?_ | exact gt_nw (by assumption) | refine gt_odr (by first | assumption | (apply Ne.symm; assumption) | omega) ?_)
      · first | rfl | assumption
      refine Ev.icmp_ge (tgt := 34) dX2_keepShown_7 (by decide) (fun c9 => absurd c9 (nI_ge (by omega) (by omega))) (fun c9 => ?_)
      refine Ev.ald0 dX2_keepShown_10 ?_
      refine Ev.ild1 dX2_keepShown_11 ?_
      refine Ev.iconst (v := 5) dX2_keepShown_12 (by decide) ?_
      refine Ev.iconst (v := 0) dX2_keepShown_13 (by decide) ?_
      refine Ev.cvV (Yc := mX2_set) (ci := 2) dX2_keepShown_14 lX2_48 vX2_set rfl (c_set k 5 rfl rfl (gt_rd hne hB) (gt_up hr) (by omega) (by omega)) ?_ rfl rfl rfl rfl ?_
      · apply Exists.intro; repeat (first | assumption | (refine gt_upI ?_; (repeat (first | refine In_up ?_ | refine In_nw ?_)); apply In_of; assumption) | refine gt_rd (by first | assumption | (apply Ne.symm; assumption) | (exact hj _ _ (by omega) (by omega) (by omega)) | omega) ?_ | exact gt_nw (by assumption) | refine gt_odr (by first | assumption | (apply Ne.symm; assumption) | omega) ?_)
      rintro M' rfl
      rw [up_up]
      refine Ev.ald0 dX2_keepShown_17 ?_
      refine Ev.ild1 dX2_keepShown_18 ?_
      refine Ev.iconst (v := 2) dX2_keepShown_19 (by decide) ?_
      refine Ev.ald0 dX2_keepShown_20 ?_
      refine Ev.ild1 dX2_keepShown_21 ?_
      refine Ev.cvI (Yc := mX2_shownOf) (ci := 2) dX2_keepShown_22 lX2_76 vX2_shownOf rfl (c_shownOf k rfl (by omega) (gt_rd hne hB) (gt_up hr)) ?_ rfl rfl rfl rfl ?_
      · apply Exists.intro; repeat (first | assumption | (refine gt_upI ?_; (repeat (first | refine In_up ?_ | refine In_nw ?_)); apply In_of; assumption) | refine gt_rd (by first | assumption | (apply Ne.symm; assumption) | (exact hj _ _ (by omega) (by omega) (by omega)) | omega) ?_ | exact gt_nw (by assumption) | refine gt_odr (by first | assumption | (apply Ne.symm; assumption) | omega) ?_)
      rintro x M' ⟨hx, rfl⟩
      refine Ev.cvV (Yc := mX2_set) (ci := 2) dX2_keepShown_25 lX2_48 vX2_set rfl (c_set k 2 rfl rfl (gt_rd hne hB) (gt_up hr) (by omega) (by omega)) ?_ rfl rfl rfl rfl ?_
      · apply Exists.intro; repeat (first | assumption | (refine gt_upI ?_; (repeat (first | refine In_up ?_ | refine In_nw ?_)); apply In_of; assumption) | refine gt_rd (by first | assumption | (apply Ne.symm; assumption) | (exact hj _ _ (by omega) (by omega) (by omega)) | omega) ?_ | exact gt_nw (by assumption) | refine gt_odr (by first | assumption | (apply Ne.symm; assumption) | omega) ?_)
      rintro M' rfl
      rw [up_up]
      apply Ev.iinc1 dX2_keepShown_28 rfl rfl
      · first | exact nI_inc _ | rfl
      refine Ev.goto (tgt := 2) dX2_keepShown_31 (by decide) ?_
      exact Ev.cgM rfl (by rw [ksh, hx]; rfl) (ih (k + 1) (by omega))
  refine Ct.of (ls := [some (.ref h), none]) (by decide) (by decide) rfl rfl rfl ?_
  refine Ev.iconst (v := 0) dX2_keepShown_0 (by decide) ?_
  refine Ev.ist1 dX2_keepShown_1 rfl rfl ?_
  exact Ev.cgM rfl (by rw [ksh, up_id hr]) (L n 0 (by omega))
set_option maxRecDepth 20000 in
theorem c_leave {fa z : Nat} {fl : Nat → Int32} (hB : gt M h = some (bk r w n ph rf lo hi)) (hr : gt M r = some (ia 0 328 f)) {g : Nat → Int32} (hw : gt M w = some (ia 0 320 g)) (hf : gt M fa = some (ia 0 z fl)) (hz : n ≤ z) (hz2 : z ≤ 100) (hn : n ≤ 40) (e1 : h ≠ r) (e2 : h ≠ w) (e3 : r ≠ w) (e4 : fa ≠ h) (e5 : fa ≠ r) (e6 : fa ≠ w) : CtV G mX2_leave [.ref h, .ref fa] M 0 0 (fun M' => M' = up (up (up M w (ia 0 320 (va_cpy f g 0 0 (8 * n)))) h (bk r w n 2 rf lo hi)) r (ia 0 328 (lev f fl n))) := by
  have L : ∀ d k, k + d = n → Ev G mX2_leave 27 [some (.ref h), some (.ref fa), some (.int (nI k))] [] (up (up (up M w (ia 0 320 (va_cpy f g 0 0 (8 * n)))) h (bk r w n 2 rf lo hi)) r (ia 0 328 (lev f fl k))) 0 0 (fun v M' => v = none ∧ M' = up (up (up M w (ia 0 320 (va_cpy f g 0 0 (8 * n)))) h (bk r w n 2 rf lo hi)) r (ia 0 328 (lev f fl n))) := by
    intro d
    induction d with
    | zero =>
      intro k hk
      refine Ev.ild2 dX2_leave_27 ?_
      refine Ev.ald0 dX2_leave_28 ?_
      apply Ev.getf dX2_leave_29 fX2_18
      · repeat (first | assumption | (refine gt_upI ?_; (repeat (first | refine In_up ?_ | refine In_nw ?_)); apply In_of; assumption) | refine gt_rd (by first | assumption | (apply Ne.symm; assumption) | (exact hj _ _ (by omega) (by omega) (by omega)) | omega) ?_ | exact gt_nw (by assumption) | refine gt_odr (by first | assumption | (apply Ne.symm; assumption) | omega) ?_)
      · first | rfl | assumption
      refine Ev.icmp_ge (tgt := 57) dX2_leave_32 (by decide) (fun c9 => ?_) (fun c9 => absurd (nI_le (by omega) (by omega)) c9)
      refine Ev.vret dX2_leave_57 rfl ?_
      exact ⟨rfl, by rw [show k = n by omega]⟩
    | succ d ih =>
      intro k hk
      have q1 : gt (up (up (up M w (ia 0 320 (va_cpy f g 0 0 (8 * n)))) h (bk r w n 2 rf lo hi)) r (ia 0 328 (lev f fl k))) h = some (bk r w n 2 rf lo hi) := gt_rd e1 (gt_up (gt_rd e2 hB))
      have q2 : gt (up (up (up M w (ia 0 320 (va_cpy f g 0 0 (8 * n)))) h (bk r w n 2 rf lo hi)) r (ia 0 328 (lev f fl k))) r = some (ia 0 328 (lev f fl k)) := gt_up (gt_rd e1.symm (gt_rd e3 hr))
      refine Ev.ild2 dX2_leave_27 ?_
      refine Ev.ald0 dX2_leave_28 ?_
      apply Ev.getf dX2_leave_29 fX2_18
      · repeat (first | assumption | (refine gt_upI ?_; (repeat (first | refine In_up ?_ | refine In_nw ?_)); apply In_of; assumption) | refine gt_rd (by first | assumption | (apply Ne.symm; assumption) | (exact hj _ _ (by omega) (by omega) (by omega)) | omega) ?_ | exact gt_nw (by assumption) | refine gt_odr (by first | assumption | (apply Ne.symm; assumption) | omega) ?_)
      · first | rfl | assumption
      refine Ev.icmp_ge (tgt := 57) dX2_leave_32 (by decide) (fun c9 => absurd c9 (nI_ge (by omega) (by omega))) (fun c9 => ?_)
      refine Ev.ald0 dX2_leave_35 ?_
      refine Ev.ild2 dX2_leave_36 ?_
      refine Ev.cvI (Yc := mX2_stands) (ci := 2) dX2_leave_37 lX2_57 vX2_stands rfl (c_standsN k rfl (by omega) q1 q2 (by omega)) ?_ rfl rfl rfl rfl ?_
      · apply Exists.intro; repeat (first | assumption | (refine gt_upI ?_; (repeat (first | refine In_up ?_ | refine In_nw ?_)); apply In_of; assumption) | refine gt_rd (by first | assumption | (apply Ne.symm; assumption) | (exact hj _ _ (by omega) (by omega) (by omega)) | omega) ?_ | exact gt_nw (by assumption) | refine gt_odr (by first | assumption | (apply Ne.symm; assumption) | omega) ?_)
      rintro x M' ⟨hx, rfl⟩
      refine Ev.if_eq (tgt := 51) dX2_leave_40 (by decide) (fun c40 => ?_) (fun c40 => ?_)
      · apply Ev.iinc2 dX2_leave_51 rfl rfl
        · first | exact nI_inc _ | rfl
        refine Ev.goto (tgt := 27) dX2_leave_54 (by decide) ?_
        exact Ev.cgM rfl (by rw [lev]; grind) (ih (k + 1) (by omega))
      · refine Ev.ald0 dX2_leave_43 ?_
        refine Ev.ild2 dX2_leave_44 ?_
        refine Ev.ald1 dX2_leave_45 ?_
        refine Ev.ild2 dX2_leave_46 ?_
        apply Ev.iald dX2_leave_47
        · repeat (first | assumption | (refine gt_upI ?_; (repeat (first | refine In_up ?_ | refine In_nw ?_)); apply In_of; assumption) | refine gt_rd (by first | assumption | (apply Ne.symm; assumption) | (exact hj _ _ (by omega) (by omega) (by omega)) | omega) ?_ | exact gt_nw (by assumption) | refine gt_odr (by first | assumption | (apply Ne.symm; assumption) | omega) ?_)
        · exact vp_in_nI (by omega) (by omega)
        refine Ev.cvV (Yc := mX2_leaveOne) (ci := 2) dX2_leave_48 lX2_60 vX2_leaveOne rfl (c_leaveOne k rfl (by omega) e1 q1 q2) ?_ rfl rfl rfl rfl ?_
        · apply Exists.intro; repeat (first | assumption | (refine gt_upI ?_; (repeat (first | refine In_up ?_ | refine In_nw ?_)); apply In_of; assumption) | refine gt_rd (by first | assumption | (apply Ne.symm; assumption) | (exact hj _ _ (by omega) (by omega) (by omega)) | omega) ?_ | exact gt_nw (by assumption) | refine gt_odr (by first | assumption | (apply Ne.symm; assumption) | omega) ?_)
        rintro M' rfl
        rw [up_up, nI_clamp (by omega)]
        apply Ev.iinc2 dX2_leave_51 rfl rfl
        · first | exact nI_inc _ | rfl
        refine Ev.goto (tgt := 27) dX2_leave_54 (by decide) ?_
        exact Ev.cgM rfl (by rw [lev]; grind) (ih (k + 1) (by omega))
  refine Ct.of (ls := [some (.ref h), some (.ref fa), none]) (by decide) (by decide) rfl rfl rfl ?_
  refine Ev.ald0 dX2_leave_0 ?_
  apply Ev.getf dX2_leave_1 fX2_9
  · repeat (first | assumption | (refine gt_upI ?_; (repeat (first | refine In_up ?_ | refine In_nw ?_)); apply In_of; assumption) | refine gt_rd (by first | assumption | (apply Ne.symm; assumption) | (exact hj _ _ (by omega) (by omega) (by omega)) | omega) ?_ | exact gt_nw (by assumption) | refine gt_odr (by first | assumption | (apply Ne.symm; assumption) | omega) ?_)
  · first | rfl | assumption
  refine Ev.iconst (v := 0) dX2_leave_4 (by decide) ?_
  refine Ev.ald0 dX2_leave_5 ?_
  apply Ev.getf dX2_leave_6 fX2_15
  · repeat (first | assumption | (refine gt_upI ?_; (repeat (first | refine In_up ?_ | refine In_nw ?_)); apply In_of; assumption) | refine gt_rd (by first | assumption | (apply Ne.symm; assumption) | (exact hj _ _ (by omega) (by omega) (by omega)) | omega) ?_ | exact gt_nw (by assumption) | refine gt_odr (by first | assumption | (apply Ne.symm; assumption) | omega) ?_)
  · first | rfl | assumption
  refine Ev.iconst (v := 0) dX2_leave_9 (by decide) ?_
  refine Ev.ald0 dX2_leave_10 ?_
  apply Ev.getf dX2_leave_11 fX2_18
  · repeat (first | assumption | (refine gt_upI ?_; (repeat (first | refine In_up ?_ | refine In_nw ?_)); apply In_of; assumption) | refine gt_rd (by first | assumption | (apply Ne.symm; assumption) | (exact hj _ _ (by omega) (by omega) (by omega)) | omega) ?_ | exact gt_nw (by assumption) | refine gt_odr (by first | assumption | (apply Ne.symm; assumption) | omega) ?_)
  · first | rfl | assumption
  refine Ev.bipush (v := 8) dX2_leave_14 (by decide) ?_
  refine Ev.imul dX2_leave_16 ?_
  have z := cp8 (n := n) (m := 320) (by omega) (by omega)
  rw [n8]
  refine Ev.copy (f := f) (g := g) (n0 := 328) (n1 := 320) dX2_leave_17 lX2_34 (fun _ => trivial) hr hw (by decide) (by decide) z.1 (by rw [z.2]; show 0 + _ ≤ _; omega) (by rw [z.2]; show 0 + _ ≤ _; omega) rfl rfl ?_
  refine Ev.ald0 dX2_leave_20 ?_
  refine Ev.iconst (v := 2) dX2_leave_21 (by decide) ?_
  apply Ev.put dX2_leave_22 fX2_22
  · repeat (first | assumption | (refine gt_upI ?_; (repeat (first | refine In_up ?_ | refine In_nw ?_)); apply In_of; assumption) | refine gt_rd (by first | assumption | (apply Ne.symm; assumption) | (exact hj _ _ (by omega) (by omega) (by omega)) | omega) ?_ | exact gt_nw (by assumption) | refine gt_odr (by first | assumption | (apply Ne.symm; assumption) | omega) ?_)
  · rfl
  · rfl
  · rfl
  refine Ev.iconst (v := 0) dX2_leave_25 (by decide) ?_
  refine Ev.ist2 dX2_leave_26 rfl rfl ?_
  exact Ev.cgM rfl (by rw [z.2]; exact (up_id (gt_rd e1.symm (gt_rd e3 hr))).symm) (L n 0 (by omega))
set_option maxRecDepth 20000 in
theorem c_forgetGone (hB : gt M h = some (bk r w n ph rf lo hi)) (hr : gt M r = some (ia 0 328 f)) (hn : n ≤ 40) (hne : h ≠ r) : CtV G mX2_forgetGone [.ref h] M 0 0 (fun M' => M' = up (up M r (ia 0 328 (fgt f n).1)) h (bk r w (fgt f n).2 ph rf lo hi)) := by
  have L : ∀ d k, k + d = n → Ev G mX2_forgetGone 4 [some (.ref h), some (.int (nI (fgt f k).2)), some (.int (nI k))] [] (up M r (ia 0 328 (fgt f k).1)) 0 0 (fun v M' => v = none ∧ M' = up (up M r (ia 0 328 (fgt f n).1)) h (bk r w (fgt f n).2 ph rf lo hi)) := by
    intro d
    induction d with
    | zero =>
      intro k hk
      refine Ev.ild2 dX2_forgetGone_4 ?_
      refine Ev.ald0 dX2_forgetGone_5 ?_
      apply Ev.getf dX2_forgetGone_6 fX2_18
      · repeat (first | assumption | (refine gt_upI ?_; (repeat (first | refine In_up ?_ | refine In_nw ?_)); apply In_of; assumption) | refine gt_rd (by first | assumption | (apply Ne.symm; assumption) | (exact hj _ _ (by omega) (by omega) (by omega)) | omega) ?_ | exact gt_nw (by assumption) | refine gt_odr (by first | assumption | (apply Ne.symm; assumption) | omega) ?_)
      · first | rfl | assumption
      refine Ev.icmp_ge (tgt := 50) dX2_forgetGone_9 (by decide) (fun c9 => ?_) (fun c9 => absurd (nI_le (by omega) (by omega)) c9)
      refine Ev.ald0 dX2_forgetGone_50 ?_
      refine Ev.ild1 dX2_forgetGone_51 ?_
      apply Ev.put dX2_forgetGone_52 fX2_18
      · repeat (first | assumption | (refine gt_upI ?_; (repeat (first | refine In_up ?_ | refine In_nw ?_)); apply In_of; assumption) | refine gt_rd (by first | assumption | (apply Ne.symm; assumption) | (exact hj _ _ (by omega) (by omega) (by omega)) | omega) ?_ | exact gt_nw (by assumption) | refine gt_odr (by first | assumption | (apply Ne.symm; assumption) | omega) ?_)
      · rfl
      · rfl
      · rfl
      refine Ev.vret dX2_forgetGone_55 rfl ?_
      exact ⟨rfl, by rw [show k = n by omega]; rfl⟩
    | succ d ih =>
      intro k hk
      have q1 : gt (up M r (ia 0 328 (fgt f k).1)) h = some (bk r w n ph rf lo hi) := gt_rd hne hB
      have q2 : gt (up M r (ia 0 328 (fgt f k).1)) r = some (ia 0 328 (fgt f k).1) := gt_up hr
      have hle := fgt_le f k
      refine Ev.ild2 dX2_forgetGone_4 ?_
      refine Ev.ald0 dX2_forgetGone_5 ?_
      apply Ev.getf dX2_forgetGone_6 fX2_18
      · repeat (first | assumption | (refine gt_upI ?_; (repeat (first | refine In_up ?_ | refine In_nw ?_)); apply In_of; assumption) | refine gt_rd (by first | assumption | (apply Ne.symm; assumption) | (exact hj _ _ (by omega) (by omega) (by omega)) | omega) ?_ | exact gt_nw (by assumption) | refine gt_odr (by first | assumption | (apply Ne.symm; assumption) | omega) ?_)
      · first | rfl | assumption
      refine Ev.icmp_ge (tgt := 50) dX2_forgetGone_9 (by decide) (fun c9 => absurd c9 (nI_ge (by omega) (by omega))) (fun c9 => ?_)
      refine Ev.ald0 dX2_forgetGone_12 ?_
      refine Ev.ild2 dX2_forgetGone_13 ?_
      refine Ev.cvI (Yc := mX2_stands) (ci := 2) dX2_forgetGone_14 lX2_57 vX2_stands rfl (c_standsN k rfl (by omega) q1 q2 (by omega)) ?_ rfl rfl rfl rfl ?_
      · apply Exists.intro; repeat (first | assumption | (refine gt_upI ?_; (repeat (first | refine In_up ?_ | refine In_nw ?_)); apply In_of; assumption) | refine gt_rd (by first | assumption | (apply Ne.symm; assumption) | (exact hj _ _ (by omega) (by omega) (by omega)) | omega) ?_ | exact gt_nw (by assumption) | refine gt_odr (by first | assumption | (apply Ne.symm; assumption) | omega) ?_)
      rintro x M' ⟨hx, rfl⟩
      refine Ev.if_eq (tgt := 44) dX2_forgetGone_17 (by decide) (fun c17 => ?_) (fun c17 => ?_)
      · apply Ev.iinc2 dX2_forgetGone_44 rfl rfl
        · first | exact nI_inc _ | rfl
        refine Ev.goto (tgt := 4) dX2_forgetGone_47 (by decide) ?_
        exact Ev.cgM (by rw [fgt]; grind) (by rw [fgt]; grind) (ih (k + 1) (by omega))
      · refine Ev.ald0 dX2_forgetGone_20 ?_
        apply Ev.getf dX2_forgetGone_21 fX2_9
        · repeat (first | assumption | (refine gt_upI ?_; (repeat (first | refine In_up ?_ | refine In_nw ?_)); apply In_of; assumption) | refine gt_rd (by first | assumption | (apply Ne.symm; assumption) | (exact hj _ _ (by omega) (by omega) (by omega)) | omega) ?_ | exact gt_nw (by assumption) | refine gt_odr (by first | assumption | (apply Ne.symm; assumption) | omega) ?_)
        · first | rfl | assumption
        refine Ev.ild2 dX2_forgetGone_24 ?_
        refine Ev.bipush (v := 8) dX2_forgetGone_25 (by decide) ?_
        refine Ev.imul dX2_forgetGone_27 ?_
        refine Ev.ald0 dX2_forgetGone_28 ?_
        apply Ev.getf dX2_forgetGone_29 fX2_9
        · repeat (first | assumption | (refine gt_upI ?_; (repeat (first | refine In_up ?_ | refine In_nw ?_)); apply In_of; assumption) | refine gt_rd (by first | assumption | (apply Ne.symm; assumption) | (exact hj _ _ (by omega) (by omega) (by omega)) | omega) ?_ | exact gt_nw (by assumption) | refine gt_odr (by first | assumption | (apply Ne.symm; assumption) | omega) ?_)
        · first | rfl | assumption
        refine Ev.ild1 dX2_forgetGone_32 ?_
        refine Ev.bipush (v := 8) dX2_forgetGone_33 (by decide) ?_
        refine Ev.imul dX2_forgetGone_35 ?_
        refine Ev.bipush (v := 8) dX2_forgetGone_36 (by decide) ?_
        rw [n8, n8]
        have z1 := cp8 (n := k) (m := 328) (by omega) (by omega)
        have z2 := cp8 (n := (fgt f k).2) (m := 328) (by omega) (by omega)
        have z3 : (8 : Int32).toNatClampNeg = 8 := by decide
        refine Ev.copy (f := (fgt f k).1) (g := (fgt f k).1) (n0 := 328) (n1 := 328) dX2_forgetGone_38 lX2_34 (fun _ => trivial) q2 q2 z1.1 z2.1 (by decide) (by rw [z1.2, z3]; omega) (by rw [z2.2, z3]; omega) rfl rfl ?_
        rw [up_up, z1.2, z2.2, z3]
        have h7 : (fgt f k).1 (8 * k + 7) = 0 := by grind
        apply Ev.iinc1 dX2_forgetGone_41 rfl rfl
        · first | exact nI_inc _ | rfl
        apply Ev.iinc2 dX2_forgetGone_44 rfl rfl
        · first | exact nI_inc _ | rfl
        refine Ev.goto (tgt := 4) dX2_forgetGone_47 (by decide) ?_
        exact Ev.cgM (by rw [fgt, if_pos h7]) (by rw [fgt, if_pos h7]) (ih (k + 1) (by omega))
  refine Ct.of (ls := [some (.ref h), none, none]) (by decide) (by decide) rfl rfl rfl ?_
  refine Ev.iconst (v := 0) dX2_forgetGone_0 (by decide) ?_
  refine Ev.ist1 dX2_forgetGone_1 rfl rfl ?_
  refine Ev.iconst (v := 0) dX2_forgetGone_2 (by decide) ?_
  refine Ev.ist2 dX2_forgetGone_3 rfl rfl ?_
  exact Ev.cgM rfl (by rw [fgt, up_id hr]) (L n 0 (by omega))
end BKG
