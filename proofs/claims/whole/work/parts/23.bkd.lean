section BKD
variable {G : GP} {M : Wd} {h r w n : Nat} {fs : List Value} {f : Nat → Int32} {ph rf lo hi : Int32}
set_option maxRecDepth 20000 in
theorem c_countOf {ow : Int32} (hB : gt M h = some (bk r w n ph rf lo hi)) (hr : gt M r = some (ia 0 328 f)) (hn : n ≤ 41) : CtI G mX2_countOf [.ref h, .int ow] M 0 0 (fun x M' => x = cnO f ow n ∧ M' = M) := by
  have L : ∀ d k, k + d = n → Ev G mX2_countOf 4 [some (.ref h), some (.int ow), some (.int (cnO f ow k)), some (.int (nI k))] [] M 0 0 (fun v M' => ∃ x, v = some (.int x) ∧ x = cnO f ow n ∧ M' = M) := by
    intro d
    induction d with
    | zero =>
      intro k hk
      refine Ev.ild3 dX2_countOf_4 ?_
      refine Ev.ald0 dX2_countOf_5 ?_
      apply Ev.getf dX2_countOf_6 fX2_18
      · repeat (first | assumption | (refine gt_upI ?_; (repeat (first | refine In_up ?_ | refine In_nw ?_)); apply In_of; assumption) | refine gt_rd (by first | assumption | (apply Ne.symm; assumption) | (exact hj _ _ (by omega) (by omega) (by omega)) | omega) ?_ | exact gt_nw (by assumption) | refine gt_odr (by first | assumption | (apply Ne.symm; assumption) | omega) ?_)
      · first | rfl | assumption
      refine Ev.icmp_ge (tgt := 45) dX2_countOf_9 (by decide) (fun c9 => ?_) (fun c9 => absurd (nI_le (by omega) (by omega)) c9)
      refine Ev.ild2 dX2_countOf_45 ?_
      refine Ev.iret dX2_countOf_46 rfl rfl ?_
      exact ⟨_, rfl, by rw [show k = n by omega], rfl⟩
    | succ d ih =>
      intro k hk
      refine Ev.ild3 dX2_countOf_4 ?_
      refine Ev.ald0 dX2_countOf_5 ?_
      apply Ev.getf dX2_countOf_6 fX2_18
      · repeat (first | assumption | (refine gt_upI ?_; (repeat (first | refine In_up ?_ | refine In_nw ?_)); apply In_of; assumption) | refine gt_rd (by first | assumption | (apply Ne.symm; assumption) | (exact hj _ _ (by omega) (by omega) (by omega)) | omega) ?_ | exact gt_nw (by assumption) | refine gt_odr (by first | assumption | (apply Ne.symm; assumption) | omega) ?_)
      · first | rfl | assumption
      refine Ev.icmp_ge (tgt := 45) dX2_countOf_9 (by decide) (fun c9 => absurd c9 (nI_ge (by omega) (by omega))) (fun c9 => ?_)
      refine Ev.ild2 dX2_countOf_12 ?_
      refine Ev.ald0 dX2_countOf_13 ?_
      refine Ev.ild3 dX2_countOf_14 ?_
      refine Ev.cvI (Yc := mX2_stands) (ci := 2) dX2_countOf_15 lX2_57 vX2_stands rfl (c_standsN k rfl (by omega) hB hr hn) ?_ rfl rfl rfl rfl ?_
      · apply Exists.intro; repeat (first | assumption | (refine gt_upI ?_; (repeat (first | refine In_up ?_ | refine In_nw ?_)); apply In_of; assumption) | refine gt_rd (by first | assumption | (apply Ne.symm; assumption) | (exact hj _ _ (by omega) (by omega) (by omega)) | omega) ?_ | exact gt_nw (by assumption) | refine gt_odr (by first | assumption | (apply Ne.symm; assumption) | omega) ?_)
      rintro x M' ⟨hx, rfl⟩
      refine Ev.if_eq (tgt := 36) dX2_countOf_18 (by decide) (fun c18 => ?_) (fun c18 => ?_)
      · refine Ev.iconst (v := 0) dX2_countOf_36 (by decide) ?_
        refine Ev.iadd dX2_countOf_37 ?_
        refine Ev.ist2 dX2_countOf_38 rfl rfl ?_
        apply Ev.iinc3 dX2_countOf_39 rfl rfl
        · first | exact nI_inc _ | rfl
        refine Ev.goto (tgt := 4) dX2_countOf_42 (by decide) ?_
        exact Ev.cg (by rw [cnO]; grind) (ih (k + 1) (by omega))
      · refine Ev.ald0 dX2_countOf_21 ?_
        refine Ev.ild3 dX2_countOf_22 ?_
        refine Ev.bipush (v := 6) dX2_countOf_23 (by decide) ?_
        refine Ev.cvI (Yc := mX2_get) (ci := 2) dX2_countOf_25 lX2_44 vX2_get rfl (c_get k 6 rfl rfl hB hr (by omega) (by omega)) ?_ rfl rfl rfl rfl ?_
        · apply Exists.intro; repeat (first | assumption | (refine gt_upI ?_; (repeat (first | refine In_up ?_ | refine In_nw ?_)); apply In_of; assumption) | refine gt_rd (by first | assumption | (apply Ne.symm; assumption) | (exact hj _ _ (by omega) (by omega) (by omega)) | omega) ?_ | exact gt_nw (by assumption) | refine gt_odr (by first | assumption | (apply Ne.symm; assumption) | omega) ?_)
        rintro y M' ⟨hy, rfl⟩
        refine Ev.ild1 dX2_countOf_28 ?_
        refine Ev.icmp_ne (tgt := 36) dX2_countOf_29 (by decide) (fun c29 => ?_) (fun c29 => ?_)
        · refine Ev.iconst (v := 0) dX2_countOf_36 (by decide) ?_
          refine Ev.iadd dX2_countOf_37 ?_
          refine Ev.ist2 dX2_countOf_38 rfl rfl ?_
          apply Ev.iinc3 dX2_countOf_39 rfl rfl
          · first | exact nI_inc _ | rfl
          refine Ev.goto (tgt := 4) dX2_countOf_42 (by decide) ?_
          exact Ev.cg (by rw [cnO]; grind) (ih (k + 1) (by omega))
        · refine Ev.iconst (v := 1) dX2_countOf_32 (by decide) ?_
          refine Ev.goto (tgt := 37) dX2_countOf_33 (by decide) ?_
          refine Ev.iadd dX2_countOf_37 ?_
          refine Ev.ist2 dX2_countOf_38 rfl rfl ?_
          apply Ev.iinc3 dX2_countOf_39 rfl rfl
          · first | exact nI_inc _ | rfl
          refine Ev.goto (tgt := 4) dX2_countOf_42 (by decide) ?_
          exact Ev.cg (by rw [cnO]; grind) (ih (k + 1) (by omega))
  refine Ct.of (ls := [some (.ref h), some (.int ow), none, none]) (by decide) (by decide) rfl rfl rfl ?_
  refine Ev.iconst (v := 0) dX2_countOf_0 (by decide) ?_
  refine Ev.ist2 dX2_countOf_1 rfl rfl ?_
  refine Ev.iconst (v := 0) dX2_countOf_2 (by decide) ?_
  refine Ev.ist3 dX2_countOf_3 rfl rfl ?_
  exact L n 0 (by omega)
set_option maxRecDepth 20000 in
theorem c_levelSum {sd pr wh : Int32} (hB : gt M h = some (bk r w n ph rf lo hi)) (hr : gt M r = some (ia 0 328 f)) (hn : n ≤ 41) : CtI G mX2_levelSum [.ref h, .int sd, .int pr, .int wh] M 0 0 (fun x M' => x = lsm f sd pr wh n ∧ M' = M) := by
  have L : ∀ d k, k + d = n → Ev G mX2_levelSum 6 [some (.ref h), some (.int sd), some (.int pr), some (.int wh), some (.int (lsm f sd pr wh k)), some (.int (nI k))] [] M 0 0 (fun v M' => ∃ x, v = some (.int x) ∧ x = lsm f sd pr wh n ∧ M' = M) := by
    intro d
    induction d with
    | zero =>
      intro k hk
      refine Ev.ild5 dX2_levelSum_6 ?_
      refine Ev.ald0 dX2_levelSum_8 ?_
      apply Ev.getf dX2_levelSum_9 fX2_18
      · repeat (first | assumption | (refine gt_upI ?_; (repeat (first | refine In_up ?_ | refine In_nw ?_)); apply In_of; assumption) | refine gt_rd (by first | assumption | (apply Ne.symm; assumption) | (exact hj _ _ (by omega) (by omega) (by omega)) | omega) ?_ | exact gt_nw (by assumption) | refine gt_odr (by first | assumption | (apply Ne.symm; assumption) | omega) ?_)
      · first | rfl | assumption
      refine Ev.icmp_ge (tgt := 77) dX2_levelSum_12 (by decide) (fun c9 => ?_) (fun c9 => absurd (nI_le (by omega) (by omega)) c9)
      refine Ev.ild4 dX2_levelSum_77 ?_
      refine Ev.iret dX2_levelSum_79 rfl rfl ?_
      exact ⟨_, rfl, by rw [show k = n by omega], rfl⟩
    | succ d ih =>
      intro k hk
      refine Ev.ild5 dX2_levelSum_6 ?_
      refine Ev.ald0 dX2_levelSum_8 ?_
      apply Ev.getf dX2_levelSum_9 fX2_18
      · repeat (first | assumption | (refine gt_upI ?_; (repeat (first | refine In_up ?_ | refine In_nw ?_)); apply In_of; assumption) | refine gt_rd (by first | assumption | (apply Ne.symm; assumption) | (exact hj _ _ (by omega) (by omega) (by omega)) | omega) ?_ | exact gt_nw (by assumption) | refine gt_odr (by first | assumption | (apply Ne.symm; assumption) | omega) ?_)
      · first | rfl | assumption
      refine Ev.icmp_ge (tgt := 77) dX2_levelSum_12 (by decide) (fun c9 => absurd c9 (nI_ge (by omega) (by omega))) (fun c9 => ?_)
      refine Ev.ald0 dX2_levelSum_15 ?_
      refine Ev.ild5 dX2_levelSum_16 ?_
      refine Ev.ild1 dX2_levelSum_18 ?_
      refine Ev.cvI (Yc := mX2_standsAtLevel) (ci := 2) dX2_levelSum_19 lX2_80 vX2_standsAtLevel rfl (c_standsAt k rfl (by omega) hB hr hn) ?_ rfl rfl rfl rfl ?_
      · apply Exists.intro; repeat (first | assumption | (refine gt_upI ?_; (repeat (first | refine In_up ?_ | refine In_nw ?_)); apply In_of; assumption) | refine gt_rd (by first | assumption | (apply Ne.symm; assumption) | (exact hj _ _ (by omega) (by omega) (by omega)) | omega) ?_ | exact gt_nw (by assumption) | refine gt_odr (by first | assumption | (apply Ne.symm; assumption) | omega) ?_)
      rintro x M' ⟨hx, rfl⟩
      refine Ev.if_eq (tgt := 71) dX2_levelSum_22 (by decide) (fun c22 => ?_) (fun c22 => ?_)
      · apply Ev.iinc5 dX2_levelSum_71 rfl rfl
        · first | exact nI_inc _ | rfl
        refine Ev.goto (tgt := 6) dX2_levelSum_74 (by decide) ?_
        exact Ev.cg (by rw [lsm]; simp only [shw]; grind) (ih (k + 1) (by omega))
      · refine Ev.ald0 dX2_levelSum_25 ?_
        refine Ev.ild5 dX2_levelSum_26 ?_
        refine Ev.iconst (v := 3) dX2_levelSum_28 (by decide) ?_
        refine Ev.cvI (Yc := mX2_get) (ci := 2) dX2_levelSum_29 lX2_44 vX2_get rfl (c_get k 3 rfl rfl hB hr (by omega) (by omega)) ?_ rfl rfl rfl rfl ?_
        · apply Exists.intro; repeat (first | assumption | (refine gt_upI ?_; (repeat (first | refine In_up ?_ | refine In_nw ?_)); apply In_of; assumption) | refine gt_rd (by first | assumption | (apply Ne.symm; assumption) | (exact hj _ _ (by omega) (by omega) (by omega)) | omega) ?_ | exact gt_nw (by assumption) | refine gt_odr (by first | assumption | (apply Ne.symm; assumption) | omega) ?_)
        rintro y3 M' ⟨hy3, rfl⟩
        refine Ev.ild2 dX2_levelSum_32 ?_
        refine Ev.icmp_ne (tgt := 71) dX2_levelSum_33 (by decide) (fun c33 => ?_) (fun c33 => ?_)
        · apply Ev.iinc5 dX2_levelSum_71 rfl rfl
          · first | exact nI_inc _ | rfl
          refine Ev.goto (tgt := 6) dX2_levelSum_74 (by decide) ?_
          exact Ev.cg (by rw [lsm]; simp only [shw]; grind) (ih (k + 1) (by omega))
        · refine Ev.ild4 dX2_levelSum_36 ?_
          refine Ev.ild3 dX2_levelSum_38 ?_
          refine Ev.iconst (v := 1) dX2_levelSum_39 (by decide) ?_
          refine Ev.icmp_ne (tgt := 52) dX2_levelSum_40 (by decide) (fun c40 => ?_) (fun c40 => ?_)
          · refine Ev.ild3 dX2_levelSum_52 ?_
            refine Ev.iconst (v := 2) dX2_levelSum_53 (by decide) ?_
            refine Ev.icmp_ne (tgt := 67) dX2_levelSum_54 (by decide) (fun c54 => ?_) (fun c54 => ?_)
            · refine Ev.iconst (v := 1) dX2_levelSum_67 (by decide) ?_
              refine Ev.iadd dX2_levelSum_68 ?_
              refine Ev.ist4 dX2_levelSum_69 rfl rfl ?_
              apply Ev.iinc5 dX2_levelSum_71 rfl rfl
              · first | exact nI_inc _ | rfl
              refine Ev.goto (tgt := 6) dX2_levelSum_74 (by decide) ?_
              exact Ev.cg (by rw [lsm]; simp only [shw]; grind) (ih (k + 1) (by omega))
            · refine Ev.ald0 dX2_levelSum_57 ?_
              refine Ev.ild5 dX2_levelSum_58 ?_
              refine Ev.iconst (v := 2) dX2_levelSum_60 (by decide) ?_
              refine Ev.cvI (Yc := mX2_get) (ci := 2) dX2_levelSum_61 lX2_44 vX2_get rfl (c_get k 2 rfl rfl hB hr (by omega) (by omega)) ?_ rfl rfl rfl rfl ?_
              · apply Exists.intro; repeat (first | assumption | (refine gt_upI ?_; (repeat (first | refine In_up ?_ | refine In_nw ?_)); apply In_of; assumption) | refine gt_rd (by first | assumption | (apply Ne.symm; assumption) | (exact hj _ _ (by omega) (by omega) (by omega)) | omega) ?_ | exact gt_nw (by assumption) | refine gt_odr (by first | assumption | (apply Ne.symm; assumption) | omega) ?_)
              rintro y2 M' ⟨hy2, rfl⟩
              refine Ev.goto (tgt := 68) dX2_levelSum_64 (by decide) ?_
              refine Ev.iadd dX2_levelSum_68 ?_
              refine Ev.ist4 dX2_levelSum_69 rfl rfl ?_
              apply Ev.iinc5 dX2_levelSum_71 rfl rfl
              · first | exact nI_inc _ | rfl
              refine Ev.goto (tgt := 6) dX2_levelSum_74 (by decide) ?_
              exact Ev.cg (by rw [lsm]; simp only [shw]; grind) (ih (k + 1) (by omega))
          · refine Ev.ald0 dX2_levelSum_43 ?_
            refine Ev.ild5 dX2_levelSum_44 ?_
            refine Ev.cvI (Yc := mX2_shownOf) (ci := 2) dX2_levelSum_46 lX2_76 vX2_shownOf rfl (c_shownOf k rfl (by omega) hB hr) ?_ rfl rfl rfl rfl ?_
            · apply Exists.intro; repeat (first | assumption | (refine gt_upI ?_; (repeat (first | refine In_up ?_ | refine In_nw ?_)); apply In_of; assumption) | refine gt_rd (by first | assumption | (apply Ne.symm; assumption) | (exact hj _ _ (by omega) (by omega) (by omega)) | omega) ?_ | exact gt_nw (by assumption) | refine gt_odr (by first | assumption | (apply Ne.symm; assumption) | omega) ?_)
            rintro s M' ⟨hs, rfl⟩
            refine Ev.goto (tgt := 68) dX2_levelSum_49 (by decide) ?_
            refine Ev.iadd dX2_levelSum_68 ?_
            refine Ev.ist4 dX2_levelSum_69 rfl rfl ?_
            apply Ev.iinc5 dX2_levelSum_71 rfl rfl
            · first | exact nI_inc _ | rfl
            refine Ev.goto (tgt := 6) dX2_levelSum_74 (by decide) ?_
            exact Ev.cg (by rw [lsm]; simp only [shw]; grind) (ih (k + 1) (by omega))
  refine Ct.of (ls := [some (.ref h), some (.int sd), some (.int pr), some (.int wh), none, none]) (by decide) (by decide) rfl rfl rfl ?_
  refine Ev.iconst (v := 0) dX2_levelSum_0 (by decide) ?_
  refine Ev.ist4 dX2_levelSum_1 rfl rfl ?_
  refine Ev.iconst (v := 0) dX2_levelSum_3 (by decide) ?_
  refine Ev.ist5 dX2_levelSum_4 rfl rfl ?_
  exact L n 0 (by omega)
set_option maxRecDepth 20000 in
theorem c_nextLevel {sd pr : Int32} (hB : gt M h = some (bk r w n ph rf lo hi)) (hr : gt M r = some (ia 0 328 f)) (hn : n ≤ 41) : CtI G mX2_nextLevel [.ref h, .int sd, .int pr] M 0 0 (fun x M' => x = nxf f sd pr n ∧ M' = M) := by
  have L : ∀ d k a5 a6 a7, k + d = n → Ev G mX2_nextLevel 5 [some (.ref h), some (.int sd), some (.int pr), some (.int (nxf f sd pr k)), some (.int (nI k)), a5, a6, a7] [] M 0 0 (fun v M' => ∃ x, v = some (.int x) ∧ x = nxf f sd pr n ∧ M' = M) := by
    intro d
    induction d with
    | zero =>
      intro k a5 a6 a7 hk
      refine Ev.ild4 dX2_nextLevel_5 ?_
      refine Ev.ald0 dX2_nextLevel_7 ?_
      apply Ev.getf dX2_nextLevel_8 fX2_18
      · repeat (first | assumption | (refine gt_upI ?_; (repeat (first | refine In_up ?_ | refine In_nw ?_)); apply In_of; assumption) | refine gt_rd (by first | assumption | (apply Ne.symm; assumption) | (exact hj _ _ (by omega) (by omega) (by omega)) | omega) ?_ | exact gt_nw (by assumption) | refine gt_odr (by first | assumption | (apply Ne.symm; assumption) | omega) ?_)
      · first | rfl | assumption
      refine Ev.icmp_ge (tgt := 114) dX2_nextLevel_11 (by decide) (fun c9 => ?_) (fun c9 => absurd (nI_le (by omega) (by omega)) c9)
      refine Ev.ild3 dX2_nextLevel_114 ?_
      refine Ev.iret dX2_nextLevel_115 rfl rfl ?_
      exact ⟨_, rfl, by rw [show k = n by omega], rfl⟩
    | succ d ih =>
      intro k a5 a6 a7 hk
      refine Ev.ild4 dX2_nextLevel_5 ?_
      refine Ev.ald0 dX2_nextLevel_7 ?_
      apply Ev.getf dX2_nextLevel_8 fX2_18
      · repeat (first | assumption | (refine gt_upI ?_; (repeat (first | refine In_up ?_ | refine In_nw ?_)); apply In_of; assumption) | refine gt_rd (by first | assumption | (apply Ne.symm; assumption) | (exact hj _ _ (by omega) (by omega) (by omega)) | omega) ?_ | exact gt_nw (by assumption) | refine gt_odr (by first | assumption | (apply Ne.symm; assumption) | omega) ?_)
      · first | rfl | assumption
      refine Ev.icmp_ge (tgt := 114) dX2_nextLevel_11 (by decide) (fun c9 => absurd c9 (nI_ge (by omega) (by omega))) (fun c9 => ?_)
      have J2 : ∀ u v : Int32, (u = (if (sd = 0 ∧ f (8 * k + 3) < pr ∨ sd ≠ 0 ∧ pr < f (8 * k + 3)) then 1 else 0)) → (v = (if (nxf f sd pr k = -1 ∨ (sd = 0 ∧ nxf f sd pr k < f (8 * k + 3) ∨ sd ≠ 0 ∧ f (8 * k + 3) < nxf f sd pr k)) then 1 else 0)) → Ev G mX2_nextLevel 83 [some (.ref h), some (.int sd), some (.int pr), some (.int (nxf f sd pr k)), some (.int (nI k)), some (.int (f (8 * k + 3))), some (.int u), a7] [.int v] M 0 0 (fun v M' => ∃ x, v = some (.int x) ∧ x = nxf f sd pr n ∧ M' = M) := by
        intro u v hu hv
        refine Ev.ist7 dX2_nextLevel_83 rfl rfl ?_
        refine Ev.ald0 dX2_nextLevel_85 ?_
        refine Ev.ild4 dX2_nextLevel_86 ?_
        refine Ev.ild1 dX2_nextLevel_88 ?_
        refine Ev.cvI (Yc := mX2_standsAtLevel) (ci := 2) dX2_nextLevel_89 lX2_80 vX2_standsAtLevel rfl (c_standsAt k rfl (by omega) hB hr hn) ?_ rfl rfl rfl rfl ?_
        · apply Exists.intro; repeat (first | assumption | (refine gt_upI ?_; (repeat (first | refine In_up ?_ | refine In_nw ?_)); apply In_of; assumption) | refine gt_rd (by first | assumption | (apply Ne.symm; assumption) | (exact hj _ _ (by omega) (by omega) (by omega)) | omega) ?_ | exact gt_nw (by assumption) | refine gt_odr (by first | assumption | (apply Ne.symm; assumption) | omega) ?_)
        rintro x M' ⟨hx, rfl⟩
        refine Ev.if_eq (tgt := 108) dX2_nextLevel_92 (by decide) (fun c92 => ?_) (fun c92 => ?_)
        · apply Ev.iinc4 dX2_nextLevel_108 rfl rfl
          · first | exact nI_inc _ | rfl
          refine Ev.goto (tgt := 5) dX2_nextLevel_111 (by decide) ?_
          exact Ev.cg (by rw [nxf]; grind) (ih (k + 1) (some (.int (f (8 * k + 3)))) (some (.int u)) (some (.int v)) (by omega))
        · refine Ev.ild6 dX2_nextLevel_95 ?_
          refine Ev.if_eq (tgt := 108) dX2_nextLevel_97 (by decide) (fun c97 => ?_) (fun c97 => ?_)
          · apply Ev.iinc4 dX2_nextLevel_108 rfl rfl
            · first | exact nI_inc _ | rfl
            refine Ev.goto (tgt := 5) dX2_nextLevel_111 (by decide) ?_
            exact Ev.cg (by rw [nxf]; grind) (ih (k + 1) (some (.int (f (8 * k + 3)))) (some (.int u)) (some (.int v)) (by omega))
          · refine Ev.ild7 dX2_nextLevel_100 ?_
            refine Ev.if_eq (tgt := 108) dX2_nextLevel_102 (by decide) (fun c102 => ?_) (fun c102 => ?_)
            · apply Ev.iinc4 dX2_nextLevel_108 rfl rfl
              · first | exact nI_inc _ | rfl
              refine Ev.goto (tgt := 5) dX2_nextLevel_111 (by decide) ?_
              exact Ev.cg (by rw [nxf]; grind) (ih (k + 1) (some (.int (f (8 * k + 3)))) (some (.int u)) (some (.int v)) (by omega))
            · refine Ev.ild5 dX2_nextLevel_105 ?_
              refine Ev.ist3 dX2_nextLevel_107 rfl rfl ?_
              apply Ev.iinc4 dX2_nextLevel_108 rfl rfl
              · first | exact nI_inc _ | rfl
              refine Ev.goto (tgt := 5) dX2_nextLevel_111 (by decide) ?_
              exact Ev.cg (by rw [nxf]; grind) (ih (k + 1) (some (.int (f (8 * k + 3)))) (some (.int u)) (some (.int v)) (by omega))
      have J1 : ∀ u : Int32, (u = (if (sd = 0 ∧ f (8 * k + 3) < pr ∨ sd ≠ 0 ∧ pr < f (8 * k + 3)) then 1 else 0)) → Ev G mX2_nextLevel 52 [some (.ref h), some (.int sd), some (.int pr), some (.int (nxf f sd pr k)), some (.int (nI k)), some (.int (f (8 * k + 3))), a6, a7] [.int u] M 0 0 (fun v M' => ∃ x, v = some (.int x) ∧ x = nxf f sd pr n ∧ M' = M) := by
        intro u hu
        refine Ev.ist6 dX2_nextLevel_52 rfl rfl ?_
        refine Ev.ild3 dX2_nextLevel_54 ?_
        refine Ev.iconst (v := -1) dX2_nextLevel_55 (by decide) ?_
        refine Ev.icmp_eq (tgt := 78) dX2_nextLevel_56 (by decide) (fun c56 => ?_) (fun c56 => ?_)
        · refine Ev.iconst (v := 1) dX2_nextLevel_78 (by decide) ?_
          refine Ev.goto (tgt := 83) dX2_nextLevel_79 (by decide) ?_
          exact J2 _ _ hu (by grind)
        · refine Ev.ild1 dX2_nextLevel_59 ?_
          refine Ev.if_ne (tgt := 72) dX2_nextLevel_60 (by decide) (fun c60 => ?_) (fun c60 => ?_)
          · refine Ev.ild5 dX2_nextLevel_72 ?_
            refine Ev.ild3 dX2_nextLevel_74 ?_
            refine Ev.icmp_ge (tgt := 82) dX2_nextLevel_75 (by decide) (fun c75 => ?_) (fun c75 => ?_)
            · refine Ev.iconst (v := 0) dX2_nextLevel_82 (by decide) ?_
              exact J2 _ _ hu (by grind)
            · refine Ev.iconst (v := 1) dX2_nextLevel_78 (by decide) ?_
              refine Ev.goto (tgt := 83) dX2_nextLevel_79 (by decide) ?_
              exact J2 _ _ hu (by grind)
          · refine Ev.ild5 dX2_nextLevel_63 ?_
            refine Ev.ild3 dX2_nextLevel_65 ?_
            refine Ev.icmp_le (tgt := 82) dX2_nextLevel_66 (by decide) (fun c66 => ?_) (fun c66 => ?_)
            · refine Ev.iconst (v := 0) dX2_nextLevel_82 (by decide) ?_
              exact J2 _ _ hu (by grind)
            · refine Ev.goto (tgt := 78) dX2_nextLevel_69 (by decide) ?_
              refine Ev.iconst (v := 1) dX2_nextLevel_78 (by decide) ?_
              refine Ev.goto (tgt := 83) dX2_nextLevel_79 (by decide) ?_
              exact J2 _ _ hu (by grind)
      refine Ev.ald0 dX2_nextLevel_14 ?_
      refine Ev.ild4 dX2_nextLevel_15 ?_
      refine Ev.iconst (v := 3) dX2_nextLevel_17 (by decide) ?_
      refine Ev.cvI (Yc := mX2_get) (ci := 2) dX2_nextLevel_18 lX2_44 vX2_get rfl (c_get k 3 rfl rfl hB hr (by omega) (by omega)) ?_ rfl rfl rfl rfl ?_
      · apply Exists.intro; repeat (first | assumption | (refine gt_upI ?_; (repeat (first | refine In_up ?_ | refine In_nw ?_)); apply In_of; assumption) | refine gt_rd (by first | assumption | (apply Ne.symm; assumption) | (exact hj _ _ (by omega) (by omega) (by omega)) | omega) ?_ | exact gt_nw (by assumption) | refine gt_odr (by first | assumption | (apply Ne.symm; assumption) | omega) ?_)
      rintro y M' ⟨hy, rfl⟩; subst hy
      refine Ev.ist5 dX2_nextLevel_21 rfl rfl ?_
      refine Ev.ild1 dX2_nextLevel_23 ?_
      refine Ev.if_ne (tgt := 41) dX2_nextLevel_24 (by decide) (fun c24 => ?_) (fun c24 => ?_)
      · refine Ev.ild5 dX2_nextLevel_41 ?_
        refine Ev.ild2 dX2_nextLevel_43 ?_
        refine Ev.icmp_le (tgt := 51) dX2_nextLevel_44 (by decide) (fun c44 => ?_) (fun c44 => ?_)
        · refine Ev.iconst (v := 0) dX2_nextLevel_51 (by decide) ?_
          exact J1 _ (by grind)
        · refine Ev.iconst (v := 1) dX2_nextLevel_47 (by decide) ?_
          refine Ev.goto (tgt := 52) dX2_nextLevel_48 (by decide) ?_
          exact J1 _ (by grind)
      · refine Ev.ild5 dX2_nextLevel_27 ?_
        refine Ev.ild2 dX2_nextLevel_29 ?_
        refine Ev.icmp_ge (tgt := 37) dX2_nextLevel_30 (by decide) (fun c30 => ?_) (fun c30 => ?_)
        · refine Ev.iconst (v := 0) dX2_nextLevel_37 (by decide) ?_
          refine Ev.goto (tgt := 52) dX2_nextLevel_38 (by decide) ?_
          exact J1 _ (by grind)
        · refine Ev.iconst (v := 1) dX2_nextLevel_33 (by decide) ?_
          refine Ev.goto (tgt := 52) dX2_nextLevel_34 (by decide) ?_
          exact J1 _ (by grind)
  refine Ct.of (ls := [some (.ref h), some (.int sd), some (.int pr), none, none, none, none, none]) (by decide) (by decide) rfl rfl rfl ?_
  refine Ev.iconst (v := -1) dX2_nextLevel_0 (by decide) ?_
  refine Ev.ist3 dX2_nextLevel_1 rfl rfl ?_
  refine Ev.iconst (v := 0) dX2_nextLevel_2 (by decide) ?_
  refine Ev.ist4 dX2_nextLevel_3 rfl rfl ?_
  exact L n 0 _ _ _ (by omega)
end BKD
section BKE
variable {G : GP} {M : Wd} {h r w n : Nat} {fs : List Value} {f : Nat → Int32} {ph rf lo hi : Int32}
set_option maxRecDepth 20000 in
theorem c_levelPrice {sd i : Int32} (j : Nat) (hij : i = nI j) (hj : j < 100) (hB : gt M h = some (bk r w n ph rf lo hi)) (hr : gt M r = some (ia 0 328 f)) (hn : n ≤ 41) : CtI G mX2_levelPrice [.ref h, .int sd, .int i] M 0 0 (fun x M' => x = lvp f n sd j ∧ M' = M) := by
  subst hij
  have L : ∀ d k, k + d = j → Ev G mX2_levelPrice 13 [some (.ref h), some (.int sd), some (.int (nI j)), some (.int (lvp f n sd k)), some (.int (nI k))] [] M 0 0 (fun v M' => ∃ x, v = some (.int x) ∧ x = lvp f n sd j ∧ M' = M) := by
    intro d
    induction d with
    | zero =>
      intro k hk
      refine Ev.ild4 dX2_levelPrice_13 ?_
      refine Ev.ild2 dX2_levelPrice_15 ?_
      refine Ev.icmp_ge (tgt := 37) dX2_levelPrice_16 (by decide) (fun c9 => ?_) (fun c9 => absurd (nI_le (by omega) (by omega)) c9)
      refine Ev.ild3 dX2_levelPrice_37 ?_
      refine Ev.iret dX2_levelPrice_38 rfl rfl ?_
      exact ⟨_, rfl, by rw [show k = j by omega], rfl⟩
    | succ d ih =>
      intro k hk
      refine Ev.ild4 dX2_levelPrice_13 ?_
      refine Ev.ild2 dX2_levelPrice_15 ?_
      refine Ev.icmp_ge (tgt := 37) dX2_levelPrice_16 (by decide) (fun c9 => absurd c9 (nI_ge (by omega) (by omega))) (fun c9 => ?_)
      refine Ev.ild3 dX2_levelPrice_19 ?_
      refine Ev.iconst (v := -1) dX2_levelPrice_20 (by decide) ?_
      refine Ev.icmp_eq (tgt := 37) dX2_levelPrice_21 (by decide) (fun c1 => ?_) (fun c1 => ?_)
      · refine Ev.ild3 dX2_levelPrice_37 ?_
        refine Ev.iret dX2_levelPrice_38 rfl rfl ?_
        refine ⟨_, rfl, ?_, rfl⟩
        have : ∀ m, k ≤ m → lvp f n sd m = -1 := by
          intro m hm
          induction m with
          | zero => rw [show k = 0 by omega] at c1; exact c1
          | succ m ihm =>
            by_cases e : k = m + 1
            · rw [← e]; exact c1
            · rw [lvp, if_pos (ihm (by omega))]
        rw [c1, this j (by omega)]
      · refine Ev.ald0 dX2_levelPrice_24 ?_
        refine Ev.ild1 dX2_levelPrice_25 ?_
        refine Ev.ild3 dX2_levelPrice_26 ?_
        refine Ev.cvI (Yc := mX2_nextLevel) (ci := 2) dX2_levelPrice_27 lX2_87 vX2_nextLevel rfl (c_nextLevel hB hr hn) ?_ rfl rfl rfl rfl ?_
        · apply Exists.intro; repeat (first | assumption | (refine gt_upI ?_; (repeat (first | refine In_up ?_ | refine In_nw ?_)); apply In_of; assumption) | refine gt_rd (by first | assumption | (apply Ne.symm; assumption) | (exact hj _ _ (by omega) (by omega) (by omega)) | omega) ?_ | exact gt_nw (by assumption) | refine gt_odr (by first | assumption | (apply Ne.symm; assumption) | omega) ?_)
        rintro x M' ⟨hx, rfl⟩
        refine Ev.ist3 dX2_levelPrice_30 rfl rfl ?_
        apply Ev.iinc4 dX2_levelPrice_31 rfl rfl
        · first | exact nI_inc _ | rfl
        refine Ev.goto (tgt := 13) dX2_levelPrice_34 (by decide) ?_
        exact Ev.cg (by rw [lvp, if_neg c1, hx]) (ih (k + 1) (by omega))
  refine Ct.of (ls := [some (.ref h), some (.int sd), some (.int (nI j)), none, none]) (by decide) (by decide) rfl rfl rfl ?_
  refine Ev.ald0 dX2_levelPrice_0 ?_
  refine Ev.ild1 dX2_levelPrice_1 ?_
  refine Ev.ild1 dX2_levelPrice_2 ?_
  refine Ev.csI (Yc := mX2_aheadOfLevels) dX2_levelPrice_3 lX2_84 vX2_aheadOfLevels rfl c_ahead rfl rfl rfl ?_
  rintro a M' ⟨ha, rfl⟩
  refine Ev.cvI (Yc := mX2_nextLevel) (ci := 2) dX2_levelPrice_6 lX2_87 vX2_nextLevel rfl (c_nextLevel hB hr hn) ?_ rfl rfl rfl rfl ?_
  · apply Exists.intro; repeat (first | assumption | (refine gt_upI ?_; (repeat (first | refine In_up ?_ | refine In_nw ?_)); apply In_of; assumption) | refine gt_rd (by first | assumption | (apply Ne.symm; assumption) | (exact hj _ _ (by omega) (by omega) (by omega)) | omega) ?_ | exact gt_nw (by assumption) | refine gt_odr (by first | assumption | (apply Ne.symm; assumption) | omega) ?_)
  rintro x M' ⟨hx, rfl⟩
  refine Ev.ist3 dX2_levelPrice_9 rfl rfl ?_
  refine Ev.iconst (v := 0) dX2_levelPrice_10 (by decide) ?_
  refine Ev.ist4 dX2_levelPrice_11 rfl rfl ?_
  exact Ev.cg (by rw [lvp, hx, ha]; rfl) (L j 0 (by omega))
set_option maxRecDepth 20000 in
theorem c_countLevels {sd : Int32} (hB : gt M h = some (bk r w n ph rf lo hi)) (hr : gt M r = some (ia 0 328 f)) (hn : n ≤ 41) : CtI G mX2_countLevels [.ref h, .int sd] M 0 0 (fun x M' => M' = M ∧ ∃ c : Nat, x = nI c ∧ c ≤ 40 ∧ (∀ i, i < c → lvp f n sd i ≠ -1) ∧ (c = 40 ∨ lvp f n sd c = -1)) := by
  have L : ∀ d k, k + d = 40 → (∀ i, i < k → lvp f n sd i ≠ -1) → Ev G mX2_countLevels 12 [some (.ref h), some (.int sd), some (.int (nI k)), some (.int (lvp f n sd k))] [] M 0 0 (fun v M' => ∃ x, v = some (.int x) ∧ M' = M ∧ ∃ c : Nat, x = nI c ∧ c ≤ 40 ∧ (∀ i, i < c → lvp f n sd i ≠ -1) ∧ (c = 40 ∨ lvp f n sd c = -1)) := by
    intro d
    induction d with
    | zero =>
      intro k hk hp
      refine Ev.ild3 dX2_countLevels_12 ?_
      refine Ev.iconst (v := -1) dX2_countLevels_13 (by decide) ?_
      refine Ev.icmp_eq (tgt := 36) dX2_countLevels_14 (by decide) (fun c1 => ?_) (fun c1 => ?_)
      · refine Ev.ild2 dX2_countLevels_36 ?_
        refine Ev.iret dX2_countLevels_37 rfl rfl ?_
        exact ⟨_, rfl, rfl, k, rfl, by omega, hp, Or.inr c1⟩
      · refine Ev.ild2 dX2_countLevels_17 ?_
        refine Ev.bipush (v := 40) dX2_countLevels_18 (by decide) ?_
        refine Ev.icmp_ge (tgt := 36) dX2_countLevels_20 (by decide) (fun c2 => ?_) (fun c2 => ?_)
        · refine Ev.ild2 dX2_countLevels_36 ?_
          refine Ev.iret dX2_countLevels_37 rfl rfl ?_
          exact ⟨_, rfl, rfl, k, rfl, by omega, hp, Or.inl (by omega)⟩
        · exact absurd (nI_le (a := 40) (b := k) (by omega) (by omega)) c2
    | succ d ih =>
      intro k hk hp
      refine Ev.ild3 dX2_countLevels_12 ?_
      refine Ev.iconst (v := -1) dX2_countLevels_13 (by decide) ?_
      refine Ev.icmp_eq (tgt := 36) dX2_countLevels_14 (by decide) (fun c1 => ?_) (fun c1 => ?_)
      · refine Ev.ild2 dX2_countLevels_36 ?_
        refine Ev.iret dX2_countLevels_37 rfl rfl ?_
        exact ⟨_, rfl, rfl, k, rfl, by omega, hp, Or.inr c1⟩
      · refine Ev.ild2 dX2_countLevels_17 ?_
        refine Ev.bipush (v := 40) dX2_countLevels_18 (by decide) ?_
        refine Ev.icmp_ge (tgt := 36) dX2_countLevels_20 (by decide) (fun c2 => ?_) (fun c2 => ?_)
        · exact absurd c2 (nI_ge (a := k) (b := 40) (by omega) (by omega))
        · apply Ev.iinc2 dX2_countLevels_23 rfl rfl
          · first | exact nI_inc _ | rfl
          refine Ev.ald0 dX2_countLevels_26 ?_
          refine Ev.ild1 dX2_countLevels_27 ?_
          refine Ev.ild3 dX2_countLevels_28 ?_
          refine Ev.cvI (Yc := mX2_nextLevel) (ci := 2) dX2_countLevels_29 lX2_87 vX2_nextLevel rfl (c_nextLevel hB hr hn) ?_ rfl rfl rfl rfl ?_
          · apply Exists.intro; repeat (first | assumption | (refine gt_upI ?_; (repeat (first | refine In_up ?_ | refine In_nw ?_)); apply In_of; assumption) | refine gt_rd (by first | assumption | (apply Ne.symm; assumption) | (exact hj _ _ (by omega) (by omega) (by omega)) | omega) ?_ | exact gt_nw (by assumption) | refine gt_odr (by first | assumption | (apply Ne.symm; assumption) | omega) ?_)
          rintro x M' ⟨hx, rfl⟩
          refine Ev.ist3 dX2_countLevels_32 rfl rfl ?_
          refine Ev.goto (tgt := 12) dX2_countLevels_33 (by decide) ?_
          exact Ev.cg (by rw [lvp, if_neg c1, hx]) (ih (k + 1) (by omega) (lt_s hp c1))
  refine Ct.of (ls := [some (.ref h), some (.int sd), none, none]) (by decide) (by decide) rfl rfl rfl ?_
  refine Ev.iconst (v := 0) dX2_countLevels_0 (by decide) ?_
  refine Ev.ist2 dX2_countLevels_1 rfl rfl ?_
  refine Ev.ald0 dX2_countLevels_2 ?_
  refine Ev.ild1 dX2_countLevels_3 ?_
  refine Ev.ild1 dX2_countLevels_4 ?_
  refine Ev.csI (Yc := mX2_aheadOfLevels) dX2_countLevels_5 lX2_84 vX2_aheadOfLevels rfl c_ahead rfl rfl rfl ?_
  rintro a M' ⟨ha, rfl⟩
  refine Ev.cvI (Yc := mX2_nextLevel) (ci := 2) dX2_countLevels_8 lX2_87 vX2_nextLevel rfl (c_nextLevel hB hr hn) ?_ rfl rfl rfl rfl ?_
  · apply Exists.intro; repeat (first | assumption | (refine gt_upI ?_; (repeat (first | refine In_up ?_ | refine In_nw ?_)); apply In_of; assumption) | refine gt_rd (by first | assumption | (apply Ne.symm; assumption) | (exact hj _ _ (by omega) (by omega) (by omega)) | omega) ?_ | exact gt_nw (by assumption) | refine gt_odr (by first | assumption | (apply Ne.symm; assumption) | omega) ?_)
  rintro x M' ⟨hx, rfl⟩
  refine Ev.ist3 dX2_countLevels_11 rfl rfl ?_
  exact Ev.cg (by rw [lvp, hx, ha]; rfl) (L 40 0 (by omega) lt_0)
end BKE
