/-! the book's methods, mirrored: what each does to the rows, step by step -/
def mn (x y : Int32) : Int32 := if y < x then y else x
def low (f : Nat → Int32) (k : Nat) (q : Int32) : Nat → Int32 := upd (upd (upd f (8 * k + 2) q) (8 * k + 4) (mn (f (8 * k + 4)) q)) (8 * k + 5) (mn (f (8 * k + 5)) q)
def lv1 (f : Nat → Int32) (k : Nat) (x : Int32) : Nat → Int32 := if f (8 * k + 2) - x = 0 ∨ f (8 * k + 1) = 0 ∨ f (8 * k + 1) = 4 then upd (low f k (f (8 * k + 2) - x)) (8 * k + 7) 1 else low f k (f (8 * k + 2) - x)
def shw (f : Nat → Int32) (k : Nat) : Int32 := if f (8 * k + 1) = 2 then 0 else if f (8 * k + 1) = 3 then f (8 * k + 4) else f (8 * k + 2)
def add8 (f : Nat → Int32) (k : Nat) (a0 a1 a2 a3 a4 a5 a6 : Int32) : Nat → Int32 := upd (upd (upd (upd (upd (upd (upd (upd f (8 * k + 0) a0) (8 * k + 1) a1) (8 * k + 2) a2) (8 * k + 3) (if a1 = 0 then 0 else a3)) (8 * k + 4) (if a1 = 3 then a4 else 0)) (8 * k + 5) a5) (8 * k + 6) a6) (8 * k + 7) 0
def atl (f : Nat → Int32) (sd : Int32) (k : Nat) : Prop := f (8 * k + 7) = 0 ∧ f (8 * k + 0) = sd ∧ f (8 * k + 1) ≠ 0
noncomputable def cnS (f : Nat → Int32) : Nat → Int32
  | 0 => 0
  | k + 1 => cnS f k + (if f (8 * k + 7) = 0 then 1 else 0)
noncomputable def cnO (f : Nat → Int32) (w : Int32) : Nat → Int32
  | 0 => 0
  | k + 1 => cnO f w k + (if f (8 * k + 7) = 0 ∧ f (8 * k + 6) = w then 1 else 0)
noncomputable def lsm (f : Nat → Int32) (sd pr wh : Int32) : Nat → Int32
  | 0 => 0
  | k + 1 => if (f (8 * k + 7) = 0 ∧ f (8 * k + 0) = sd ∧ f (8 * k + 1) ≠ 0) ∧ f (8 * k + 3) = pr then lsm f sd pr wh k + (if wh = 1 then shw f k else if wh = 2 then f (8 * k + 2) else 1) else lsm f sd pr wh k
noncomputable def ksh (f : Nat → Int32) : Nat → (Nat → Int32)
  | 0 => f
  | k + 1 => upd (upd (ksh f k) (8 * k + 5) 0) (8 * k + 2) (shw (upd (ksh f k) (8 * k + 5) 0) k)
noncomputable def lev (f fl : Nat → Int32) : Nat → (Nat → Int32)
  | 0 => f
  | k + 1 => if lev f fl k (8 * k + 7) = 0 then lv1 (lev f fl k) k (fl k) else lev f fl k
noncomputable def fgt (f : Nat → Int32) : Nat → (Nat → Int32) × Nat
  | 0 => (f, 0)
  | k + 1 => if (fgt f k).1 (8 * k + 7) = 0 then (va_cpy (fgt f k).1 (fgt f k).1 (8 * k) (8 * (fgt f k).2) 8, (fgt f k).2 + 1) else fgt f k
theorem fgt_le (f : Nat → Int32) (k : Nat) : (fgt f k).2 ≤ k := by
  induction k with
  | zero => exact Nat.le_refl _
  | succ k ih =>
    rw [fgt]
    split
    · exact Nat.succ_le_succ ih
    · omega
noncomputable def nxf (f : Nat → Int32) (sd pr : Int32) : Nat → Int32
  | 0 => -1
  | k + 1 => if (f (8 * k + 7) = 0 ∧ f (8 * k + 0) = sd ∧ f (8 * k + 1) ≠ 0) ∧ (sd = 0 ∧ f (8 * k + 3) < pr ∨ sd ≠ 0 ∧ pr < f (8 * k + 3)) ∧ (nxf f sd pr k = -1 ∨ (sd = 0 ∧ nxf f sd pr k < f (8 * k + 3) ∨ sd ≠ 0 ∧ f (8 * k + 3) < nxf f sd pr k)) then f (8 * k + 3) else nxf f sd pr k
noncomputable def lvp (f : Nat → Int32) (n : Nat) (sd : Int32) : Nat → Int32
  | 0 => nxf f sd (if sd = 0 then 1000 else 0) n
  | i + 1 => if lvp f n sd i = -1 then -1 else nxf f sd (lvp f n sd i) n
section BKC
variable {G : GP} {M : Wd} {h r w n : Nat} {fs : List Value} {f : Nat → Int32} {ph rf lo hi : Int32}
set_option maxRecDepth 20000 in
theorem c_lower {o q : Int32} (k : Nat) (ho : o = nI k) (hk : k < 41) (hne : h ≠ r) (hB : gt M h = some (ob 2 (.ref r :: fs))) (hr : gt M r = some (ia 0 328 f)) : CtV G mX2_lower [.ref h, .int o, .int q] M 0 0 (fun M' => M' = up M r (ia 0 328 (low f k q))) := by
  refine Ct.of (ls := [some (.ref h), some (.int o), some (.int q)]) (by decide) (by decide) rfl rfl rfl ?_
  refine Ev.ald0 dX2_lower_0 ?_
  refine Ev.ild1 dX2_lower_1 ?_
  refine Ev.iconst (v := 2) dX2_lower_2 (by decide) ?_
  refine Ev.ild2 dX2_lower_3 ?_
  refine Ev.cvV (Yc := mX2_set) (ci := 2) dX2_lower_4 lX2_48 vX2_set rfl (c_set k 2 ho rfl hB hr (by omega) (by omega)) ?_ rfl rfl rfl rfl ?_
  · apply Exists.intro; repeat (first | assumption | (refine gt_upI ?_; (repeat (first | refine In_up ?_ | refine In_nw ?_)); apply In_of; assumption) | refine gt_rd (by first | assumption | (apply Ne.symm; assumption) | (exact hj _ _ (by omega) (by omega) (by omega)) | omega) ?_ | exact gt_nw (by assumption) | refine gt_odr (by first | assumption | (apply Ne.symm; assumption) | omega) ?_)
  rintro M' rfl
  refine Ev.ald0 dX2_lower_7 ?_
  refine Ev.ild1 dX2_lower_8 ?_
  refine Ev.iconst (v := 4) dX2_lower_9 (by decide) ?_
  refine Ev.ald0 dX2_lower_10 ?_
  refine Ev.ild1 dX2_lower_11 ?_
  refine Ev.iconst (v := 4) dX2_lower_12 (by decide) ?_
  refine Ev.cvI (Yc := mX2_get) (ci := 2) dX2_lower_13 lX2_44 vX2_get rfl (c_get k 4 ho rfl (gt_rd hne hB) (gt_up hr) (by omega) (by omega)) ?_ rfl rfl rfl rfl ?_
  · apply Exists.intro; repeat (first | assumption | (refine gt_upI ?_; (repeat (first | refine In_up ?_ | refine In_nw ?_)); apply In_of; assumption) | refine gt_rd (by first | assumption | (apply Ne.symm; assumption) | (exact hj _ _ (by omega) (by omega) (by omega)) | omega) ?_ | exact gt_nw (by assumption) | refine gt_odr (by first | assumption | (apply Ne.symm; assumption) | omega) ?_)
  rintro x M' ⟨hx, rfl⟩
  refine Ev.ild2 dX2_lower_16 ?_
  refine Ev.min dX2_lower_17 lX2_52 rfl rfl ?_
  refine Ev.cvV (Yc := mX2_set) (ci := 2) dX2_lower_20 lX2_48 vX2_set rfl (c_set k 4 ho rfl (gt_rd hne hB) (gt_up hr) (by omega) (by omega)) ?_ rfl rfl rfl rfl ?_
  · apply Exists.intro; repeat (first | assumption | (refine gt_upI ?_; (repeat (first | refine In_up ?_ | refine In_nw ?_)); apply In_of; assumption) | refine gt_rd (by first | assumption | (apply Ne.symm; assumption) | (exact hj _ _ (by omega) (by omega) (by omega)) | omega) ?_ | exact gt_nw (by assumption) | refine gt_odr (by first | assumption | (apply Ne.symm; assumption) | omega) ?_)
  rintro M' rfl
  refine Ev.ald0 dX2_lower_23 ?_
  refine Ev.ild1 dX2_lower_24 ?_
  refine Ev.iconst (v := 5) dX2_lower_25 (by decide) ?_
  refine Ev.ald0 dX2_lower_26 ?_
  refine Ev.ild1 dX2_lower_27 ?_
  refine Ev.iconst (v := 5) dX2_lower_28 (by decide) ?_
  refine Ev.cvI (Yc := mX2_get) (ci := 2) dX2_lower_29 lX2_44 vX2_get rfl (c_get k 5 ho rfl (gt_rd hne (gt_rd hne hB)) (gt_up (gt_up hr)) (by omega) (by omega)) ?_ rfl rfl rfl rfl ?_
  · apply Exists.intro; repeat (first | assumption | (refine gt_upI ?_; (repeat (first | refine In_up ?_ | refine In_nw ?_)); apply In_of; assumption) | refine gt_rd (by first | assumption | (apply Ne.symm; assumption) | (exact hj _ _ (by omega) (by omega) (by omega)) | omega) ?_ | exact gt_nw (by assumption) | refine gt_odr (by first | assumption | (apply Ne.symm; assumption) | omega) ?_)
  rintro y M' ⟨hy, rfl⟩
  refine Ev.ild2 dX2_lower_32 ?_
  refine Ev.min dX2_lower_33 lX2_52 rfl rfl ?_
  refine Ev.cvV (Yc := mX2_set) (ci := 2) dX2_lower_36 lX2_48 vX2_set rfl (c_set k 5 ho rfl (gt_rd hne (gt_rd hne hB)) (gt_up (gt_up hr)) (by omega) (by omega)) ?_ rfl rfl rfl rfl ?_
  · apply Exists.intro; repeat (first | assumption | (refine gt_upI ?_; (repeat (first | refine In_up ?_ | refine In_nw ?_)); apply In_of; assumption) | refine gt_rd (by first | assumption | (apply Ne.symm; assumption) | (exact hj _ _ (by omega) (by omega) (by omega)) | omega) ?_ | exact gt_nw (by assumption) | refine gt_odr (by first | assumption | (apply Ne.symm; assumption) | omega) ?_)
  rintro M' rfl
  refine Ev.vret dX2_lower_39 rfl ?_
  refine ⟨rfl, ?_⟩
  rw [up_up, up_up, hx, hy]
  simp [low, mn, upd]
set_option maxRecDepth 20000 in
theorem c_leaveOne {o x : Int32} (k : Nat) (ho : o = nI k) (hk : k < 41) (hne : h ≠ r) (hB : gt M h = some (ob 2 (.ref r :: fs))) (hr : gt M r = some (ia 0 328 f)) : CtV G mX2_leaveOne [.ref h, .int o, .int x] M 0 0 (fun M' => M' = up M r (ia 0 328 (lv1 f k x))) := by
  refine Ct.of (ls := [some (.ref h), some (.int o), some (.int x), none]) (by decide) (by decide) rfl rfl rfl ?_
  refine Ev.ald0 dX2_leaveOne_0 ?_
  refine Ev.ild1 dX2_leaveOne_1 ?_
  refine Ev.ald0 dX2_leaveOne_2 ?_
  refine Ev.ild1 dX2_leaveOne_3 ?_
  refine Ev.iconst (v := 2) dX2_leaveOne_4 (by decide) ?_
  refine Ev.cvI (Yc := mX2_get) (ci := 2) dX2_leaveOne_5 lX2_44 vX2_get rfl (c_get k 2 ho rfl hB hr (by omega) (by omega)) ?_ rfl rfl rfl rfl ?_
  · apply Exists.intro; repeat (first | assumption | (refine gt_upI ?_; (repeat (first | refine In_up ?_ | refine In_nw ?_)); apply In_of; assumption) | refine gt_rd (by first | assumption | (apply Ne.symm; assumption) | (exact hj _ _ (by omega) (by omega) (by omega)) | omega) ?_ | exact gt_nw (by assumption) | refine gt_odr (by first | assumption | (apply Ne.symm; assumption) | omega) ?_)
  rintro a M' ⟨ha, rfl⟩
  refine Ev.ild2 dX2_leaveOne_8 ?_
  refine Ev.isub dX2_leaveOne_9 ?_
  refine Ev.cvV (Yc := mX2_lower) (ci := 2) dX2_leaveOne_10 lX2_64 vX2_lower rfl (c_lower k ho hk hne hB hr) ?_ rfl rfl rfl rfl ?_
  · apply Exists.intro; repeat (first | assumption | (refine gt_upI ?_; (repeat (first | refine In_up ?_ | refine In_nw ?_)); apply In_of; assumption) | refine gt_rd (by first | assumption | (apply Ne.symm; assumption) | (exact hj _ _ (by omega) (by omega) (by omega)) | omega) ?_ | exact gt_nw (by assumption) | refine gt_odr (by first | assumption | (apply Ne.symm; assumption) | omega) ?_)
  rintro M' rfl
  refine Ev.ald0 dX2_leaveOne_13 ?_
  refine Ev.ild1 dX2_leaveOne_14 ?_
  refine Ev.iconst (v := 1) dX2_leaveOne_15 (by decide) ?_
  refine Ev.cvI (Yc := mX2_get) (ci := 2) dX2_leaveOne_16 lX2_44 vX2_get rfl (c_get k 1 ho rfl (gt_rd hne hB) (gt_up hr) (by omega) (by omega)) ?_ rfl rfl rfl rfl ?_
  · apply Exists.intro; repeat (first | assumption | (refine gt_upI ?_; (repeat (first | refine In_up ?_ | refine In_nw ?_)); apply In_of; assumption) | refine gt_rd (by first | assumption | (apply Ne.symm; assumption) | (exact hj _ _ (by omega) (by omega) (by omega)) | omega) ?_ | exact gt_nw (by assumption) | refine gt_odr (by first | assumption | (apply Ne.symm; assumption) | omega) ?_)
  rintro b M' ⟨hb, rfl⟩
  refine Ev.ist3 dX2_leaveOne_19 rfl rfl ?_
  refine Ev.ald0 dX2_leaveOne_20 ?_
  refine Ev.ild1 dX2_leaveOne_21 ?_
  refine Ev.iconst (v := 2) dX2_leaveOne_22 (by decide) ?_
  refine Ev.cvI (Yc := mX2_get) (ci := 2) dX2_leaveOne_23 lX2_44 vX2_get rfl (c_get k 2 ho rfl (gt_rd hne hB) (gt_up hr) (by omega) (by omega)) ?_ rfl rfl rfl rfl ?_
  · apply Exists.intro; repeat (first | assumption | (refine gt_upI ?_; (repeat (first | refine In_up ?_ | refine In_nw ?_)); apply In_of; assumption) | refine gt_rd (by first | assumption | (apply Ne.symm; assumption) | (exact hj _ _ (by omega) (by omega) (by omega)) | omega) ?_ | exact gt_nw (by assumption) | refine gt_odr (by first | assumption | (apply Ne.symm; assumption) | omega) ?_)
  rintro c M' ⟨hc, rfl⟩
  refine Ev.if_eq (tgt := 38) dX2_leaveOne_26 (by decide) (fun c26 => ?_) (fun c26 => ?_)
  · refine Ev.ald0 dX2_leaveOne_38 ?_
    refine Ev.ild1 dX2_leaveOne_39 ?_
    refine Ev.bipush (v := 7) dX2_leaveOne_40 (by decide) ?_
    refine Ev.iconst (v := 1) dX2_leaveOne_42 (by decide) ?_
    refine Ev.cvV (Yc := mX2_set) (ci := 2) dX2_leaveOne_43 lX2_48 vX2_set rfl (c_set k 7 ho rfl (gt_rd hne hB) (gt_up hr) (by omega) (by omega)) ?_ rfl rfl rfl rfl ?_
    · apply Exists.intro; repeat (first | assumption | (refine gt_upI ?_; (repeat (first | refine In_up ?_ | refine In_nw ?_)); apply In_of; assumption) | refine gt_rd (by first | assumption | (apply Ne.symm; assumption) | (exact hj _ _ (by omega) (by omega) (by omega)) | omega) ?_ | exact gt_nw (by assumption) | refine gt_odr (by first | assumption | (apply Ne.symm; assumption) | omega) ?_)
    rintro M' rfl
    refine Ev.vret dX2_leaveOne_46 rfl ?_
    refine ⟨rfl, ?_⟩
    subst ha
    simp [low, upd] at hb hc
    subst hb; subst hc
    simp_all [lv1, up_up]
  · refine Ev.ild3 dX2_leaveOne_29 ?_
    refine Ev.if_eq (tgt := 38) dX2_leaveOne_30 (by decide) (fun c30 => ?_) (fun c30 => ?_)
    · refine Ev.ald0 dX2_leaveOne_38 ?_
      refine Ev.ild1 dX2_leaveOne_39 ?_
      refine Ev.bipush (v := 7) dX2_leaveOne_40 (by decide) ?_
      refine Ev.iconst (v := 1) dX2_leaveOne_42 (by decide) ?_
      refine Ev.cvV (Yc := mX2_set) (ci := 2) dX2_leaveOne_43 lX2_48 vX2_set rfl (c_set k 7 ho rfl (gt_rd hne hB) (gt_up hr) (by omega) (by omega)) ?_ rfl rfl rfl rfl ?_
      · apply Exists.intro; repeat (first | assumption | (refine gt_upI ?_; (repeat (first | refine In_up ?_ | refine In_nw ?_)); apply In_of; assumption) | refine gt_rd (by first | assumption | (apply Ne.symm; assumption) | (exact hj _ _ (by omega) (by omega) (by omega)) | omega) ?_ | exact gt_nw (by assumption) | refine gt_odr (by first | assumption | (apply Ne.symm; assumption) | omega) ?_)
      rintro M' rfl
      refine Ev.vret dX2_leaveOne_46 rfl ?_
      refine ⟨rfl, ?_⟩
      subst ha
      simp [low, upd] at hb hc
      subst hb; subst hc
      simp_all [lv1, up_up]
    · refine Ev.ild3 dX2_leaveOne_33 ?_
      refine Ev.iconst (v := 4) dX2_leaveOne_34 (by decide) ?_
      refine Ev.icmp_ne (tgt := 46) dX2_leaveOne_35 (by decide) (fun c35 => ?_) (fun c35 => ?_)
      · refine Ev.vret dX2_leaveOne_46 rfl ?_
        refine ⟨rfl, ?_⟩
        subst ha
        simp [low, upd] at hb hc
        subst hb; subst hc
        simp_all [lv1, up_up]
      · refine Ev.ald0 dX2_leaveOne_38 ?_
        refine Ev.ild1 dX2_leaveOne_39 ?_
        refine Ev.bipush (v := 7) dX2_leaveOne_40 (by decide) ?_
        refine Ev.iconst (v := 1) dX2_leaveOne_42 (by decide) ?_
        refine Ev.cvV (Yc := mX2_set) (ci := 2) dX2_leaveOne_43 lX2_48 vX2_set rfl (c_set k 7 ho rfl (gt_rd hne hB) (gt_up hr) (by omega) (by omega)) ?_ rfl rfl rfl rfl ?_
        · apply Exists.intro; repeat (first | assumption | (refine gt_upI ?_; (repeat (first | refine In_up ?_ | refine In_nw ?_)); apply In_of; assumption) | refine gt_rd (by first | assumption | (apply Ne.symm; assumption) | (exact hj _ _ (by omega) (by omega) (by omega)) | omega) ?_ | exact gt_nw (by assumption) | refine gt_odr (by first | assumption | (apply Ne.symm; assumption) | omega) ?_)
        rintro M' rfl
        refine Ev.vret dX2_leaveOne_46 rfl ?_
        refine ⟨rfl, ?_⟩
        subst ha
        simp [low, upd] at hb hc
        subst hb; subst hc
        simp_all [lv1, up_up]
set_option maxRecDepth 20000 in
theorem c_ahead {sd : Int32} : CtI G mX2_aheadOfLevels [.int sd] M 0 0 (fun x M' => x = (if sd = 0 then 1000 else 0) ∧ M' = M) := by
  refine Ct.of (ls := [some (.int sd)]) (by decide) (by decide) rfl rfl rfl ?_
  refine Ev.ild0 dX2_aheadOfLevels_0 ?_
  refine Ev.if_ne (tgt := 10) dX2_aheadOfLevels_1 (by decide) (fun c1 => ?_) (fun c1 => ?_)
  · refine Ev.iconst (v := 0) dX2_aheadOfLevels_10 (by decide) ?_
    refine Ev.iret dX2_aheadOfLevels_11 rfl rfl ?_
    exact ⟨_, rfl, by simp [c1], rfl⟩
  · refine Ev.sipush (v := 1000) dX2_aheadOfLevels_4 (by decide) ?_
    refine Ev.goto (tgt := 11) dX2_aheadOfLevels_7 (by decide) ?_
    refine Ev.iret dX2_aheadOfLevels_11 rfl rfl ?_
    exact ⟨_, rfl, by simp [c1], rfl⟩
set_option maxRecDepth 20000 in
theorem c_countStanding (hB : gt M h = some (bk r w n ph rf lo hi)) (hr : gt M r = some (ia 0 328 f)) (hn : n ≤ 41) : CtI G mX2_countStanding [.ref h] M 0 0 (fun x M' => x = cnS f n ∧ M' = M) := by
  have L : ∀ d k, k + d = n → Ev G mX2_countStanding 4 [some (.ref h), some (.int (cnS f k)), some (.int (nI k))] [] M 0 0 (fun v M' => ∃ x, v = some (.int x) ∧ x = cnS f n ∧ M' = M) := by
    intro d
    induction d with
    | zero =>
      intro k hk
      refine Ev.ild2 dX2_countStanding_4 ?_
      refine Ev.ald0 dX2_countStanding_5 ?_
      apply Ev.getf dX2_countStanding_6 fX2_18
      · repeat (first | assumption | (refine gt_upI ?_; (repeat (first | refine In_up ?_ | refine In_nw ?_)); apply In_of; assumption) | refine gt_rd (by first | assumption | (apply Ne.symm; assumption) | (exact hj _ _ (by omega) (by omega) (by omega)) | omega) ?_ | exact gt_nw (by assumption) | refine gt_odr (by first | assumption | (apply Ne.symm; assumption) | omega) ?_)
      · first | rfl | assumption
      refine Ev.icmp_ge (tgt := 34) dX2_countStanding_9 (by decide) (fun c9 => ?_) (fun c9 => absurd (nI_le (by omega) (by omega)) c9)
      refine Ev.ild1 dX2_countStanding_34 ?_
      refine Ev.iret dX2_countStanding_35 rfl rfl ?_
      exact ⟨_, rfl, by rw [show k = n by omega], rfl⟩
    | succ d ih =>
      intro k hk
      refine Ev.ild2 dX2_countStanding_4 ?_
      refine Ev.ald0 dX2_countStanding_5 ?_
      apply Ev.getf dX2_countStanding_6 fX2_18
      · repeat (first | assumption | (refine gt_upI ?_; (repeat (first | refine In_up ?_ | refine In_nw ?_)); apply In_of; assumption) | refine gt_rd (by first | assumption | (apply Ne.symm; assumption) | (exact hj _ _ (by omega) (by omega) (by omega)) | omega) ?_ | exact gt_nw (by assumption) | refine gt_odr (by first | assumption | (apply Ne.symm; assumption) | omega) ?_)
      · first | rfl | assumption
      refine Ev.icmp_ge (tgt := 34) dX2_countStanding_9 (by decide) (fun c9 => absurd c9 (nI_ge (by omega) (by omega))) (fun c9 => ?_)
      refine Ev.ild1 dX2_countStanding_12 ?_
      refine Ev.ald0 dX2_countStanding_13 ?_
      refine Ev.ild2 dX2_countStanding_14 ?_
      refine Ev.cvI (Yc := mX2_stands) (ci := 2) dX2_countStanding_15 lX2_57 vX2_stands rfl (c_standsN k rfl (by omega) hB hr hn) ?_ rfl rfl rfl rfl ?_
      · apply Exists.intro; repeat (first | assumption | (refine gt_upI ?_; (repeat (first | refine In_up ?_ | refine In_nw ?_)); apply In_of; assumption) | refine gt_rd (by first | assumption | (apply Ne.symm; assumption) | (exact hj _ _ (by omega) (by omega) (by omega)) | omega) ?_ | exact gt_nw (by assumption) | refine gt_odr (by first | assumption | (apply Ne.symm; assumption) | omega) ?_)
      rintro x M' ⟨hx, rfl⟩
      refine Ev.if_eq (tgt := 25) dX2_countStanding_18 (by decide) (fun c18 => ?_) (fun c18 => ?_)
      · refine Ev.iconst (v := 0) dX2_countStanding_25 (by decide) ?_
        refine Ev.iadd dX2_countStanding_26 ?_
        refine Ev.ist1 dX2_countStanding_27 rfl rfl ?_
        apply Ev.iinc2 dX2_countStanding_28 rfl rfl
        · first | exact nI_inc _ | rfl
        refine Ev.goto (tgt := 4) dX2_countStanding_31 (by decide) ?_
        exact Ev.cg (by rw [cnS]; grind) (ih (k + 1) (by omega))
      · refine Ev.iconst (v := 1) dX2_countStanding_21 (by decide) ?_
        refine Ev.goto (tgt := 26) dX2_countStanding_22 (by decide) ?_
        refine Ev.iadd dX2_countStanding_26 ?_
        refine Ev.ist1 dX2_countStanding_27 rfl rfl ?_
        apply Ev.iinc2 dX2_countStanding_28 rfl rfl
        · first | exact nI_inc _ | rfl
        refine Ev.goto (tgt := 4) dX2_countStanding_31 (by decide) ?_
        exact Ev.cg (by rw [cnS]; grind) (ih (k + 1) (by omega))
  refine Ct.of (ls := [some (.ref h), none, none]) (by decide) (by decide) rfl rfl rfl ?_
  refine Ev.iconst (v := 0) dX2_countStanding_0 (by decide) ?_
  refine Ev.ist1 dX2_countStanding_1 rfl rfl ?_
  refine Ev.iconst (v := 0) dX2_countStanding_2 (by decide) ?_
  refine Ev.ist2 dX2_countStanding_3 rfl rfl ?_
  exact L n 0 (by omega)
end BKC
