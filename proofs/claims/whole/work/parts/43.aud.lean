/-! a round's price: sums below all prices, passing a turn, the sweep -/
noncomputable def sba (f sa : Nat → Int32) : Nat → T4
  | 0 => (0, 0, 0, 0)
  | k + 1 => if sa k = 0 ∧ (f (8 * k + 1) = 0 ∨ f (8 * k + 0) = 0) then ad4 (sba f sa k) (f (8 * k + 0)) (f (8 * k + 1)) (f (8 * k + 2)) else sba f sa k
def pas (t : T4) (f sa : Nat → Int32) (k : Nat) : T4 := if sa k = 0 then ad4 t (f (8 * k + 0)) (f (8 * k + 1)) (if f (8 * k + 0) = 0 then -f (8 * k + 2) else f (8 * k + 2)) else t
def nb (x : Int32) : Nat := (x &&& 63).toNatClampNeg
def tp (x : Int32) : Int32 := x >>> ((6 : Int32) &&& 31)
noncomputable def adv (f sa tu : Nat → Int32) (fr : Int32) : Nat → Nat → T4 → Nat × T4
  | 0, j, t => (j, t)
  | d + 1, j, t => if tp (tu j) ≤ fr then adv f sa tu fr d (j + 1) (pas t f sa (nb (tu j))) else (j, t)
noncomputable def fpl (f sa tu : Nat → Int32) (tc : Nat) (hi : Int32) : Nat → Int32 → Nat → T4 → (Nat → Int32) → (Nat → Int32)
  | 0, _, _, _, g => g
  | e + 1, fr, j, t, g => if fr ≤ hi then
      fpl f sa tu tc hi e (mn hi (if (adv f sa tu fr (tc - j) j t).1 < tc then tp (tu (adv f sa tu fr (tc - j) j t).1) - 1 else 999) + 1) (adv f sa tu fr (tc - j) j t).1 (adv f sa tu fr (tc - j) j t).2
        (wgh g fr (mn hi (if (adv f sa tu fr (tc - j) j t).1 < tc then tp (tu (adv f sa tu fr (tc - j) j t).1) - 1 else 999)) (vof (adv f sa tu fr (tc - j) j t).2) (ref (adv f sa tu fr (tc - j) j t).2))
      else g
theorem adv_le {f sa tu : Nat → Int32} {fr : Int32} : ∀ (d j : Nat) (t : T4), (adv f sa tu fr d j t).1 ≤ j + d
  | 0, j, t => Nat.le_refl _
  | d + 1, j, t => by
    rw [adv]
    split
    · have := adv_le (f := f) (sa := sa) (tu := tu) (fr := fr) d (j + 1) (pas t f sa (nb (tu j)))
      omega
    · show j ≤ _
      omega
section AUD
variable {G : GP} {M : Wd} {ad : Nat → Nat} {z n r w tc : Nat} {f sa tu : Nat → Int32} {i1 i2 i3 ph rf lo hi ov hp vo re : Int32} {t : T4}
set_option maxRecDepth 20000 in
theorem a_startBelowAll (hj : Inj ad) (h3 : gt M (ad 3) = some (auc ad i1 i2 i3 (nI tc))) (h0 : gt M (ad 0) = some (bl t ov hp vo re)) (h7 : gt M (ad 7) = some (ia 0 41 sa)) (h13 : gt M (ad 13) = some (bk r w n ph rf lo hi)) (h14 : gt M (ad 14) = some (ia 0 z f)) (hn : n ≤ 41) (hz : 8 * n ≤ z) (hz2 : z ≤ 100000) : CtV G mX0_startBelowAll [.ref (ad 3)] M 0 0 (fun M' => M' = up M (ad 0) (bl (sba f sa n) ov hp vo re)) := by
  have L : ∀ d k, k + d = n → Ev G mX0_startBelowAll 9 [some (.ref (ad 3)), some (.int (nI k))] [] (up M (ad 0) (bl (sba f sa k) ov hp vo re)) 0 0 (fun v M' => v = none ∧ M' = up M (ad 0) (bl (sba f sa n) ov hp vo re)) := by
    intro d
    induction d with
    | zero =>
      intro k hk
      refine Ev.ild1 dX0_startBelowAll_9 ?_
      refine Ev.ald0 dX0_startBelowAll_10 ?_
      apply Ev.getf dX0_startBelowAll_11 fX0_62
      · repeat (first | assumption | (refine gt_upI ?_; (repeat (first | refine In_up ?_ | refine In_nw ?_)); apply In_of; assumption) | refine gt_rd (by first | assumption | (apply Ne.symm; assumption) | (exact hj _ _ (by omega) (by omega) (by omega)) | omega) ?_ | exact gt_nw (by assumption) | refine gt_odr (by first | assumption | (apply Ne.symm; assumption) | omega) ?_)
      · first | rfl | assumption
      apply Ev.getf dX0_startBelowAll_14 fX0_72
      · repeat (first | assumption | (refine gt_upI ?_; (repeat (first | refine In_up ?_ | refine In_nw ?_)); apply In_of; assumption) | refine gt_rd (by first | assumption | (apply Ne.symm; assumption) | (exact hj _ _ (by omega) (by omega) (by omega)) | omega) ?_ | exact gt_nw (by assumption) | refine gt_odr (by first | assumption | (apply Ne.symm; assumption) | omega) ?_)
      · first | rfl | assumption
      refine Ev.icmp_ge (tgt := 78) dX0_startBelowAll_17 (by decide) (fun c9 => ?_) (fun c9 => absurd (nI_le (by omega) (by omega)) c9)
      refine Ev.vret dX0_startBelowAll_78 rfl ?_
      exact ⟨rfl, by rw [show k = n by omega]⟩
    | succ d ih =>
      intro k hk
      have e := nI_clamp (n := k) (by omega)
      have q3 : gt (up M (ad 0) (bl (sba f sa k) ov hp vo re)) (ad 3) = some (auc ad i1 i2 i3 (nI tc)) := (by repeat (first | assumption | (refine gt_upI ?_; (repeat (first | refine In_up ?_ | refine In_nw ?_)); apply In_of; assumption) | refine gt_rd (by first | assumption | (apply Ne.symm; assumption) | (exact hj _ _ (by omega) (by omega) (by omega)) | omega) ?_ | exact gt_nw (by assumption) | refine gt_odr (by first | assumption | (apply Ne.symm; assumption) | omega) ?_))
      have q14 : gt (up M (ad 0) (bl (sba f sa k) ov hp vo re)) (ad 14) = some (ia 0 z f) := (by repeat (first | assumption | (refine gt_upI ?_; (repeat (first | refine In_up ?_ | refine In_nw ?_)); apply In_of; assumption) | refine gt_rd (by first | assumption | (apply Ne.symm; assumption) | (exact hj _ _ (by omega) (by omega) (by omega)) | omega) ?_ | exact gt_nw (by assumption) | refine gt_odr (by first | assumption | (apply Ne.symm; assumption) | omega) ?_))
      have b : vp_in (nI k) 41 := vp_in_nI (by omega) (by omega)
      refine Ev.ild1 dX0_startBelowAll_9 ?_
      refine Ev.ald0 dX0_startBelowAll_10 ?_
      apply Ev.getf dX0_startBelowAll_11 fX0_62
      · repeat (first | assumption | (refine gt_upI ?_; (repeat (first | refine In_up ?_ | refine In_nw ?_)); apply In_of; assumption) | refine gt_rd (by first | assumption | (apply Ne.symm; assumption) | (exact hj _ _ (by omega) (by omega) (by omega)) | omega) ?_ | exact gt_nw (by assumption) | refine gt_odr (by first | assumption | (apply Ne.symm; assumption) | omega) ?_)
      · first | rfl | assumption
      apply Ev.getf dX0_startBelowAll_14 fX0_72
      · repeat (first | assumption | (refine gt_upI ?_; (repeat (first | refine In_up ?_ | refine In_nw ?_)); apply In_of; assumption) | refine gt_rd (by first | assumption | (apply Ne.symm; assumption) | (exact hj _ _ (by omega) (by omega) (by omega)) | omega) ?_ | exact gt_nw (by assumption) | refine gt_odr (by first | assumption | (apply Ne.symm; assumption) | omega) ?_)
      · first | rfl | assumption
      refine Ev.icmp_ge (tgt := 78) dX0_startBelowAll_17 (by decide) (fun c9 => absurd c9 (nI_ge (by omega) (by omega))) (fun c9 => ?_)
      refine Ev.ald0 dX0_startBelowAll_20 ?_
      apply Ev.getf dX0_startBelowAll_21 fX0_42
      · repeat (first | assumption | (refine gt_upI ?_; (repeat (first | refine In_up ?_ | refine In_nw ?_)); apply In_of; assumption) | refine gt_rd (by first | assumption | (apply Ne.symm; assumption) | (exact hj _ _ (by omega) (by omega) (by omega)) | omega) ?_ | exact gt_nw (by assumption) | refine gt_odr (by first | assumption | (apply Ne.symm; assumption) | omega) ?_)
      · first | rfl | assumption
      refine Ev.ild1 dX0_startBelowAll_24 ?_
      apply Ev.iald dX0_startBelowAll_25
      · repeat (first | assumption | (refine gt_upI ?_; (repeat (first | refine In_up ?_ | refine In_nw ?_)); apply In_of; assumption) | refine gt_rd (by first | assumption | (apply Ne.symm; assumption) | (exact hj _ _ (by omega) (by omega) (by omega)) | omega) ?_ | exact gt_nw (by assumption) | refine gt_odr (by first | assumption | (apply Ne.symm; assumption) | omega) ?_)
      · assumption
      rw [e]
      refine Ev.if_ne (tgt := 72) dX0_startBelowAll_26 (by decide) (fun c26 => ?_) (fun c26 => ?_)
      · apply Ev.iinc1 dX0_startBelowAll_72 rfl rfl
        · first | exact nI_inc _ | rfl
        refine Ev.goto (tgt := 9) dX0_startBelowAll_75 (by decide) ?_
        exact Ev.cgM rfl (by rw [sba]; grind) (ih (k + 1) (by omega))
      · refine Ev.ald0 dX0_startBelowAll_29 ?_
        refine Ev.ild1 dX0_startBelowAll_30 ?_
        refine Ev.iconst (v := 1) dX0_startBelowAll_31 (by decide) ?_
        refine Ev.cvI (Yc := mX0_get) (ci := 0) dX0_startBelowAll_32 lX0_86 vX0_get rfl (a_get k 1 rfl rfl q3 rfl q14 (by omega) hz2) ?_ rfl rfl rfl rfl ?_
        · apply Exists.intro; repeat (first | assumption | (refine gt_upI ?_; (repeat (first | refine In_up ?_ | refine In_nw ?_)); apply In_of; assumption) | refine gt_rd (by first | assumption | (apply Ne.symm; assumption) | (exact hj _ _ (by omega) (by omega) (by omega)) | omega) ?_ | exact gt_nw (by assumption) | refine gt_odr (by first | assumption | (apply Ne.symm; assumption) | omega) ?_)
        rintro y32 M' ⟨hy32, rfl⟩
        refine Ev.if_eq (tgt := 47) dX0_startBelowAll_35 (by decide) (fun c35 => ?_) (fun c35 => ?_)
        · refine Ev.ald0 dX0_startBelowAll_47 ?_
          apply Ev.getf dX0_startBelowAll_48 fX0_14
          · repeat (first | assumption | (refine gt_upI ?_; (repeat (first | refine In_up ?_ | refine In_nw ?_)); apply In_of; assumption) | refine gt_rd (by first | assumption | (apply Ne.symm; assumption) | (exact hj _ _ (by omega) (by omega) (by omega)) | omega) ?_ | exact gt_nw (by assumption) | refine gt_odr (by first | assumption | (apply Ne.symm; assumption) | omega) ?_)
          · first | rfl | assumption
          refine Ev.ald0 dX0_startBelowAll_51 ?_
          refine Ev.ild1 dX0_startBelowAll_52 ?_
          refine Ev.iconst (v := 0) dX0_startBelowAll_53 (by decide) ?_
          refine Ev.cvI (Yc := mX0_get) (ci := 0) dX0_startBelowAll_54 lX0_86 vX0_get rfl (a_get k 0 rfl rfl q3 rfl q14 (by omega) hz2) ?_ rfl rfl rfl rfl ?_
          · apply Exists.intro; repeat (first | assumption | (refine gt_upI ?_; (repeat (first | refine In_up ?_ | refine In_nw ?_)); apply In_of; assumption) | refine gt_rd (by first | assumption | (apply Ne.symm; assumption) | (exact hj _ _ (by omega) (by omega) (by omega)) | omega) ?_ | exact gt_nw (by assumption) | refine gt_odr (by first | assumption | (apply Ne.symm; assumption) | omega) ?_)
          rintro y54 M' ⟨hy54, rfl⟩
          refine Ev.ald0 dX0_startBelowAll_57 ?_
          refine Ev.ild1 dX0_startBelowAll_58 ?_
          refine Ev.iconst (v := 1) dX0_startBelowAll_59 (by decide) ?_
          refine Ev.cvI (Yc := mX0_get) (ci := 0) dX0_startBelowAll_60 lX0_86 vX0_get rfl (a_get k 1 rfl rfl q3 rfl q14 (by omega) hz2) ?_ rfl rfl rfl rfl ?_
          · apply Exists.intro; repeat (first | assumption | (refine gt_upI ?_; (repeat (first | refine In_up ?_ | refine In_nw ?_)); apply In_of; assumption) | refine gt_rd (by first | assumption | (apply Ne.symm; assumption) | (exact hj _ _ (by omega) (by omega) (by omega)) | omega) ?_ | exact gt_nw (by assumption) | refine gt_odr (by first | assumption | (apply Ne.symm; assumption) | omega) ?_)
          rintro y60 M' ⟨hy60, rfl⟩
          refine Ev.ald0 dX0_startBelowAll_63 ?_
          refine Ev.ild1 dX0_startBelowAll_64 ?_
          refine Ev.iconst (v := 2) dX0_startBelowAll_65 (by decide) ?_
          refine Ev.cvI (Yc := mX0_get) (ci := 0) dX0_startBelowAll_66 lX0_86 vX0_get rfl (a_get k 2 rfl rfl q3 rfl q14 (by omega) hz2) ?_ rfl rfl rfl rfl ?_
          · apply Exists.intro; repeat (first | assumption | (refine gt_upI ?_; (repeat (first | refine In_up ?_ | refine In_nw ?_)); apply In_of; assumption) | refine gt_rd (by first | assumption | (apply Ne.symm; assumption) | (exact hj _ _ (by omega) (by omega) (by omega)) | omega) ?_ | exact gt_nw (by assumption) | refine gt_odr (by first | assumption | (apply Ne.symm; assumption) | omega) ?_)
          rintro y66 M' ⟨hy66, rfl⟩
          refine Ev.cvV (Yc := mX1_add) (ci := 1) dX0_startBelowAll_69 lX0_167 vX1_add rfl (c_badd (gt_up h0)) ?_ rfl rfl rfl rfl ?_
          · apply Exists.intro; repeat (first | assumption | (refine gt_upI ?_; (repeat (first | refine In_up ?_ | refine In_nw ?_)); apply In_of; assumption) | refine gt_rd (by first | assumption | (apply Ne.symm; assumption) | (exact hj _ _ (by omega) (by omega) (by omega)) | omega) ?_ | exact gt_nw (by assumption) | refine gt_odr (by first | assumption | (apply Ne.symm; assumption) | omega) ?_)
          rintro M' rfl
          rw [up_up]
          apply Ev.iinc1 dX0_startBelowAll_72 rfl rfl
          · first | exact nI_inc _ | rfl
          refine Ev.goto (tgt := 9) dX0_startBelowAll_75 (by decide) ?_
          exact Ev.cgM rfl (by rw [sba]; grind) (ih (k + 1) (by omega))
        · refine Ev.ald0 dX0_startBelowAll_38 ?_
          refine Ev.ild1 dX0_startBelowAll_39 ?_
          refine Ev.iconst (v := 0) dX0_startBelowAll_40 (by decide) ?_
          refine Ev.cvI (Yc := mX0_get) (ci := 0) dX0_startBelowAll_41 lX0_86 vX0_get rfl (a_get k 0 rfl rfl q3 rfl q14 (by omega) hz2) ?_ rfl rfl rfl rfl ?_
          · apply Exists.intro; repeat (first | assumption | (refine gt_upI ?_; (repeat (first | refine In_up ?_ | refine In_nw ?_)); apply In_of; assumption) | refine gt_rd (by first | assumption | (apply Ne.symm; assumption) | (exact hj _ _ (by omega) (by omega) (by omega)) | omega) ?_ | exact gt_nw (by assumption) | refine gt_odr (by first | assumption | (apply Ne.symm; assumption) | omega) ?_)
          rintro y41 M' ⟨hy41, rfl⟩
          refine Ev.if_ne (tgt := 72) dX0_startBelowAll_44 (by decide) (fun c44 => ?_) (fun c44 => ?_)
          · apply Ev.iinc1 dX0_startBelowAll_72 rfl rfl
            · first | exact nI_inc _ | rfl
            refine Ev.goto (tgt := 9) dX0_startBelowAll_75 (by decide) ?_
            exact Ev.cgM rfl (by rw [sba]; grind) (ih (k + 1) (by omega))
          · refine Ev.ald0 dX0_startBelowAll_47 ?_
            apply Ev.getf dX0_startBelowAll_48 fX0_14
            · repeat (first | assumption | (refine gt_upI ?_; (repeat (first | refine In_up ?_ | refine In_nw ?_)); apply In_of; assumption) | refine gt_rd (by first | assumption | (apply Ne.symm; assumption) | (exact hj _ _ (by omega) (by omega) (by omega)) | omega) ?_ | exact gt_nw (by assumption) | refine gt_odr (by first | assumption | (apply Ne.symm; assumption) | omega) ?_)
            · first | rfl | assumption
            refine Ev.ald0 dX0_startBelowAll_51 ?_
            refine Ev.ild1 dX0_startBelowAll_52 ?_
            refine Ev.iconst (v := 0) dX0_startBelowAll_53 (by decide) ?_
            refine Ev.cvI (Yc := mX0_get) (ci := 0) dX0_startBelowAll_54 lX0_86 vX0_get rfl (a_get k 0 rfl rfl q3 rfl q14 (by omega) hz2) ?_ rfl rfl rfl rfl ?_
            · apply Exists.intro; repeat (first | assumption | (refine gt_upI ?_; (repeat (first | refine In_up ?_ | refine In_nw ?_)); apply In_of; assumption) | refine gt_rd (by first | assumption | (apply Ne.symm; assumption) | (exact hj _ _ (by omega) (by omega) (by omega)) | omega) ?_ | exact gt_nw (by assumption) | refine gt_odr (by first | assumption | (apply Ne.symm; assumption) | omega) ?_)
            rintro y54 M' ⟨hy54, rfl⟩
            refine Ev.ald0 dX0_startBelowAll_57 ?_
            refine Ev.ild1 dX0_startBelowAll_58 ?_
            refine Ev.iconst (v := 1) dX0_startBelowAll_59 (by decide) ?_
            refine Ev.cvI (Yc := mX0_get) (ci := 0) dX0_startBelowAll_60 lX0_86 vX0_get rfl (a_get k 1 rfl rfl q3 rfl q14 (by omega) hz2) ?_ rfl rfl rfl rfl ?_
            · apply Exists.intro; repeat (first | assumption | (refine gt_upI ?_; (repeat (first | refine In_up ?_ | refine In_nw ?_)); apply In_of; assumption) | refine gt_rd (by first | assumption | (apply Ne.symm; assumption) | (exact hj _ _ (by omega) (by omega) (by omega)) | omega) ?_ | exact gt_nw (by assumption) | refine gt_odr (by first | assumption | (apply Ne.symm; assumption) | omega) ?_)
            rintro y60 M' ⟨hy60, rfl⟩
            refine Ev.ald0 dX0_startBelowAll_63 ?_
            refine Ev.ild1 dX0_startBelowAll_64 ?_
            refine Ev.iconst (v := 2) dX0_startBelowAll_65 (by decide) ?_
            refine Ev.cvI (Yc := mX0_get) (ci := 0) dX0_startBelowAll_66 lX0_86 vX0_get rfl (a_get k 2 rfl rfl q3 rfl q14 (by omega) hz2) ?_ rfl rfl rfl rfl ?_
            · apply Exists.intro; repeat (first | assumption | (refine gt_upI ?_; (repeat (first | refine In_up ?_ | refine In_nw ?_)); apply In_of; assumption) | refine gt_rd (by first | assumption | (apply Ne.symm; assumption) | (exact hj _ _ (by omega) (by omega) (by omega)) | omega) ?_ | exact gt_nw (by assumption) | refine gt_odr (by first | assumption | (apply Ne.symm; assumption) | omega) ?_)
            rintro y66 M' ⟨hy66, rfl⟩
            refine Ev.cvV (Yc := mX1_add) (ci := 1) dX0_startBelowAll_69 lX0_167 vX1_add rfl (c_badd (gt_up h0)) ?_ rfl rfl rfl rfl ?_
            · apply Exists.intro; repeat (first | assumption | (refine gt_upI ?_; (repeat (first | refine In_up ?_ | refine In_nw ?_)); apply In_of; assumption) | refine gt_rd (by first | assumption | (apply Ne.symm; assumption) | (exact hj _ _ (by omega) (by omega) (by omega)) | omega) ?_ | exact gt_nw (by assumption) | refine gt_odr (by first | assumption | (apply Ne.symm; assumption) | omega) ?_)
            rintro M' rfl
            rw [up_up]
            apply Ev.iinc1 dX0_startBelowAll_72 rfl rfl
            · first | exact nI_inc _ | rfl
            refine Ev.goto (tgt := 9) dX0_startBelowAll_75 (by decide) ?_
            exact Ev.cgM rfl (by rw [sba]; grind) (ih (k + 1) (by omega))
  refine Ct.of (ls := [some (.ref (ad 3)), none]) (by decide) (by decide) rfl rfl rfl ?_
  refine Ev.ald0 dX0_startBelowAll_0 ?_
  apply Ev.getf dX0_startBelowAll_1 fX0_14
  · repeat (first | assumption | (refine gt_upI ?_; (repeat (first | refine In_up ?_ | refine In_nw ?_)); apply In_of; assumption) | refine gt_rd (by first | assumption | (apply Ne.symm; assumption) | (exact hj _ _ (by omega) (by omega) (by omega)) | omega) ?_ | exact gt_nw (by assumption) | refine gt_odr (by first | assumption | (apply Ne.symm; assumption) | omega) ?_)
  · first | rfl | assumption
  refine Ev.cvV (Yc := mX1_reset) (ci := 1) dX0_startBelowAll_4 lX0_164 vX1_reset rfl (c_breset h0) ?_ rfl rfl rfl rfl ?_
  · apply Exists.intro; repeat (first | assumption | (refine gt_upI ?_; (repeat (first | refine In_up ?_ | refine In_nw ?_)); apply In_of; assumption) | refine gt_rd (by first | assumption | (apply Ne.symm; assumption) | (exact hj _ _ (by omega) (by omega) (by omega)) | omega) ?_ | exact gt_nw (by assumption) | refine gt_odr (by first | assumption | (apply Ne.symm; assumption) | omega) ?_)
  rintro M' rfl
  refine Ev.iconst (v := 0) dX0_startBelowAll_7 (by decide) ?_
  refine Ev.ist1 dX0_startBelowAll_8 rfl rfl ?_
  exact L n 0 (by omega)
set_option maxRecDepth 20000 in
theorem a_pass {o : Int32} (k : Nat) (ho : o = nI k) (hj : Inj ad) (h3 : gt M (ad 3) = some (auc ad i1 i2 i3 (nI tc))) (h0 : gt M (ad 0) = some (bl t ov hp vo re)) (h7 : gt M (ad 7) = some (ia 0 41 sa)) (h14 : gt M (ad 14) = some (ia 0 z f)) (hk : k < 41) (hz : 8 * k + 7 < z) (hz2 : z ≤ 100000) : CtV G mX0_pass [.ref (ad 3), .int o] M 0 0 (fun M' => M' = up M (ad 0) (bl (pas t f sa k) ov hp vo re)) := by
  subst ho
  have e := nI_clamp (n := k) (by omega)
  have b : vp_in (nI k) 41 := vp_in_nI (by omega) (by omega)
  refine Ct.of (ls := [some (.ref (ad 3)), some (.int (nI k)), none]) (by decide) (by decide) rfl rfl rfl ?_
  refine Ev.ald0 dX0_pass_0 ?_
  apply Ev.getf dX0_pass_1 fX0_42
  · repeat (first | assumption | (refine gt_upI ?_; (repeat (first | refine In_up ?_ | refine In_nw ?_)); apply In_of; assumption) | refine gt_rd (by first | assumption | (apply Ne.symm; assumption) | (exact hj _ _ (by omega) (by omega) (by omega)) | omega) ?_ | exact gt_nw (by assumption) | refine gt_odr (by first | assumption | (apply Ne.symm; assumption) | omega) ?_)
  · first | rfl | assumption
  refine Ev.ild1 dX0_pass_4 ?_
  apply Ev.iald dX0_pass_5
  · repeat (first | assumption | (refine gt_upI ?_; (repeat (first | refine In_up ?_ | refine In_nw ?_)); apply In_of; assumption) | refine gt_rd (by first | assumption | (apply Ne.symm; assumption) | (exact hj _ _ (by omega) (by omega) (by omega)) | omega) ?_ | exact gt_nw (by assumption) | refine gt_odr (by first | assumption | (apply Ne.symm; assumption) | omega) ?_)
  · assumption
  rw [e]
  refine Ev.if_ne (tgt := 50) dX0_pass_6 (by decide) (fun c6 => ?_) (fun c6 => ?_)
  · refine Ev.vret dX0_pass_50 rfl ?_
    first | exact ⟨rfl, by rw [pas, if_neg c6, up_id h0]⟩ | exact ⟨rfl, by rw [pas, if_pos c6]; grind⟩
  · refine Ev.ald0 dX0_pass_9 ?_
    refine Ev.ild1 dX0_pass_10 ?_
    refine Ev.iconst (v := 2) dX0_pass_11 (by decide) ?_
    refine Ev.cvI (Yc := mX0_get) (ci := 0) dX0_pass_12 lX0_86 vX0_get rfl (a_get k 2 rfl rfl h3 rfl h14 (by omega) hz2) ?_ rfl rfl rfl rfl ?_
    · apply Exists.intro; repeat (first | assumption | (refine gt_upI ?_; (repeat (first | refine In_up ?_ | refine In_nw ?_)); apply In_of; assumption) | refine gt_rd (by first | assumption | (apply Ne.symm; assumption) | (exact hj _ _ (by omega) (by omega) (by omega)) | omega) ?_ | exact gt_nw (by assumption) | refine gt_odr (by first | assumption | (apply Ne.symm; assumption) | omega) ?_)
    rintro y12 M' ⟨hy12, rfl⟩
    refine Ev.ist2 dX0_pass_15 rfl rfl ?_
    refine Ev.ald0 dX0_pass_16 ?_
    apply Ev.getf dX0_pass_17 fX0_14
    · repeat (first | assumption | (refine gt_upI ?_; (repeat (first | refine In_up ?_ | refine In_nw ?_)); apply In_of; assumption) | refine gt_rd (by first | assumption | (apply Ne.symm; assumption) | (exact hj _ _ (by omega) (by omega) (by omega)) | omega) ?_ | exact gt_nw (by assumption) | refine gt_odr (by first | assumption | (apply Ne.symm; assumption) | omega) ?_)
    · first | rfl | assumption
    refine Ev.ald0 dX0_pass_20 ?_
    refine Ev.ild1 dX0_pass_21 ?_
    refine Ev.iconst (v := 0) dX0_pass_22 (by decide) ?_
    refine Ev.cvI (Yc := mX0_get) (ci := 0) dX0_pass_23 lX0_86 vX0_get rfl (a_get k 0 rfl rfl h3 rfl h14 (by omega) hz2) ?_ rfl rfl rfl rfl ?_
    · apply Exists.intro; repeat (first | assumption | (refine gt_upI ?_; (repeat (first | refine In_up ?_ | refine In_nw ?_)); apply In_of; assumption) | refine gt_rd (by first | assumption | (apply Ne.symm; assumption) | (exact hj _ _ (by omega) (by omega) (by omega)) | omega) ?_ | exact gt_nw (by assumption) | refine gt_odr (by first | assumption | (apply Ne.symm; assumption) | omega) ?_)
    rintro y23 M' ⟨hy23, rfl⟩
    refine Ev.ald0 dX0_pass_26 ?_
    refine Ev.ild1 dX0_pass_27 ?_
    refine Ev.iconst (v := 1) dX0_pass_28 (by decide) ?_
    refine Ev.cvI (Yc := mX0_get) (ci := 0) dX0_pass_29 lX0_86 vX0_get rfl (a_get k 1 rfl rfl h3 rfl h14 (by omega) hz2) ?_ rfl rfl rfl rfl ?_
    · apply Exists.intro; repeat (first | assumption | (refine gt_upI ?_; (repeat (first | refine In_up ?_ | refine In_nw ?_)); apply In_of; assumption) | refine gt_rd (by first | assumption | (apply Ne.symm; assumption) | (exact hj _ _ (by omega) (by omega) (by omega)) | omega) ?_ | exact gt_nw (by assumption) | refine gt_odr (by first | assumption | (apply Ne.symm; assumption) | omega) ?_)
    rintro y29 M' ⟨hy29, rfl⟩
    refine Ev.ald0 dX0_pass_32 ?_
    refine Ev.ild1 dX0_pass_33 ?_
    refine Ev.iconst (v := 0) dX0_pass_34 (by decide) ?_
    refine Ev.cvI (Yc := mX0_get) (ci := 0) dX0_pass_35 lX0_86 vX0_get rfl (a_get k 0 rfl rfl h3 rfl h14 (by omega) hz2) ?_ rfl rfl rfl rfl ?_
    · apply Exists.intro; repeat (first | assumption | (refine gt_upI ?_; (repeat (first | refine In_up ?_ | refine In_nw ?_)); apply In_of; assumption) | refine gt_rd (by first | assumption | (apply Ne.symm; assumption) | (exact hj _ _ (by omega) (by omega) (by omega)) | omega) ?_ | exact gt_nw (by assumption) | refine gt_odr (by first | assumption | (apply Ne.symm; assumption) | omega) ?_)
    rintro y35 M' ⟨hy35, rfl⟩
    refine Ev.if_ne (tgt := 46) dX0_pass_38 (by decide) (fun c38 => ?_) (fun c38 => ?_)
    · refine Ev.ild2 dX0_pass_46 ?_
      refine Ev.cvV (Yc := mX1_add) (ci := 1) dX0_pass_47 lX0_167 vX1_add rfl (c_badd h0) ?_ rfl rfl rfl rfl ?_
      · apply Exists.intro; repeat (first | assumption | (refine gt_upI ?_; (repeat (first | refine In_up ?_ | refine In_nw ?_)); apply In_of; assumption) | refine gt_rd (by first | assumption | (apply Ne.symm; assumption) | (exact hj _ _ (by omega) (by omega) (by omega)) | omega) ?_ | exact gt_nw (by assumption) | refine gt_odr (by first | assumption | (apply Ne.symm; assumption) | omega) ?_)
      rintro M' rfl
      refine Ev.vret dX0_pass_50 rfl ?_
      first | exact ⟨rfl, by rw [pas, if_neg c6, up_id h0]⟩ | exact ⟨rfl, by rw [pas, if_pos c6]; grind⟩
    · refine Ev.ild2 dX0_pass_41 ?_
      refine Ev.ineg dX0_pass_42 ?_
      refine Ev.goto (tgt := 47) dX0_pass_43 (by decide) ?_
      refine Ev.cvV (Yc := mX1_add) (ci := 1) dX0_pass_47 lX0_167 vX1_add rfl (c_badd h0) ?_ rfl rfl rfl rfl ?_
      · apply Exists.intro; repeat (first | assumption | (refine gt_upI ?_; (repeat (first | refine In_up ?_ | refine In_nw ?_)); apply In_of; assumption) | refine gt_rd (by first | assumption | (apply Ne.symm; assumption) | (exact hj _ _ (by omega) (by omega) (by omega)) | omega) ?_ | exact gt_nw (by assumption) | refine gt_odr (by first | assumption | (apply Ne.symm; assumption) | omega) ?_)
      rintro M' rfl
      refine Ev.vret dX0_pass_50 rfl ?_
      first | exact ⟨rfl, by rw [pas, if_neg c6, up_id h0]⟩ | exact ⟨rfl, by rw [pas, if_pos c6]; grind⟩
set_option maxRecDepth 20000 in
theorem a_findPrice {g : Nat → Int32} (hj : Inj ad) (h3 : gt M (ad 3) = some (auc ad i1 i2 i3 (nI tc))) (h0 : gt M (ad 0) = some (bl t ov hp vo re)) (h1 : gt M (ad 1) = some (cc g)) (h7 : gt M (ad 7) = some (ia 0 41 sa)) (h11 : gt M (ad 11) = some (ia 0 41 tu)) (h13 : gt M (ad 13) = some (bk r w n ph rf lo hi)) (h14 : gt M (ad 14) = some (ia 0 z f)) (hn : n ≤ 41) (hz : 8 * n ≤ z) (hz2 : z ≤ 100000) (htc : tc ≤ 41) (htu : ∀ j, j < tc → ∃ o, o < n ∧ tu j &&& 63 = nI o) :
    CtV G mX0_findPrice [.ref (ad 3)] M 0 0 (fun M' => ∃ (t' : T4) (ov' hp' vo' re' : Int32), M' = up (up M (ad 0) (bl t' ov' hp' vo' re')) (ad 1) (cc (dcd (fpl f sa tu tc hi (tc + 1) lo 0 (sba f sa n) (upd (upd (upd (upd g 5 rf) 1 0) 4 0) 6 0))))) := by
  have ne01 : ad 0 ≠ ad 1 := hj _ _ (by decide) (by decide) (by decide)
  have key : ∀ (t1 : T4) (o1 p1 v1 r1 : Int32) (g1 : Nat → Int32), gt (up (up M (ad 0) (bl t1 o1 p1 v1 r1)) (ad 1) (cc g1)) (ad 3) = some (auc ad i1 i2 i3 (nI tc)) ∧ gt (up (up M (ad 0) (bl t1 o1 p1 v1 r1)) (ad 1) (cc g1)) (ad 0) = some (bl t1 o1 p1 v1 r1) ∧ gt (up (up M (ad 0) (bl t1 o1 p1 v1 r1)) (ad 1) (cc g1)) (ad 1) = some (cc g1) ∧ gt (up (up M (ad 0) (bl t1 o1 p1 v1 r1)) (ad 1) (cc g1)) (ad 7) = some (ia 0 41 sa) ∧ gt (up (up M (ad 0) (bl t1 o1 p1 v1 r1)) (ad 1) (cc g1)) (ad 11) = some (ia 0 41 tu) ∧ gt (up (up M (ad 0) (bl t1 o1 p1 v1 r1)) (ad 1) (cc g1)) (ad 13) = some (bk r w n ph rf lo hi) ∧ gt (up (up M (ad 0) (bl t1 o1 p1 v1 r1)) (ad 1) (cc g1)) (ad 14) = some (ia 0 z f) :=
    fun t1 o1 p1 v1 r1 g1 => ⟨(by repeat (first | assumption | (refine gt_upI ?_; (repeat (first | refine In_up ?_ | refine In_nw ?_)); apply In_of; assumption) | refine gt_rd (by first | assumption | (apply Ne.symm; assumption) | (exact hj _ _ (by omega) (by omega) (by omega)) | omega) ?_ | exact gt_nw (by assumption) | refine gt_odr (by first | assumption | (apply Ne.symm; assumption) | omega) ?_)), (by repeat (first | assumption | (refine gt_upI ?_; (repeat (first | refine In_up ?_ | refine In_nw ?_)); apply In_of; assumption) | refine gt_rd (by first | assumption | (apply Ne.symm; assumption) | (exact hj _ _ (by omega) (by omega) (by omega)) | omega) ?_ | exact gt_nw (by assumption) | refine gt_odr (by first | assumption | (apply Ne.symm; assumption) | omega) ?_)), (by repeat (first | assumption | (refine gt_upI ?_; (repeat (first | refine In_up ?_ | refine In_nw ?_)); apply In_of; assumption) | refine gt_rd (by first | assumption | (apply Ne.symm; assumption) | (exact hj _ _ (by omega) (by omega) (by omega)) | omega) ?_ | exact gt_nw (by assumption) | refine gt_odr (by first | assumption | (apply Ne.symm; assumption) | omega) ?_)), (by repeat (first | assumption | (refine gt_upI ?_; (repeat (first | refine In_up ?_ | refine In_nw ?_)); apply In_of; assumption) | refine gt_rd (by first | assumption | (apply Ne.symm; assumption) | (exact hj _ _ (by omega) (by omega) (by omega)) | omega) ?_ | exact gt_nw (by assumption) | refine gt_odr (by first | assumption | (apply Ne.symm; assumption) | omega) ?_)), (by repeat (first | assumption | (refine gt_upI ?_; (repeat (first | refine In_up ?_ | refine In_nw ?_)); apply In_of; assumption) | refine gt_rd (by first | assumption | (apply Ne.symm; assumption) | (exact hj _ _ (by omega) (by omega) (by omega)) | omega) ?_ | exact gt_nw (by assumption) | refine gt_odr (by first | assumption | (apply Ne.symm; assumption) | omega) ?_)), (by repeat (first | assumption | (refine gt_upI ?_; (repeat (first | refine In_up ?_ | refine In_nw ?_)); apply In_of; assumption) | refine gt_rd (by first | assumption | (apply Ne.symm; assumption) | (exact hj _ _ (by omega) (by omega) (by omega)) | omega) ?_ | exact gt_nw (by assumption) | refine gt_odr (by first | assumption | (apply Ne.symm; assumption) | omega) ?_)), (by repeat (first | assumption | (refine gt_upI ?_; (repeat (first | refine In_up ?_ | refine In_nw ?_)); apply In_of; assumption) | refine gt_rd (by first | assumption | (apply Ne.symm; assumption) | (exact hj _ _ (by omega) (by omega) (by omega)) | omega) ?_ | exact gt_nw (by assumption) | refine gt_odr (by first | assumption | (apply Ne.symm; assumption) | omega) ?_))⟩
  have sw : ∀ (t1 t2 : T4) (o1 p1 v1 r1 o2 p2 v2 r2 : Int32) (g1 : Nat → Int32), up (up (up M (ad 0) (bl t1 o1 p1 v1 r1)) (ad 1) (cc g1)) (ad 0) (bl t2 o2 p2 v2 r2) = up (up M (ad 0) (bl t2 o2 p2 v2 r2)) (ad 1) (cc g1) := fun t1 t2 o1 p1 v1 r1 o2 p2 v2 r2 g1 => by rw [up_sw ne01.symm, up_up]
  have LI : ∀ (K : Nat → T4 → Prop) (fr ix : Int32) (a4 a5 : Option Value) (g1 : Nat → Int32) (Q : Option Value → Wd → Prop) (o1 p1 v1 r1 : Int32),
      (∀ j1 t1, K j1 t1 → j1 ≤ tc → Ev G mX0_findPrice 89 [some (.ref (ad 3)), some (.int fr), some (.int (nI j1)), some (.int ix), a4, a5] [] (up (up M (ad 0) (bl t1 o1 p1 v1 r1)) (ad 1) (cc g1)) 0 0 Q) →
      ∀ d j t1, j + d = tc → K (adv f sa tu fr d j t1).1 (adv f sa tu fr d j t1).2 → Ev G mX0_findPrice 49 [some (.ref (ad 3)), some (.int fr), some (.int (nI j)), some (.int ix), a4, a5] [] (up (up M (ad 0) (bl t1 o1 p1 v1 r1)) (ad 1) (cc g1)) 0 0 Q := by
    intro K fr ix a4 a5 g1 Q o1 p1 v1 r1 hK d
    induction d with
    | zero =>
      intro j t1 hd hk
      obtain ⟨q3, q0, q1, q7, q11, q13, q14⟩ := key t1 o1 p1 v1 r1 g1
      refine Ev.ild2 dX0_findPrice_49 ?_
      refine Ev.ald0 dX0_findPrice_50 ?_
      apply Ev.getf dX0_findPrice_51 fX0_59
      · repeat (first | assumption | (refine gt_upI ?_; (repeat (first | refine In_up ?_ | refine In_nw ?_)); apply In_of; assumption) | refine gt_rd (by first | assumption | (apply Ne.symm; assumption) | (exact hj _ _ (by omega) (by omega) (by omega)) | omega) ?_ | exact gt_nw (by assumption) | refine gt_odr (by first | assumption | (apply Ne.symm; assumption) | omega) ?_)
      · first | rfl | assumption
      refine Ev.icmp_ge (tgt := 89) dX0_findPrice_54 (by decide) (fun c9 => ?_) (fun c9 => absurd (nI_le (by omega) (by omega)) c9)
      exact hK _ _ hk (by omega)
    | succ d ih =>
      intro j t1 hd hk
      obtain ⟨q3, q0, q1, q7, q11, q13, q14⟩ := key t1 o1 p1 v1 r1 g1
      have e := nI_clamp (n := j) (by omega)
      have b : vp_in (nI j) 41 := vp_in_nI (by omega) (by omega)
      obtain ⟨o, ho, hno⟩ := htu j (by omega)
      have enb : nb (tu j) = o := by rw [nb, hno]; exact nI_clamp (by omega)
      refine Ev.ild2 dX0_findPrice_49 ?_
      refine Ev.ald0 dX0_findPrice_50 ?_
      apply Ev.getf dX0_findPrice_51 fX0_59
      · repeat (first | assumption | (refine gt_upI ?_; (repeat (first | refine In_up ?_ | refine In_nw ?_)); apply In_of; assumption) | refine gt_rd (by first | assumption | (apply Ne.symm; assumption) | (exact hj _ _ (by omega) (by omega) (by omega)) | omega) ?_ | exact gt_nw (by assumption) | refine gt_odr (by first | assumption | (apply Ne.symm; assumption) | omega) ?_)
      · first | rfl | assumption
      refine Ev.icmp_ge (tgt := 89) dX0_findPrice_54 (by decide) (fun c9 => absurd c9 (nI_ge (by omega) (by omega))) (fun c9 => ?_)
      refine Ev.ald0 dX0_findPrice_57 ?_
      apply Ev.getf dX0_findPrice_58 fX0_56
      · repeat (first | assumption | (refine gt_upI ?_; (repeat (first | refine In_up ?_ | refine In_nw ?_)); apply In_of; assumption) | refine gt_rd (by first | assumption | (apply Ne.symm; assumption) | (exact hj _ _ (by omega) (by omega) (by omega)) | omega) ?_ | exact gt_nw (by assumption) | refine gt_odr (by first | assumption | (apply Ne.symm; assumption) | omega) ?_)
      · first | rfl | assumption
      refine Ev.ild2 dX0_findPrice_61 ?_
      apply Ev.iald dX0_findPrice_62
      · repeat (first | assumption | (refine gt_upI ?_; (repeat (first | refine In_up ?_ | refine In_nw ?_)); apply In_of; assumption) | refine gt_rd (by first | assumption | (apply Ne.symm; assumption) | (exact hj _ _ (by omega) (by omega) (by omega)) | omega) ?_ | exact gt_nw (by assumption) | refine gt_odr (by first | assumption | (apply Ne.symm; assumption) | omega) ?_)
      · assumption
      rw [e]
      refine Ev.bipush (v := 6) dX0_findPrice_63 (by decide) ?_
      refine Ev.ishr dX0_findPrice_65 ?_
      refine Ev.ild1 dX0_findPrice_66 ?_
      refine Ev.icmp_gt (tgt := 89) dX0_findPrice_67 (by decide) (fun c67 => ?_) (fun c67 => ?_)
      · have : adv f sa tu fr (d + 1) j t1 = (j, t1) := by rw [adv, if_neg]; exact Int32.not_le.mpr c67
        rw [this] at hk
        exact hK _ _ hk (by omega)
      · have : adv f sa tu fr (d + 1) j t1 = adv f sa tu fr d (j + 1) (pas t1 f sa o) := by rw [adv, if_pos (show tp (tu j) ≤ fr from Int32.not_lt.mp c67), enb]
        rw [this] at hk
        refine Ev.ald0 dX0_findPrice_70 ?_
        refine Ev.ald0 dX0_findPrice_71 ?_
        apply Ev.getf dX0_findPrice_72 fX0_56
        · repeat (first | assumption | (refine gt_upI ?_; (repeat (first | refine In_up ?_ | refine In_nw ?_)); apply In_of; assumption) | refine gt_rd (by first | assumption | (apply Ne.symm; assumption) | (exact hj _ _ (by omega) (by omega) (by omega)) | omega) ?_ | exact gt_nw (by assumption) | refine gt_odr (by first | assumption | (apply Ne.symm; assumption) | omega) ?_)
        · first | rfl | assumption
        refine Ev.ild2 dX0_findPrice_75 ?_
        apply Ev.iald dX0_findPrice_76
        · repeat (first | assumption | (refine gt_upI ?_; (repeat (first | refine In_up ?_ | refine In_nw ?_)); apply In_of; assumption) | refine gt_rd (by first | assumption | (apply Ne.symm; assumption) | (exact hj _ _ (by omega) (by omega) (by omega)) | omega) ?_ | exact gt_nw (by assumption) | refine gt_odr (by first | assumption | (apply Ne.symm; assumption) | omega) ?_)
        · assumption
        rw [e]
        refine Ev.csI (Yc := mX0_numberOf) dX0_findPrice_77 lX0_104 vX0_numberOf rfl a_numberOf rfl rfl rfl ?_
        rintro x M' ⟨hx, rfl⟩
        rw [hno] at hx
        refine Ev.cvV (Yc := mX0_pass) (ci := 0) dX0_findPrice_80 lX0_146 vX0_pass rfl (a_pass o hx hj q3 q0 q7 q14 (by omega) (by omega) hz2) ?_ rfl rfl rfl rfl ?_
        · apply Exists.intro; repeat (first | assumption | (refine gt_upI ?_; (repeat (first | refine In_up ?_ | refine In_nw ?_)); apply In_of; assumption) | refine gt_rd (by first | assumption | (apply Ne.symm; assumption) | (exact hj _ _ (by omega) (by omega) (by omega)) | omega) ?_ | exact gt_nw (by assumption) | refine gt_odr (by first | assumption | (apply Ne.symm; assumption) | omega) ?_)
        rintro M' rfl
        rw [sw]
        apply Ev.iinc2 dX0_findPrice_83 rfl rfl
        · first | exact nI_inc _ | rfl
        refine Ev.goto (tgt := 49) dX0_findPrice_86 (by decide) ?_
        exact ih (j + 1) (pas t1 f sa o) (by omega) hk
  have LO : ∀ (e i j : Nat) (fr : Int32) (a4 a5 : Option Value) (t1 : T4) (o1 p1 v1 r1 : Int32) (g1 : Nat → Int32), i + e = tc + 1 → j ≤ tc → Ev G mX0_findPrice 30 [some (.ref (ad 3)), some (.int fr), some (.int (nI j)), some (.int (nI i)), a4, a5] [] (up (up M (ad 0) (bl t1 o1 p1 v1 r1)) (ad 1) (cc g1)) 0 0 (fun v M' => v = none ∧ ∃ (t' : T4) (ov' hp' vo' re' : Int32), M' = up (up M (ad 0) (bl t' ov' hp' vo' re')) (ad 1) (cc (dcd (fpl f sa tu tc hi e fr j t1 g1)))) := by
    intro e
    induction e with
    | zero =>
      intro i j fr a4 a5 t1 o1 p1 v1 r1 g1 hi1 hj1
      obtain ⟨q3, q0, q1, q7, q11, q13, q14⟩ := key t1 o1 p1 v1 r1 g1
      refine Ev.ild3 dX0_findPrice_30 ?_
      refine Ev.ald0 dX0_findPrice_31 ?_
      apply Ev.getf dX0_findPrice_32 fX0_59
      · repeat (first | assumption | (refine gt_upI ?_; (repeat (first | refine In_up ?_ | refine In_nw ?_)); apply In_of; assumption) | refine gt_rd (by first | assumption | (apply Ne.symm; assumption) | (exact hj _ _ (by omega) (by omega) (by omega)) | omega) ?_ | exact gt_nw (by assumption) | refine gt_odr (by first | assumption | (apply Ne.symm; assumption) | omega) ?_)
      · first | rfl | assumption
      refine Ev.icmp_gt (tgt := 162) dX0_findPrice_35 (by decide) (fun c9 => ?_) (fun c9 => absurd (nI_lt (by omega) (by omega)) c9)
      refine Ev.ald0 dX0_findPrice_162 ?_
      apply Ev.getf dX0_findPrice_163 fX0_21
      · repeat (first | assumption | (refine gt_upI ?_; (repeat (first | refine In_up ?_ | refine In_nw ?_)); apply In_of; assumption) | refine gt_rd (by first | assumption | (apply Ne.symm; assumption) | (exact hj _ _ (by omega) (by omega) (by omega)) | omega) ?_ | exact gt_nw (by assumption) | refine gt_odr (by first | assumption | (apply Ne.symm; assumption) | omega) ?_)
      · first | rfl | assumption
      refine Ev.cvV (Yc := mX3_decide) (ci := 3) dX0_findPrice_166 lX0_161 vX3_decide rfl (c_decide q1) ?_ rfl rfl rfl rfl ?_
      · apply Exists.intro; repeat (first | assumption | (refine gt_upI ?_; (repeat (first | refine In_up ?_ | refine In_nw ?_)); apply In_of; assumption) | refine gt_rd (by first | assumption | (apply Ne.symm; assumption) | (exact hj _ _ (by omega) (by omega) (by omega)) | omega) ?_ | exact gt_nw (by assumption) | refine gt_odr (by first | assumption | (apply Ne.symm; assumption) | omega) ?_)
      rintro M' rfl
      refine Ev.vret dX0_findPrice_169 rfl ?_
      exact ⟨rfl, t1, o1, p1, v1, r1, by rw [up_up, fpl]⟩
    | succ e ih =>
      intro i j fr a4 a5 t1 o1 p1 v1 r1 g1 hi1 hj1
      obtain ⟨q3, q0, q1, q7, q11, q13, q14⟩ := key t1 o1 p1 v1 r1 g1
      refine Ev.ild3 dX0_findPrice_30 ?_
      refine Ev.ald0 dX0_findPrice_31 ?_
      apply Ev.getf dX0_findPrice_32 fX0_59
      · repeat (first | assumption | (refine gt_upI ?_; (repeat (first | refine In_up ?_ | refine In_nw ?_)); apply In_of; assumption) | refine gt_rd (by first | assumption | (apply Ne.symm; assumption) | (exact hj _ _ (by omega) (by omega) (by omega)) | omega) ?_ | exact gt_nw (by assumption) | refine gt_odr (by first | assumption | (apply Ne.symm; assumption) | omega) ?_)
      · first | rfl | assumption
      refine Ev.icmp_gt (tgt := 162) dX0_findPrice_35 (by decide) (fun c9 => absurd c9 (nI_nlt (by omega) (by omega))) (fun c9 => ?_)
      refine Ev.ild1 dX0_findPrice_38 ?_
      refine Ev.ald0 dX0_findPrice_39 ?_
      apply Ev.getf dX0_findPrice_40 fX0_62
      · repeat (first | assumption | (refine gt_upI ?_; (repeat (first | refine In_up ?_ | refine In_nw ?_)); apply In_of; assumption) | refine gt_rd (by first | assumption | (apply Ne.symm; assumption) | (exact hj _ _ (by omega) (by omega) (by omega)) | omega) ?_ | exact gt_nw (by assumption) | refine gt_odr (by first | assumption | (apply Ne.symm; assumption) | omega) ?_)
      · first | rfl | assumption
      apply Ev.getf dX0_findPrice_43 fX0_143
      · repeat (first | assumption | (refine gt_upI ?_; (repeat (first | refine In_up ?_ | refine In_nw ?_)); apply In_of; assumption) | refine gt_rd (by first | assumption | (apply Ne.symm; assumption) | (exact hj _ _ (by omega) (by omega) (by omega)) | omega) ?_ | exact gt_nw (by assumption) | refine gt_odr (by first | assumption | (apply Ne.symm; assumption) | omega) ?_)
      · first | rfl | assumption
      refine Ev.icmp_gt (tgt := 162) dX0_findPrice_46 (by decide) (fun c46 => ?_) (fun c46 => ?_)
      · refine Ev.ald0 dX0_findPrice_162 ?_
        apply Ev.getf dX0_findPrice_163 fX0_21
        · repeat (first | assumption | (refine gt_upI ?_; (repeat (first | refine In_up ?_ | refine In_nw ?_)); apply In_of; assumption) | refine gt_rd (by first | assumption | (apply Ne.symm; assumption) | (exact hj _ _ (by omega) (by omega) (by omega)) | omega) ?_ | exact gt_nw (by assumption) | refine gt_odr (by first | assumption | (apply Ne.symm; assumption) | omega) ?_)
        · first | rfl | assumption
        refine Ev.cvV (Yc := mX3_decide) (ci := 3) dX0_findPrice_166 lX0_161 vX3_decide rfl (c_decide q1) ?_ rfl rfl rfl rfl ?_
        · apply Exists.intro; repeat (first | assumption | (refine gt_upI ?_; (repeat (first | refine In_up ?_ | refine In_nw ?_)); apply In_of; assumption) | refine gt_rd (by first | assumption | (apply Ne.symm; assumption) | (exact hj _ _ (by omega) (by omega) (by omega)) | omega) ?_ | exact gt_nw (by assumption) | refine gt_odr (by first | assumption | (apply Ne.symm; assumption) | omega) ?_)
        rintro M' rfl
        refine Ev.vret dX0_findPrice_169 rfl ?_
        exact ⟨rfl, t1, o1, p1, v1, r1, by rw [up_up, fpl, if_neg (Int32.not_le.mpr c46)]⟩
      · refine LI (fun j2 t2 => j2 = (adv f sa tu fr (tc - j) j t1).1 ∧ t2 = (adv f sa tu fr (tc - j) j t1).2) fr (nI i) a4 a5 g1 _ o1 p1 v1 r1 ?_ (tc - j) j t1 (by omega) ⟨rfl, rfl⟩
        rintro j2 t2 ⟨hj2, ht2⟩ hle
        have J : ∀ (x : Int32), x = (if j2 < tc then tp (tu j2) - 1 else 999) → Ev G mX0_findPrice 114 [some (.ref (ad 3)), some (.int fr), some (.int (nI j2)), some (.int (nI i)), a4, a5] [.int x] (up (up M (ad 0) (bl t2 o1 p1 v1 r1)) (ad 1) (cc g1)) 0 0 (fun v M' => v = none ∧ ∃ (t' : T4) (ov' hp' vo' re' : Int32), M' = up (up M (ad 0) (bl t' ov' hp' vo' re')) (ad 1) (cc (dcd (fpl f sa tu tc hi (e + 1) fr j t1 g1)))) := by
          intro x hx
          obtain ⟨q3, q0, q1, q7, q11, q13, q14⟩ := key t2 o1 p1 v1 r1 g1
          refine Ev.ist4 dX0_findPrice_114 rfl rfl ?_
          refine Ev.ald0 dX0_findPrice_116 ?_
          apply Ev.getf dX0_findPrice_117 fX0_62
          · repeat (first | assumption | (refine gt_upI ?_; (repeat (first | refine In_up ?_ | refine In_nw ?_)); apply In_of; assumption) | refine gt_rd (by first | assumption | (apply Ne.symm; assumption) | (exact hj _ _ (by omega) (by omega) (by omega)) | omega) ?_ | exact gt_nw (by assumption) | refine gt_odr (by first | assumption | (apply Ne.symm; assumption) | omega) ?_)
          · first | rfl | assumption
          apply Ev.getf dX0_findPrice_120 fX0_143
          · repeat (first | assumption | (refine gt_upI ?_; (repeat (first | refine In_up ?_ | refine In_nw ?_)); apply In_of; assumption) | refine gt_rd (by first | assumption | (apply Ne.symm; assumption) | (exact hj _ _ (by omega) (by omega) (by omega)) | omega) ?_ | exact gt_nw (by assumption) | refine gt_odr (by first | assumption | (apply Ne.symm; assumption) | omega) ?_)
          · first | rfl | assumption
          refine Ev.ild4 dX0_findPrice_123 ?_
          refine Ev.min dX0_findPrice_125 lX0_149 rfl rfl ?_
          refine Ev.ist5 dX0_findPrice_128 rfl rfl ?_
          refine Ev.ald0 dX0_findPrice_130 ?_
          apply Ev.getf dX0_findPrice_131 fX0_14
          · repeat (first | assumption | (refine gt_upI ?_; (repeat (first | refine In_up ?_ | refine In_nw ?_)); apply In_of; assumption) | refine gt_rd (by first | assumption | (apply Ne.symm; assumption) | (exact hj _ _ (by omega) (by omega) (by omega)) | omega) ?_ | exact gt_nw (by assumption) | refine gt_odr (by first | assumption | (apply Ne.symm; assumption) | omega) ?_)
          · first | rfl | assumption
          refine Ev.cvV (Yc := mX1_even) (ci := 1) dX0_findPrice_134 lX0_154 vX1_even rfl (c_even q0) ?_ rfl rfl rfl rfl ?_
          · apply Exists.intro; repeat (first | assumption | (refine gt_upI ?_; (repeat (first | refine In_up ?_ | refine In_nw ?_)); apply In_of; assumption) | refine gt_rd (by first | assumption | (apply Ne.symm; assumption) | (exact hj _ _ (by omega) (by omega) (by omega)) | omega) ?_ | exact gt_nw (by assumption) | refine gt_odr (by first | assumption | (apply Ne.symm; assumption) | omega) ?_)
          rintro M' rfl
          rw [sw]
          obtain ⟨s3, s0, s1, s7, s11, s13, s14⟩ := key t2 (ovf t2) (hpf t2) (vof t2) (ref t2) g1
          refine Ev.ald0 dX0_findPrice_137 ?_
          apply Ev.getf dX0_findPrice_138 fX0_21
          · repeat (first | assumption | (refine gt_upI ?_; (repeat (first | refine In_up ?_ | refine In_nw ?_)); apply In_of; assumption) | refine gt_rd (by first | assumption | (apply Ne.symm; assumption) | (exact hj _ _ (by omega) (by omega) (by omega)) | omega) ?_ | exact gt_nw (by assumption) | refine gt_odr (by first | assumption | (apply Ne.symm; assumption) | omega) ?_)
          · first | rfl | assumption
          refine Ev.ild1 dX0_findPrice_141 ?_
          refine Ev.ild5 dX0_findPrice_142 ?_
          refine Ev.ald0 dX0_findPrice_144 ?_
          apply Ev.getf dX0_findPrice_145 fX0_14
          · repeat (first | assumption | (refine gt_upI ?_; (repeat (first | refine In_up ?_ | refine In_nw ?_)); apply In_of; assumption) | refine gt_rd (by first | assumption | (apply Ne.symm; assumption) | (exact hj _ _ (by omega) (by omega) (by omega)) | omega) ?_ | exact gt_nw (by assumption) | refine gt_odr (by first | assumption | (apply Ne.symm; assumption) | omega) ?_)
          · first | rfl | assumption
          refine Ev.cvV (Yc := mX3_weigh) (ci := 3) dX0_findPrice_148 lX0_157 vX3_weigh rfl (c_weigh s1 s0 ne01.symm) ?_ rfl rfl rfl rfl ?_
          · apply Exists.intro; repeat (first | assumption | (refine gt_upI ?_; (repeat (first | refine In_up ?_ | refine In_nw ?_)); apply In_of; assumption) | refine gt_rd (by first | assumption | (apply Ne.symm; assumption) | (exact hj _ _ (by omega) (by omega) (by omega)) | omega) ?_ | exact gt_nw (by assumption) | refine gt_odr (by first | assumption | (apply Ne.symm; assumption) | omega) ?_)
          rintro M' rfl
          rw [up_up]
          have ef : fpl f sa tu tc hi (e + 1) fr j t1 g1 = fpl f sa tu tc hi e (mn hi x + 1) j2 t2 (wgh g1 fr (mn hi x) (vof t2) (ref t2)) := by
            rw [fpl, if_pos (Int32.not_lt.mp c46), ← hj2, ← ht2, ← hx]
          rw [ef]
          refine Ev.ild5 dX0_findPrice_151 ?_
          refine Ev.iconst (v := 1) dX0_findPrice_153 (by decide) ?_
          refine Ev.iadd dX0_findPrice_154 ?_
          refine Ev.ist1 dX0_findPrice_155 rfl rfl ?_
          apply Ev.iinc3 dX0_findPrice_156 rfl rfl
          · first | exact nI_inc _ | rfl
          refine Ev.goto (tgt := 30) dX0_findPrice_159 (by decide) ?_
          exact ih (i + 1) j2 _ _ _ t2 _ _ _ _ _ (by omega) hle
        obtain ⟨q3, q0, q1, q7, q11, q13, q14⟩ := key t2 o1 p1 v1 r1 g1
        by_cases hlt : j2 < tc
        · have e2 := nI_clamp (n := j2) (by omega)
          have b : vp_in (nI j2) 41 := vp_in_nI (by omega) (by omega)
          refine Ev.ild2 dX0_findPrice_89 ?_
          refine Ev.ald0 dX0_findPrice_90 ?_
          apply Ev.getf dX0_findPrice_91 fX0_59
          · repeat (first | assumption | (refine gt_upI ?_; (repeat (first | refine In_up ?_ | refine In_nw ?_)); apply In_of; assumption) | refine gt_rd (by first | assumption | (apply Ne.symm; assumption) | (exact hj _ _ (by omega) (by omega) (by omega)) | omega) ?_ | exact gt_nw (by assumption) | refine gt_odr (by first | assumption | (apply Ne.symm; assumption) | omega) ?_)
          · first | rfl | assumption
          refine Ev.icmp_ge (tgt := 111) dX0_findPrice_94 (by decide) (fun c9 => absurd c9 (nI_ge hlt (by omega))) (fun c9 => ?_)
          refine Ev.ald0 dX0_findPrice_97 ?_
          apply Ev.getf dX0_findPrice_98 fX0_56
          · repeat (first | assumption | (refine gt_upI ?_; (repeat (first | refine In_up ?_ | refine In_nw ?_)); apply In_of; assumption) | refine gt_rd (by first | assumption | (apply Ne.symm; assumption) | (exact hj _ _ (by omega) (by omega) (by omega)) | omega) ?_ | exact gt_nw (by assumption) | refine gt_odr (by first | assumption | (apply Ne.symm; assumption) | omega) ?_)
          · first | rfl | assumption
          refine Ev.ild2 dX0_findPrice_101 ?_
          apply Ev.iald dX0_findPrice_102
          · repeat (first | assumption | (refine gt_upI ?_; (repeat (first | refine In_up ?_ | refine In_nw ?_)); apply In_of; assumption) | refine gt_rd (by first | assumption | (apply Ne.symm; assumption) | (exact hj _ _ (by omega) (by omega) (by omega)) | omega) ?_ | exact gt_nw (by assumption) | refine gt_odr (by first | assumption | (apply Ne.symm; assumption) | omega) ?_)
          · assumption
          rw [e2]
          refine Ev.bipush (v := 6) dX0_findPrice_103 (by decide) ?_
          refine Ev.ishr dX0_findPrice_105 ?_
          refine Ev.iconst (v := 1) dX0_findPrice_106 (by decide) ?_
          refine Ev.isub dX0_findPrice_107 ?_
          refine Ev.goto (tgt := 114) dX0_findPrice_108 (by decide) ?_
          exact J _ (by rw [if_pos hlt]; rfl)
        · refine Ev.ild2 dX0_findPrice_89 ?_
          refine Ev.ald0 dX0_findPrice_90 ?_
          apply Ev.getf dX0_findPrice_91 fX0_59
          · repeat (first | assumption | (refine gt_upI ?_; (repeat (first | refine In_up ?_ | refine In_nw ?_)); apply In_of; assumption) | refine gt_rd (by first | assumption | (apply Ne.symm; assumption) | (exact hj _ _ (by omega) (by omega) (by omega)) | omega) ?_ | exact gt_nw (by assumption) | refine gt_odr (by first | assumption | (apply Ne.symm; assumption) | omega) ?_)
          · first | rfl | assumption
          refine Ev.icmp_ge (tgt := 111) dX0_findPrice_94 (by decide) (fun c9 => ?_) (fun c9 => absurd (nI_le (by omega) (by omega)) c9)
          refine Ev.sipush (v := 999) dX0_findPrice_111 (by decide) ?_
          exact J _ (by rw [if_neg hlt])
  refine Ct.of (ls := [some (.ref (ad 3)), none, none, none, none, none]) (by decide) (by decide) rfl rfl rfl ?_
  refine Ev.ald0 dX0_findPrice_0 ?_
  apply Ev.getf dX0_findPrice_1 fX0_21
  · repeat (first | assumption | (refine gt_upI ?_; (repeat (first | refine In_up ?_ | refine In_nw ?_)); apply In_of; assumption) | refine gt_rd (by first | assumption | (apply Ne.symm; assumption) | (exact hj _ _ (by omega) (by omega) (by omega)) | omega) ?_ | exact gt_nw (by assumption) | refine gt_odr (by first | assumption | (apply Ne.symm; assumption) | omega) ?_)
  · first | rfl | assumption
  refine Ev.ald0 dX0_findPrice_4 ?_
  apply Ev.getf dX0_findPrice_5 fX0_62
  · repeat (first | assumption | (refine gt_upI ?_; (repeat (first | refine In_up ?_ | refine In_nw ?_)); apply In_of; assumption) | refine gt_rd (by first | assumption | (apply Ne.symm; assumption) | (exact hj _ _ (by omega) (by omega) (by omega)) | omega) ?_ | exact gt_nw (by assumption) | refine gt_odr (by first | assumption | (apply Ne.symm; assumption) | omega) ?_)
  · first | rfl | assumption
  apply Ev.getf dX0_findPrice_8 fX0_131
  · repeat (first | assumption | (refine gt_upI ?_; (repeat (first | refine In_up ?_ | refine In_nw ?_)); apply In_of; assumption) | refine gt_rd (by first | assumption | (apply Ne.symm; assumption) | (exact hj _ _ (by omega) (by omega) (by omega)) | omega) ?_ | exact gt_nw (by assumption) | refine gt_odr (by first | assumption | (apply Ne.symm; assumption) | omega) ?_)
  · first | rfl | assumption
  refine Ev.cvV (Yc := mX3_start) (ci := 3) dX0_findPrice_11 lX0_134 vX3_start rfl (c_start h1) ?_ rfl rfl rfl rfl ?_
  · apply Exists.intro; repeat (first | assumption | (refine gt_upI ?_; (repeat (first | refine In_up ?_ | refine In_nw ?_)); apply In_of; assumption) | refine gt_rd (by first | assumption | (apply Ne.symm; assumption) | (exact hj _ _ (by omega) (by omega) (by omega)) | omega) ?_ | exact gt_nw (by assumption) | refine gt_odr (by first | assumption | (apply Ne.symm; assumption) | omega) ?_)
  rintro M' rfl
  have w3 : gt (up M (ad 1) (cc (upd (upd (upd (upd g 5 rf) 1 0) 4 0) 6 0))) (ad 3) = some (auc ad i1 i2 i3 (nI tc)) := (by repeat (first | assumption | (refine gt_upI ?_; (repeat (first | refine In_up ?_ | refine In_nw ?_)); apply In_of; assumption) | refine gt_rd (by first | assumption | (apply Ne.symm; assumption) | (exact hj _ _ (by omega) (by omega) (by omega)) | omega) ?_ | exact gt_nw (by assumption) | refine gt_odr (by first | assumption | (apply Ne.symm; assumption) | omega) ?_))
  have w0 : gt (up M (ad 1) (cc (upd (upd (upd (upd g 5 rf) 1 0) 4 0) 6 0))) (ad 0) = some (bl t ov hp vo re) := (by repeat (first | assumption | (refine gt_upI ?_; (repeat (first | refine In_up ?_ | refine In_nw ?_)); apply In_of; assumption) | refine gt_rd (by first | assumption | (apply Ne.symm; assumption) | (exact hj _ _ (by omega) (by omega) (by omega)) | omega) ?_ | exact gt_nw (by assumption) | refine gt_odr (by first | assumption | (apply Ne.symm; assumption) | omega) ?_))
  have w7 : gt (up M (ad 1) (cc (upd (upd (upd (upd g 5 rf) 1 0) 4 0) 6 0))) (ad 7) = some (ia 0 41 sa) := (by repeat (first | assumption | (refine gt_upI ?_; (repeat (first | refine In_up ?_ | refine In_nw ?_)); apply In_of; assumption) | refine gt_rd (by first | assumption | (apply Ne.symm; assumption) | (exact hj _ _ (by omega) (by omega) (by omega)) | omega) ?_ | exact gt_nw (by assumption) | refine gt_odr (by first | assumption | (apply Ne.symm; assumption) | omega) ?_))
  have w13 : gt (up M (ad 1) (cc (upd (upd (upd (upd g 5 rf) 1 0) 4 0) 6 0))) (ad 13) = some (bk r w n ph rf lo hi) := (by repeat (first | assumption | (refine gt_upI ?_; (repeat (first | refine In_up ?_ | refine In_nw ?_)); apply In_of; assumption) | refine gt_rd (by first | assumption | (apply Ne.symm; assumption) | (exact hj _ _ (by omega) (by omega) (by omega)) | omega) ?_ | exact gt_nw (by assumption) | refine gt_odr (by first | assumption | (apply Ne.symm; assumption) | omega) ?_))
  have w14 : gt (up M (ad 1) (cc (upd (upd (upd (upd g 5 rf) 1 0) 4 0) 6 0))) (ad 14) = some (ia 0 z f) := (by repeat (first | assumption | (refine gt_upI ?_; (repeat (first | refine In_up ?_ | refine In_nw ?_)); apply In_of; assumption) | refine gt_rd (by first | assumption | (apply Ne.symm; assumption) | (exact hj _ _ (by omega) (by omega) (by omega)) | omega) ?_ | exact gt_nw (by assumption) | refine gt_odr (by first | assumption | (apply Ne.symm; assumption) | omega) ?_))
  refine Ev.ald0 dX0_findPrice_14 ?_
  refine Ev.cvV (Yc := mX0_startBelowAll) (ci := 0) dX0_findPrice_15 lX0_137 vX0_startBelowAll rfl (a_startBelowAll hj w3 w0 w7 w13 w14 hn hz hz2) ?_ rfl rfl rfl rfl ?_
  · apply Exists.intro; repeat (first | assumption | (refine gt_upI ?_; (repeat (first | refine In_up ?_ | refine In_nw ?_)); apply In_of; assumption) | refine gt_rd (by first | assumption | (apply Ne.symm; assumption) | (exact hj _ _ (by omega) (by omega) (by omega)) | omega) ?_ | exact gt_nw (by assumption) | refine gt_odr (by first | assumption | (apply Ne.symm; assumption) | omega) ?_)
  rintro M' rfl
  rw [up_sw ne01.symm]
  obtain ⟨q3, q0, q1, q7, q11, q13, q14⟩ := key (sba f sa n) ov hp vo re (upd (upd (upd (upd g 5 rf) 1 0) 4 0) 6 0)
  refine Ev.ald0 dX0_findPrice_18 ?_
  apply Ev.getf dX0_findPrice_19 fX0_62
  · repeat (first | assumption | (refine gt_upI ?_; (repeat (first | refine In_up ?_ | refine In_nw ?_)); apply In_of; assumption) | refine gt_rd (by first | assumption | (apply Ne.symm; assumption) | (exact hj _ _ (by omega) (by omega) (by omega)) | omega) ?_ | exact gt_nw (by assumption) | refine gt_odr (by first | assumption | (apply Ne.symm; assumption) | omega) ?_)
  · first | rfl | assumption
  apply Ev.getf dX0_findPrice_22 fX0_140
  · repeat (first | assumption | (refine gt_upI ?_; (repeat (first | refine In_up ?_ | refine In_nw ?_)); apply In_of; assumption) | refine gt_rd (by first | assumption | (apply Ne.symm; assumption) | (exact hj _ _ (by omega) (by omega) (by omega)) | omega) ?_ | exact gt_nw (by assumption) | refine gt_odr (by first | assumption | (apply Ne.symm; assumption) | omega) ?_)
  · first | rfl | assumption
  refine Ev.ist1 dX0_findPrice_25 rfl rfl ?_
  refine Ev.iconst (v := 0) dX0_findPrice_26 (by decide) ?_
  refine Ev.ist2 dX0_findPrice_27 rfl rfl ?_
  refine Ev.iconst (v := 0) dX0_findPrice_28 (by decide) ?_
  refine Ev.ist3 dX0_findPrice_29 rfl rfl ?_
  exact LO (tc + 1) 0 0 lo _ _ _ _ _ _ _ _ (by omega) (by omega)
end AUD
