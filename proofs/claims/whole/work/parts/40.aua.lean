/-! the auction: its readers -/
def Inj (ad : Nat → Nat) : Prop := ∀ i j : Nat, i < 20 → j < 20 → i ≠ j → ad i ≠ ad j
/-- the auction's cell: balance, choice, fills, rounds, outs, tradeCount, trades, states, slices, parts, sliceCounts, turns, turnCount, terms, rows; it lies at ad 3 itself -/
abbrev auc (ad : Nat → Nat) (i1 i2 i3 i4 : Int32) : En := ob 0 [.ref (ad 0), .ref (ad 1), .ref (ad 2), .int i1, .int i2, .int i3, .ref (ad 6), .ref (ad 7), .ref (ad 8), .ref (ad 9), .ref (ad 10), .ref (ad 11), .int i4, .ref (ad 13), .ref (ad 14)]
def kyf (sd kd p : Int32) : Int32 := if kd = 0 then 0 else ((if kd = 4 then 262144 else 0) ||| 131072) ||| ((if sd = 0 then 999 - p else p) <<< ((7 : Int32) &&& 31))
noncomputable def insf (f : Nat → Int32) (c : Nat) (key : Int32) : Nat → Int32 := match c with
  | 0 => upd f 0 key
  | c + 1 => if key < f c then insf (upd f (c + 1) (f c)) c key else upd f (c + 1) key
section AUA
variable {G : GP} {M : Wd} {h rw z : Nat} {fs : List Value} {f : Nat → Int32}
set_option maxRecDepth 20000 in
theorem a_get0 {o w : Int32} (hB : gt M h = some (ob 0 fs)) (h14 : fs[14]? = some (.ref rw)) (hr : gt M rw = some (ia 0 z f)) (hi : vp_in (o * 8 + w) z) : CtI G mX0_get [.ref h, .int o, .int w] M 0 0 (fun x M' => x = f (o * 8 + w).toNatClampNeg ∧ M' = M) := by
  refine Ct.of (ls := [some (.ref h), some (.int o), some (.int w)]) (by decide) (by decide) rfl rfl rfl ?_
  refine Ev.ald0 dX0_get_0 ?_
  apply Ev.getf dX0_get_1 fX0_71
  · repeat (first | assumption | (refine gt_upI ?_; (repeat (first | refine In_up ?_ | refine In_nw ?_)); apply In_of; assumption) | refine gt_rd (by first | assumption | (apply Ne.symm; assumption) | (exact hj _ _ (by omega) (by omega) (by omega)) | omega) ?_ | exact gt_nw (by assumption) | refine gt_odr (by first | assumption | (apply Ne.symm; assumption) | omega) ?_)
  · first | rfl | assumption
  refine Ev.ild1 dX0_get_4 ?_
  refine Ev.bipush (v := 8) dX0_get_5 (by decide) ?_
  refine Ev.imul dX0_get_7 ?_
  refine Ev.ild2 dX0_get_8 ?_
  refine Ev.iadd dX0_get_9 ?_
  apply Ev.iald dX0_get_10
  · repeat (first | assumption | (refine gt_upI ?_; (repeat (first | refine In_up ?_ | refine In_nw ?_)); apply In_of; assumption) | refine gt_rd (by first | assumption | (apply Ne.symm; assumption) | (exact hj _ _ (by omega) (by omega) (by omega)) | omega) ?_ | exact gt_nw (by assumption) | refine gt_odr (by first | assumption | (apply Ne.symm; assumption) | omega) ?_)
  · assumption
  refine Ev.iret dX0_get_11 rfl rfl ?_
  exact ⟨_, rfl, rfl, rfl⟩
theorem a_get {o j : Int32} (k i : Nat) (ho : o = nI k) (hj : j = nI i) (hB : gt M h = some (ob 0 fs)) (h14 : fs[14]? = some (.ref rw)) (hr : gt M rw = some (ia 0 z f)) (hk : 8 * k + i < z) (hz : z ≤ 100000) : CtI G mX0_get [.ref h, .int o, .int j] M 0 0 (fun x M' => x = f (8 * k + i) ∧ M' = M) := by
  subst ho; subst hj
  have e := ix8 hk hz
  have := a_get0 (G := G) hB h14 hr e.1
  rw [e.2] at this
  exact this
set_option maxRecDepth 20000 in
theorem a_isGone {o : Int32} (k : Nat) (ho : o = nI k) (hB : gt M h = some (ob 0 fs)) (h14 : fs[14]? = some (.ref rw)) (hr : gt M rw = some (ia 0 z f)) (hk : 8 * k + 7 < z) (hz : z ≤ 100000) : CtI G mX0_isGone [.ref h, .int o] M 0 0 (fun x M' => x = (if f (8 * k + 7) = 0 then 0 else 1) ∧ M' = M) := by
  refine Ct.of (ls := [some (.ref h), some (.int o)]) (by decide) (by decide) rfl rfl rfl ?_
  refine Ev.ald0 dX0_isGone_0 ?_
  refine Ev.ild1 dX0_isGone_1 ?_
  refine Ev.bipush (v := 7) dX0_isGone_2 (by decide) ?_
  refine Ev.cvI (Yc := mX0_get) (ci := 0) dX0_isGone_4 lX0_86 vX0_get rfl (a_get k 7 ho rfl hB h14 hr hk hz) ?_ rfl rfl rfl rfl ?_
  · apply Exists.intro; repeat (first | assumption | (refine gt_upI ?_; (repeat (first | refine In_up ?_ | refine In_nw ?_)); apply In_of; assumption) | refine gt_rd (by first | assumption | (apply Ne.symm; assumption) | (exact hj _ _ (by omega) (by omega) (by omega)) | omega) ?_ | exact gt_nw (by assumption) | refine gt_odr (by first | assumption | (apply Ne.symm; assumption) | omega) ?_)
  rintro x M' ⟨hx, rfl⟩
  refine Ev.if_eq (tgt := 14) dX0_isGone_7 (by decide) (fun c7 => ?_) (fun c7 => ?_)
  · refine Ev.iconst (v := 0) dX0_isGone_14 (by decide) ?_
    refine Ev.iret dX0_isGone_15 rfl rfl ?_
    exact ⟨_, rfl, by grind, rfl⟩
  · refine Ev.iconst (v := 1) dX0_isGone_10 (by decide) ?_
    refine Ev.goto (tgt := 15) dX0_isGone_11 (by decide) ?_
    refine Ev.iret dX0_isGone_15 rfl rfl ?_
    exact ⟨_, rfl, by grind, rfl⟩
set_option maxRecDepth 20000 in
theorem a_isOut {o : Int32} {hs zs : Nat} {sa : Nat → Int32} (k : Nat) (ho : o = nI k) (hB : gt M h = some (ob 0 fs)) (h7 : fs[7]? = some (.ref hs)) (hr : gt M hs = some (ia 0 zs sa)) (hk : k < zs) (hz : zs ≤ 100000) : CtI G mX0_isOut [.ref h, .int o] M 0 0 (fun x M' => x = (if sa k = 2 then 1 else 0) ∧ M' = M) := by
  subst ho
  have e : (nI k).toNatClampNeg = k := nI_clamp (by omega)
  refine Ct.of (ls := [some (.ref h), some (.int (nI k))]) (by decide) (by decide) rfl rfl rfl ?_
  refine Ev.ald0 dX0_isOut_0 ?_
  apply Ev.getf dX0_isOut_1 fX0_42
  · repeat (first | assumption | (refine gt_upI ?_; (repeat (first | refine In_up ?_ | refine In_nw ?_)); apply In_of; assumption) | refine gt_rd (by first | assumption | (apply Ne.symm; assumption) | (exact hj _ _ (by omega) (by omega) (by omega)) | omega) ?_ | exact gt_nw (by assumption) | refine gt_odr (by first | assumption | (apply Ne.symm; assumption) | omega) ?_)
  · first | rfl | assumption
  refine Ev.ild1 dX0_isOut_4 ?_
  apply Ev.iald dX0_isOut_5
  · repeat (first | assumption | (refine gt_upI ?_; (repeat (first | refine In_up ?_ | refine In_nw ?_)); apply In_of; assumption) | refine gt_rd (by first | assumption | (apply Ne.symm; assumption) | (exact hj _ _ (by omega) (by omega) (by omega)) | omega) ?_ | exact gt_nw (by assumption) | refine gt_odr (by first | assumption | (apply Ne.symm; assumption) | omega) ?_)
  · exact vp_in_nI hk (by omega)
  refine Ev.iconst (v := 2) dX0_isOut_6 (by decide) ?_
  refine Ev.icmp_ne (tgt := 14) dX0_isOut_7 (by decide) (fun c7 => ?_) (fun c7 => ?_)
  · refine Ev.iconst (v := 0) dX0_isOut_14 (by decide) ?_
    refine Ev.iret dX0_isOut_15 rfl rfl ?_
    exact ⟨_, rfl, by rw [e] at c7; grind, rfl⟩
  · refine Ev.iconst (v := 1) dX0_isOut_10 (by decide) ?_
    refine Ev.goto (tgt := 15) dX0_isOut_11 (by decide) ?_
    refine Ev.iret dX0_isOut_15 rfl rfl ?_
    exact ⟨_, rfl, by rw [e] at c7; grind, rfl⟩
set_option maxRecDepth 20000 in
theorem a_numberOf {key : Int32} : CtI G mX0_numberOf [.int key] M 0 0 (fun x M' => x = key &&& 63 ∧ M' = M) := by
  refine Ct.of (ls := [some (.int key)]) (by decide) (by decide) rfl rfl rfl ?_
  refine Ev.ild0 dX0_numberOf_0 ?_
  refine Ev.bipush (v := 63) dX0_numberOf_1 (by decide) ?_
  refine Ev.iand dX0_numberOf_3 ?_
  refine Ev.iret dX0_numberOf_4 rfl rfl ?_
  exact ⟨_, rfl, rfl, rfl⟩
set_option maxRecDepth 20000 in
theorem a_keyOf {sd kd p : Int32} : CtI G mX0_keyOf [.int sd, .int kd, .int p] M 0 0 (fun x M' => x = kyf sd kd p ∧ M' = M) := by
  refine Ct.of (ls := [some (.int sd), some (.int kd), some (.int p), none]) (by decide) (by decide) rfl rfl rfl ?_
  refine Ev.ild1 dX0_keyOf_0 ?_
  refine Ev.if_ne (tgt := 6) dX0_keyOf_1 (by decide) (fun c1 => ?_) (fun c1 => ?_)
  · refine Ev.ild0 dX0_keyOf_6 ?_
    refine Ev.if_ne (tgt := 18) dX0_keyOf_7 (by decide) (fun c7 => ?_) (fun c7 => ?_)
    · refine Ev.ild2 dX0_keyOf_18 ?_
      refine Ev.ist3 dX0_keyOf_19 rfl rfl ?_
      refine Ev.ild1 dX0_keyOf_20 ?_
      refine Ev.iconst (v := 4) dX0_keyOf_21 (by decide) ?_
      refine Ev.icmp_ne (tgt := 30) dX0_keyOf_22 (by decide) (fun c22 => ?_) (fun c22 => ?_)
      · refine Ev.iconst (v := 0) dX0_keyOf_30 (by decide) ?_
        refine Ev.ldc dX0_keyOf_31 kX0_99 ?_
        refine Ev.ior dX0_keyOf_33 ?_
        refine Ev.ild3 dX0_keyOf_34 ?_
        refine Ev.bipush (v := 7) dX0_keyOf_35 (by decide) ?_
        refine Ev.ishl dX0_keyOf_37 ?_
        refine Ev.ior dX0_keyOf_38 ?_
        refine Ev.iret dX0_keyOf_39 rfl rfl ?_
        exact ⟨_, rfl, by simp [kyf, *], rfl⟩
      · refine Ev.ldc dX0_keyOf_25 kX0_98 ?_
        refine Ev.goto (tgt := 31) dX0_keyOf_27 (by decide) ?_
        refine Ev.ldc dX0_keyOf_31 kX0_99 ?_
        refine Ev.ior dX0_keyOf_33 ?_
        refine Ev.ild3 dX0_keyOf_34 ?_
        refine Ev.bipush (v := 7) dX0_keyOf_35 (by decide) ?_
        refine Ev.ishl dX0_keyOf_37 ?_
        refine Ev.ior dX0_keyOf_38 ?_
        refine Ev.iret dX0_keyOf_39 rfl rfl ?_
        exact ⟨_, rfl, by simp [kyf, *], rfl⟩
    · refine Ev.sipush (v := 999) dX0_keyOf_10 (by decide) ?_
      refine Ev.ild2 dX0_keyOf_13 ?_
      refine Ev.isub dX0_keyOf_14 ?_
      refine Ev.goto (tgt := 19) dX0_keyOf_15 (by decide) ?_
      refine Ev.ist3 dX0_keyOf_19 rfl rfl ?_
      refine Ev.ild1 dX0_keyOf_20 ?_
      refine Ev.iconst (v := 4) dX0_keyOf_21 (by decide) ?_
      refine Ev.icmp_ne (tgt := 30) dX0_keyOf_22 (by decide) (fun c22 => ?_) (fun c22 => ?_)
      · refine Ev.iconst (v := 0) dX0_keyOf_30 (by decide) ?_
        refine Ev.ldc dX0_keyOf_31 kX0_99 ?_
        refine Ev.ior dX0_keyOf_33 ?_
        refine Ev.ild3 dX0_keyOf_34 ?_
        refine Ev.bipush (v := 7) dX0_keyOf_35 (by decide) ?_
        refine Ev.ishl dX0_keyOf_37 ?_
        refine Ev.ior dX0_keyOf_38 ?_
        refine Ev.iret dX0_keyOf_39 rfl rfl ?_
        exact ⟨_, rfl, by simp [kyf, *], rfl⟩
      · refine Ev.ldc dX0_keyOf_25 kX0_98 ?_
        refine Ev.goto (tgt := 31) dX0_keyOf_27 (by decide) ?_
        refine Ev.ldc dX0_keyOf_31 kX0_99 ?_
        refine Ev.ior dX0_keyOf_33 ?_
        refine Ev.ild3 dX0_keyOf_34 ?_
        refine Ev.bipush (v := 7) dX0_keyOf_35 (by decide) ?_
        refine Ev.ishl dX0_keyOf_37 ?_
        refine Ev.ior dX0_keyOf_38 ?_
        refine Ev.iret dX0_keyOf_39 rfl rfl ?_
        exact ⟨_, rfl, by simp [kyf, *], rfl⟩
  · refine Ev.iconst (v := 0) dX0_keyOf_4 (by decide) ?_
    refine Ev.iret dX0_keyOf_5 rfl rfl ?_
    exact ⟨_, rfl, by simp [kyf, *], rfl⟩
set_option maxRecDepth 20000 in
theorem a_isWilling {o p : Int32} (k : Nat) (ho : o = nI k) (hB : gt M h = some (ob 0 fs)) (h14 : fs[14]? = some (.ref rw)) (hr : gt M rw = some (ia 0 z f)) (hk : 8 * k + 7 < z) (hz : z ≤ 100000) : CtI G mX0_isWilling [.ref h, .int o, .int p] M 0 0 (fun x M' => x = (if f (8 * k + 1) = 0 ∨ (f (8 * k + 0) = 0 ∧ p ≤ f (8 * k + 3) ∨ f (8 * k + 0) ≠ 0 ∧ f (8 * k + 3) ≤ p) then 1 else 0) ∧ M' = M) := by
  refine Ct.of (ls := [some (.ref h), some (.int o), some (.int p)]) (by decide) (by decide) rfl rfl rfl ?_
  refine Ev.ald0 dX0_isWilling_0 ?_
  refine Ev.ild1 dX0_isWilling_1 ?_
  refine Ev.iconst (v := 0) dX0_isWilling_2 (by decide) ?_
  refine Ev.cvI (Yc := mX0_get) (ci := 0) dX0_isWilling_3 lX0_86 vX0_get rfl (a_get k 0 ho rfl hB h14 hr (by omega) hz) ?_ rfl rfl rfl rfl ?_
  · apply Exists.intro; repeat (first | assumption | (refine gt_upI ?_; (repeat (first | refine In_up ?_ | refine In_nw ?_)); apply In_of; assumption) | refine gt_rd (by first | assumption | (apply Ne.symm; assumption) | (exact hj _ _ (by omega) (by omega) (by omega)) | omega) ?_ | exact gt_nw (by assumption) | refine gt_odr (by first | assumption | (apply Ne.symm; assumption) | omega) ?_)
  rintro x M' ⟨hx, rfl⟩
  refine Ev.ald0 dX0_isWilling_6 ?_
  refine Ev.ild1 dX0_isWilling_7 ?_
  refine Ev.iconst (v := 1) dX0_isWilling_8 (by decide) ?_
  refine Ev.cvI (Yc := mX0_get) (ci := 0) dX0_isWilling_9 lX0_86 vX0_get rfl (a_get k 1 ho rfl hB h14 hr (by omega) hz) ?_ rfl rfl rfl rfl ?_
  · apply Exists.intro; repeat (first | assumption | (refine gt_upI ?_; (repeat (first | refine In_up ?_ | refine In_nw ?_)); apply In_of; assumption) | refine gt_rd (by first | assumption | (apply Ne.symm; assumption) | (exact hj _ _ (by omega) (by omega) (by omega)) | omega) ?_ | exact gt_nw (by assumption) | refine gt_odr (by first | assumption | (apply Ne.symm; assumption) | omega) ?_)
  rintro y M' ⟨hy, rfl⟩
  refine Ev.ald0 dX0_isWilling_12 ?_
  refine Ev.ild1 dX0_isWilling_13 ?_
  refine Ev.iconst (v := 3) dX0_isWilling_14 (by decide) ?_
  refine Ev.cvI (Yc := mX0_get) (ci := 0) dX0_isWilling_15 lX0_86 vX0_get rfl (a_get k 3 ho rfl hB h14 hr (by omega) hz) ?_ rfl rfl rfl rfl ?_
  · apply Exists.intro; repeat (first | assumption | (refine gt_upI ?_; (repeat (first | refine In_up ?_ | refine In_nw ?_)); apply In_of; assumption) | refine gt_rd (by first | assumption | (apply Ne.symm; assumption) | (exact hj _ _ (by omega) (by omega) (by omega)) | omega) ?_ | exact gt_nw (by assumption) | refine gt_odr (by first | assumption | (apply Ne.symm; assumption) | omega) ?_)
  rintro w M' ⟨hw, rfl⟩
  refine Ev.ild2 dX0_isWilling_18 ?_
  refine Ev.csI (Yc := mX1_isWilling) dX0_isWilling_19 lX0_108 vX1_isWilling rfl c_bwil rfl rfl rfl ?_
  rintro v M' ⟨hv, rfl⟩
  refine Ev.iret dX0_isWilling_22 rfl (by rw [hv]; split <;> rfl) ?_
  exact ⟨_, rfl, by rw [hv, hx, hy, hw], rfl⟩
set_option maxRecDepth 20000 in
theorem a_sizeOf {key : Int32} (k : Nat) (hkey : key &&& 63 = nI k) (hB : gt M h = some (ob 0 fs)) (h14 : fs[14]? = some (.ref rw)) (hr : gt M rw = some (ia 0 z f)) (hk : 8 * k + 7 < z) (hz : z ≤ 100000) : CtI G mX0_sizeOf [.ref h, .int key] M 0 0 (fun x M' => x = (if f (8 * k + 1) = 3 then (if key &&& 64 = 0 then f (8 * k + 4) else f (8 * k + 2) - f (8 * k + 4)) else f (8 * k + 2)) ∧ M' = M) := by
  refine Ct.of (ls := [some (.ref h), some (.int key), none, none, none]) (by decide) (by decide) rfl rfl rfl ?_
  refine Ev.ild1 dX0_sizeOf_0 ?_
  refine Ev.csI (Yc := mX0_numberOf) dX0_sizeOf_1 lX0_104 vX0_numberOf rfl a_numberOf rfl rfl rfl ?_
  rintro o M' ⟨ho, rfl⟩
  rw [hkey] at ho
  refine Ev.ist2 dX0_sizeOf_4 rfl rfl ?_
  refine Ev.ald0 dX0_sizeOf_5 ?_
  refine Ev.ild2 dX0_sizeOf_6 ?_
  refine Ev.iconst (v := 2) dX0_sizeOf_7 (by decide) ?_
  refine Ev.cvI (Yc := mX0_get) (ci := 0) dX0_sizeOf_8 lX0_86 vX0_get rfl (a_get k 2 ho rfl hB h14 hr (by omega) hz) ?_ rfl rfl rfl rfl ?_
  · apply Exists.intro; repeat (first | assumption | (refine gt_upI ?_; (repeat (first | refine In_up ?_ | refine In_nw ?_)); apply In_of; assumption) | refine gt_rd (by first | assumption | (apply Ne.symm; assumption) | (exact hj _ _ (by omega) (by omega) (by omega)) | omega) ?_ | exact gt_nw (by assumption) | refine gt_odr (by first | assumption | (apply Ne.symm; assumption) | omega) ?_)
  rintro y2 M' ⟨hy2, rfl⟩
  refine Ev.ist3 dX0_sizeOf_11 rfl rfl ?_
  refine Ev.ald0 dX0_sizeOf_12 ?_
  refine Ev.ild2 dX0_sizeOf_13 ?_
  refine Ev.iconst (v := 1) dX0_sizeOf_14 (by decide) ?_
  refine Ev.cvI (Yc := mX0_get) (ci := 0) dX0_sizeOf_15 lX0_86 vX0_get rfl (a_get k 1 ho rfl hB h14 hr (by omega) hz) ?_ rfl rfl rfl rfl ?_
  · apply Exists.intro; repeat (first | assumption | (refine gt_upI ?_; (repeat (first | refine In_up ?_ | refine In_nw ?_)); apply In_of; assumption) | refine gt_rd (by first | assumption | (apply Ne.symm; assumption) | (exact hj _ _ (by omega) (by omega) (by omega)) | omega) ?_ | exact gt_nw (by assumption) | refine gt_odr (by first | assumption | (apply Ne.symm; assumption) | omega) ?_)
  rintro y1 M' ⟨hy1, rfl⟩
  refine Ev.iconst (v := 3) dX0_sizeOf_18 (by decide) ?_
  refine Ev.icmp_eq (tgt := 24) dX0_sizeOf_19 (by decide) (fun c19 => ?_) (fun c19 => ?_)
  · refine Ev.ald0 dX0_sizeOf_24 ?_
    refine Ev.ild2 dX0_sizeOf_25 ?_
    refine Ev.iconst (v := 4) dX0_sizeOf_26 (by decide) ?_
    refine Ev.cvI (Yc := mX0_get) (ci := 0) dX0_sizeOf_27 lX0_86 vX0_get rfl (a_get k 4 ho rfl hB h14 hr (by omega) hz) ?_ rfl rfl rfl rfl ?_
    · apply Exists.intro; repeat (first | assumption | (refine gt_upI ?_; (repeat (first | refine In_up ?_ | refine In_nw ?_)); apply In_of; assumption) | refine gt_rd (by first | assumption | (apply Ne.symm; assumption) | (exact hj _ _ (by omega) (by omega) (by omega)) | omega) ?_ | exact gt_nw (by assumption) | refine gt_odr (by first | assumption | (apply Ne.symm; assumption) | omega) ?_)
    rintro y4 M' ⟨hy4, rfl⟩
    refine Ev.ist4 dX0_sizeOf_30 rfl rfl ?_
    refine Ev.ild1 dX0_sizeOf_32 ?_
    refine Ev.bipush (v := 64) dX0_sizeOf_33 (by decide) ?_
    refine Ev.iand dX0_sizeOf_35 ?_
    refine Ev.if_ne (tgt := 44) dX0_sizeOf_36 (by decide) (fun c36 => ?_) (fun c36 => ?_)
    · refine Ev.ild3 dX0_sizeOf_44 ?_
      refine Ev.ild4 dX0_sizeOf_45 ?_
      refine Ev.isub dX0_sizeOf_47 ?_
      refine Ev.iret dX0_sizeOf_48 rfl rfl ?_
      exact ⟨_, rfl, by grind, rfl⟩
    · refine Ev.ild4 dX0_sizeOf_39 ?_
      refine Ev.goto (tgt := 48) dX0_sizeOf_41 (by decide) ?_
      refine Ev.iret dX0_sizeOf_48 rfl rfl ?_
      exact ⟨_, rfl, by grind, rfl⟩
  · refine Ev.ild3 dX0_sizeOf_22 ?_
    refine Ev.iret dX0_sizeOf_23 rfl rfl ?_
    exact ⟨_, rfl, by grind, rfl⟩
set_option maxRecDepth 20000 in
theorem a_insert {a c : Nat} {key x : Int32} (hx : x = nI c) (hM : gt M a = some (ia 0 z f)) (hc : c < z) (hz : z ≤ 100000) : CtV G mX0_insert [.ref a, .int x, .int key] M 0 0 (fun M' => M' = up M a (ia 0 z (insf f c key))) := by
  subst hx
  have L : ∀ (d : Nat) (g : Nat → Int32), d < z → Ev G mX0_insert 2 [some (.ref a), some (.int (nI c)), some (.int key), some (.int (nI d))] [] (up M a (ia 0 z g)) 0 0 (fun v M' => v = none ∧ M' = up M a (ia 0 z (insf g d key))) := by
    intro d
    induction d with
    | zero =>
      intro g hd
      refine Ev.ild3 dX0_insert_2 ?_
      refine Ev.if_le (tgt := 29) dX0_insert_3 (by decide) (fun c3 => ?_) (fun c3 => absurd (by decide) c3)
      refine Ev.ald0 dX0_insert_29 ?_
      refine Ev.ild3 dX0_insert_30 ?_
      refine Ev.ild2 dX0_insert_31 ?_
      apply Ev.iast dX0_insert_32
      · repeat (first | assumption | (refine gt_upI ?_; (repeat (first | refine In_up ?_ | refine In_nw ?_)); apply In_of; assumption) | refine gt_rd (by first | assumption | (apply Ne.symm; assumption) | (exact hj _ _ (by omega) (by omega) (by omega)) | omega) ?_ | exact gt_nw (by assumption) | refine gt_odr (by first | assumption | (apply Ne.symm; assumption) | omega) ?_)
      · exact vp_in_nI hd (by omega)
      refine Ev.vret dX0_insert_33 rfl ?_
      exact ⟨rfl, by rw [up_up, nI_clamp (by omega), insf]⟩
    | succ d ih =>
      intro g hd
      have e1 : nI (d + 1) - 1 = nI d := nI_pred d
      have e2 : (nI d).toNatClampNeg = d := nI_clamp (by omega)
      have e3 : (nI (d + 1)).toNatClampNeg = d + 1 := nI_clamp (by omega)
      have b1 : vp_in (nI (d + 1) - 1) z := by rw [e1]; exact vp_in_nI (by omega) (by omega)
      have b2 : vp_in (nI (d + 1)) z := vp_in_nI hd (by omega)
      refine Ev.ild3 dX0_insert_2 ?_
      refine Ev.if_le (tgt := 29) dX0_insert_3 (by decide) (fun c3 => absurd c3 (nI_nle (by omega) (by omega))) (fun c3 => ?_)
      refine Ev.ald0 dX0_insert_6 ?_
      refine Ev.ild3 dX0_insert_7 ?_
      refine Ev.iconst (v := 1) dX0_insert_8 (by decide) ?_
      refine Ev.isub dX0_insert_9 ?_
      apply Ev.iald dX0_insert_10
      · repeat (first | assumption | (refine gt_upI ?_; (repeat (first | refine In_up ?_ | refine In_nw ?_)); apply In_of; assumption) | refine gt_rd (by first | assumption | (apply Ne.symm; assumption) | (exact hj _ _ (by omega) (by omega) (by omega)) | omega) ?_ | exact gt_nw (by assumption) | refine gt_odr (by first | assumption | (apply Ne.symm; assumption) | omega) ?_)
      · assumption
      refine Ev.ild2 dX0_insert_11 ?_
      rw [e1, e2]
      refine Ev.icmp_le (tgt := 29) dX0_insert_12 (by decide) (fun c12 => ?_) (fun c12 => ?_)
      · refine Ev.ald0 dX0_insert_29 ?_
        refine Ev.ild3 dX0_insert_30 ?_
        refine Ev.ild2 dX0_insert_31 ?_
        apply Ev.iast dX0_insert_32
        · repeat (first | assumption | (refine gt_upI ?_; (repeat (first | refine In_up ?_ | refine In_nw ?_)); apply In_of; assumption) | refine gt_rd (by first | assumption | (apply Ne.symm; assumption) | (exact hj _ _ (by omega) (by omega) (by omega)) | omega) ?_ | exact gt_nw (by assumption) | refine gt_odr (by first | assumption | (apply Ne.symm; assumption) | omega) ?_)
        · assumption
        refine Ev.vret dX0_insert_33 rfl ?_
        exact ⟨rfl, by rw [up_up, e3, insf, if_neg (Int32.not_lt.mpr c12)]⟩
      · refine Ev.ald0 dX0_insert_15 ?_
        refine Ev.ild3 dX0_insert_16 ?_
        refine Ev.ald0 dX0_insert_17 ?_
        refine Ev.ild3 dX0_insert_18 ?_
        refine Ev.iconst (v := 1) dX0_insert_19 (by decide) ?_
        refine Ev.isub dX0_insert_20 ?_
        apply Ev.iald dX0_insert_21
        · repeat (first | assumption | (refine gt_upI ?_; (repeat (first | refine In_up ?_ | refine In_nw ?_)); apply In_of; assumption) | refine gt_rd (by first | assumption | (apply Ne.symm; assumption) | (exact hj _ _ (by omega) (by omega) (by omega)) | omega) ?_ | exact gt_nw (by assumption) | refine gt_odr (by first | assumption | (apply Ne.symm; assumption) | omega) ?_)
        · assumption
        apply Ev.iast dX0_insert_22
        · repeat (first | assumption | (refine gt_upI ?_; (repeat (first | refine In_up ?_ | refine In_nw ?_)); apply In_of; assumption) | refine gt_rd (by first | assumption | (apply Ne.symm; assumption) | (exact hj _ _ (by omega) (by omega) (by omega)) | omega) ?_ | exact gt_nw (by assumption) | refine gt_odr (by first | assumption | (apply Ne.symm; assumption) | omega) ?_)
        · assumption
        apply Ev.iinc3 dX0_insert_23 rfl rfl
        · first | exact nI_dec _ | rfl
        refine Ev.goto (tgt := 2) dX0_insert_26 (by decide) ?_
        rw [up_up, e1, e2, e3, insf, if_pos (Int32.not_le.mp c12)]
        exact ih _ (by omega)
  refine Ct.of (ls := [some (.ref a), some (.int (nI c)), some (.int key), none]) (by decide) (by decide) rfl rfl rfl ?_
  refine Ev.ild1 dX0_insert_0 ?_
  refine Ev.ist3 dX0_insert_1 rfl rfl ?_
  exact Ev.cgM rfl (up_id hM).symm (L c f hc)
end AUA
