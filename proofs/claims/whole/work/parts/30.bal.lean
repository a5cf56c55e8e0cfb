/-- the balance's cell: bought, sold, over, help, volume, rest, evenBuys, evenSells; the four that are summed as one -/
abbrev T4 : Type := Int32 × Int32 × Int32 × Int32
abbrev bl (t : T4) (ov hp vo re : Int32) : En := ob 1 [.int t.1, .int t.2.1, .int ov, .int hp, .int vo, .int re, .int t.2.2.1, .int t.2.2.2]
def ad4 (t : T4) (sd kd q : Int32) : T4 := if sd = 0 then (t.1 + (if kd = 4 then 0 else q), t.2.1, t.2.2.1 + (if kd = 4 then q else 0), t.2.2.2) else (t.1, t.2.1 + (if kd = 4 then 0 else q), t.2.2.1, t.2.2.2 + (if kd = 4 then q else 0))
def ovf (t : T4) : Int32 := t.1 - t.2.1
def hpf (t : T4) : Int32 := if ovf t ≤ 0 then mn t.2.2.1 (-ovf t) else mn t.2.2.2 (ovf t)
def vof (t : T4) : Int32 := mn t.1 t.2.1 + hpf t
def ref (t : T4) : Int32 := if ovf t ≤ 0 then ovf t + hpf t else ovf t - hpf t
def wil (sd kd own p : Int32) : Prop := kd = 0 ∨ (sd = 0 ∧ p ≤ own ∨ sd ≠ 0 ∧ own ≤ p)
noncomputable def bsm (f : Nat → Int32) (p : Int32) : Nat → T4
  | 0 => (0, 0, 0, 0)
  | k + 1 => if f (8 * k + 7) = 0 ∧ (f (8 * k + 1) = 0 ∨ (f (8 * k + 0) = 0 ∧ p ≤ f (8 * k + 3) ∨ f (8 * k + 0) ≠ 0 ∧ f (8 * k + 3) ≤ p)) then ad4 (bsm f p k) (f (8 * k + 0)) (f (8 * k + 1)) (f (8 * k + 2)) else bsm f p k
section BAL
variable {G : GP} {M : Wd} {h : Nat} {t : T4} {ov hp vo re : Int32}
set_option maxRecDepth 20000 in
theorem c_breset (hB : gt M h = some (bl t ov hp vo re)) : CtV G mX1_reset [.ref h] M 0 0 (fun M' => M' = up M h (bl (0, 0, 0, 0) ov hp vo re)) := by
  refine Ct.of (ls := [some (.ref h)]) (by decide) (by decide) rfl rfl rfl ?_
  refine Ev.ald0 dX1_reset_0 ?_
  refine Ev.iconst (v := 0) dX1_reset_1 (by decide) ?_
  apply Ev.put dX1_reset_2 fX1_9
  · repeat (first | assumption | (refine gt_upI ?_; (repeat (first | refine In_up ?_ | refine In_nw ?_)); apply In_of; assumption) | refine gt_rd (by first | assumption | (apply Ne.symm; assumption) | (exact hj _ _ (by omega) (by omega) (by omega)) | omega) ?_ | exact gt_nw (by assumption) | refine gt_odr (by first | assumption | (apply Ne.symm; assumption) | omega) ?_)
  · rfl
  · rfl
  · rfl
  refine Ev.ald0 dX1_reset_5 ?_
  refine Ev.iconst (v := 0) dX1_reset_6 (by decide) ?_
  apply Ev.put dX1_reset_7 fX1_15
  · repeat (first | assumption | (refine gt_upI ?_; (repeat (first | refine In_up ?_ | refine In_nw ?_)); apply In_of; assumption) | refine gt_rd (by first | assumption | (apply Ne.symm; assumption) | (exact hj _ _ (by omega) (by omega) (by omega)) | omega) ?_ | exact gt_nw (by assumption) | refine gt_odr (by first | assumption | (apply Ne.symm; assumption) | omega) ?_)
  · rfl
  · rfl
  · rfl
  refine Ev.ald0 dX1_reset_10 ?_
  refine Ev.iconst (v := 0) dX1_reset_11 (by decide) ?_
  apply Ev.put dX1_reset_12 fX1_30
  · repeat (first | assumption | (refine gt_upI ?_; (repeat (first | refine In_up ?_ | refine In_nw ?_)); apply In_of; assumption) | refine gt_rd (by first | assumption | (apply Ne.symm; assumption) | (exact hj _ _ (by omega) (by omega) (by omega)) | omega) ?_ | exact gt_nw (by assumption) | refine gt_odr (by first | assumption | (apply Ne.symm; assumption) | omega) ?_)
  · rfl
  · rfl
  · rfl
  refine Ev.ald0 dX1_reset_15 ?_
  refine Ev.iconst (v := 0) dX1_reset_16 (by decide) ?_
  apply Ev.put dX1_reset_17 fX1_33
  · repeat (first | assumption | (refine gt_upI ?_; (repeat (first | refine In_up ?_ | refine In_nw ?_)); apply In_of; assumption) | refine gt_rd (by first | assumption | (apply Ne.symm; assumption) | (exact hj _ _ (by omega) (by omega) (by omega)) | omega) ?_ | exact gt_nw (by assumption) | refine gt_odr (by first | assumption | (apply Ne.symm; assumption) | omega) ?_)
  · rfl
  · rfl
  · rfl
  refine Ev.vret dX1_reset_20 rfl ?_
  exact ⟨rfl, by rw [up_up, up_up, up_up]; rfl⟩
set_option maxRecDepth 20000 in
theorem c_badd {sd kd q : Int32} (hB : gt M h = some (bl t ov hp vo re)) : CtV G mX1_add [.ref h, .int sd, .int kd, .int q] M 0 0 (fun M' => M' = up M h (bl (ad4 t sd kd q) ov hp vo re)) := by
  refine Ct.of (ls := [some (.ref h), some (.int sd), some (.int kd), some (.int q)]) (by decide) (by decide) rfl rfl rfl ?_
  refine Ev.ild1 dX1_add_0 ?_
  refine Ev.if_ne (tgt := 45) dX1_add_1 (by decide) (fun c1 => ?_) (fun c1 => ?_)
  · refine Ev.ald0 dX1_add_45 ?_
    refine Ev.dup dX1_add_46 rfl ?_
    apply Ev.getf dX1_add_47 fX1_15
    · repeat (first | assumption | (refine gt_upI ?_; (repeat (first | refine In_up ?_ | refine In_nw ?_)); apply In_of; assumption) | refine gt_rd (by first | assumption | (apply Ne.symm; assumption) | (exact hj _ _ (by omega) (by omega) (by omega)) | omega) ?_ | exact gt_nw (by assumption) | refine gt_odr (by first | assumption | (apply Ne.symm; assumption) | omega) ?_)
    · first | rfl | assumption
    refine Ev.ild2 dX1_add_50 ?_
    refine Ev.iconst (v := 4) dX1_add_51 (by decide) ?_
    refine Ev.icmp_ne (tgt := 59) dX1_add_52 (by decide) (fun c52 => ?_) (fun c52 => ?_)
    · refine Ev.ild3 dX1_add_59 ?_
      refine Ev.iadd dX1_add_60 ?_
      apply Ev.put dX1_add_61 fX1_15
      · repeat (first | assumption | (refine gt_upI ?_; (repeat (first | refine In_up ?_ | refine In_nw ?_)); apply In_of; assumption) | refine gt_rd (by first | assumption | (apply Ne.symm; assumption) | (exact hj _ _ (by omega) (by omega) (by omega)) | omega) ?_ | exact gt_nw (by assumption) | refine gt_odr (by first | assumption | (apply Ne.symm; assumption) | omega) ?_)
      · rfl
      · rfl
      · rfl
      refine Ev.ald0 dX1_add_64 ?_
      refine Ev.dup dX1_add_65 rfl ?_
      apply Ev.getf dX1_add_66 fX1_33
      · repeat (first | assumption | (refine gt_upI ?_; (repeat (first | refine In_up ?_ | refine In_nw ?_)); apply In_of; assumption) | refine gt_rd (by first | assumption | (apply Ne.symm; assumption) | (exact hj _ _ (by omega) (by omega) (by omega)) | omega) ?_ | exact gt_nw (by assumption) | refine gt_odr (by first | assumption | (apply Ne.symm; assumption) | omega) ?_)
      · first | rfl | assumption
      refine Ev.ild2 dX1_add_69 ?_
      refine Ev.iconst (v := 4) dX1_add_70 (by decide) ?_
      refine Ev.icmp_ne (tgt := 78) dX1_add_71 (by decide) (fun c71 => ?_) (fun c71 => ?_)
      · refine Ev.iconst (v := 0) dX1_add_78 (by decide) ?_
        refine Ev.iadd dX1_add_79 ?_
        apply Ev.put dX1_add_80 fX1_33
        · repeat (first | assumption | (refine gt_upI ?_; (repeat (first | refine In_up ?_ | refine In_nw ?_)); apply In_of; assumption) | refine gt_rd (by first | assumption | (apply Ne.symm; assumption) | (exact hj _ _ (by omega) (by omega) (by omega)) | omega) ?_ | exact gt_nw (by assumption) | refine gt_odr (by first | assumption | (apply Ne.symm; assumption) | omega) ?_)
        · rfl
        · rfl
        · rfl
        refine Ev.vret dX1_add_83 rfl ?_
        refine ⟨rfl, ?_⟩
        rw [up_up]
        simp_all [ad4, bl]
      · refine Ev.ild3 dX1_add_74 ?_
        refine Ev.goto (tgt := 79) dX1_add_75 (by decide) ?_
        refine Ev.iadd dX1_add_79 ?_
        apply Ev.put dX1_add_80 fX1_33
        · repeat (first | assumption | (refine gt_upI ?_; (repeat (first | refine In_up ?_ | refine In_nw ?_)); apply In_of; assumption) | refine gt_rd (by first | assumption | (apply Ne.symm; assumption) | (exact hj _ _ (by omega) (by omega) (by omega)) | omega) ?_ | exact gt_nw (by assumption) | refine gt_odr (by first | assumption | (apply Ne.symm; assumption) | omega) ?_)
        · rfl
        · rfl
        · rfl
        refine Ev.vret dX1_add_83 rfl ?_
        refine ⟨rfl, ?_⟩
        rw [up_up]
        simp_all [ad4, bl]
    · refine Ev.iconst (v := 0) dX1_add_55 (by decide) ?_
      refine Ev.goto (tgt := 60) dX1_add_56 (by decide) ?_
      refine Ev.iadd dX1_add_60 ?_
      apply Ev.put dX1_add_61 fX1_15
      · repeat (first | assumption | (refine gt_upI ?_; (repeat (first | refine In_up ?_ | refine In_nw ?_)); apply In_of; assumption) | refine gt_rd (by first | assumption | (apply Ne.symm; assumption) | (exact hj _ _ (by omega) (by omega) (by omega)) | omega) ?_ | exact gt_nw (by assumption) | refine gt_odr (by first | assumption | (apply Ne.symm; assumption) | omega) ?_)
      · rfl
      · rfl
      · rfl
      refine Ev.ald0 dX1_add_64 ?_
      refine Ev.dup dX1_add_65 rfl ?_
      apply Ev.getf dX1_add_66 fX1_33
      · repeat (first | assumption | (refine gt_upI ?_; (repeat (first | refine In_up ?_ | refine In_nw ?_)); apply In_of; assumption) | refine gt_rd (by first | assumption | (apply Ne.symm; assumption) | (exact hj _ _ (by omega) (by omega) (by omega)) | omega) ?_ | exact gt_nw (by assumption) | refine gt_odr (by first | assumption | (apply Ne.symm; assumption) | omega) ?_)
      · first | rfl | assumption
      refine Ev.ild2 dX1_add_69 ?_
      refine Ev.iconst (v := 4) dX1_add_70 (by decide) ?_
      refine Ev.icmp_ne (tgt := 78) dX1_add_71 (by decide) (fun c71 => ?_) (fun c71 => ?_)
      · refine Ev.iconst (v := 0) dX1_add_78 (by decide) ?_
        refine Ev.iadd dX1_add_79 ?_
        apply Ev.put dX1_add_80 fX1_33
        · repeat (first | assumption | (refine gt_upI ?_; (repeat (first | refine In_up ?_ | refine In_nw ?_)); apply In_of; assumption) | refine gt_rd (by first | assumption | (apply Ne.symm; assumption) | (exact hj _ _ (by omega) (by omega) (by omega)) | omega) ?_ | exact gt_nw (by assumption) | refine gt_odr (by first | assumption | (apply Ne.symm; assumption) | omega) ?_)
        · rfl
        · rfl
        · rfl
        refine Ev.vret dX1_add_83 rfl ?_
        refine ⟨rfl, ?_⟩
        rw [up_up]
        simp_all [ad4, bl]
      · refine Ev.ild3 dX1_add_74 ?_
        refine Ev.goto (tgt := 79) dX1_add_75 (by decide) ?_
        refine Ev.iadd dX1_add_79 ?_
        apply Ev.put dX1_add_80 fX1_33
        · repeat (first | assumption | (refine gt_upI ?_; (repeat (first | refine In_up ?_ | refine In_nw ?_)); apply In_of; assumption) | refine gt_rd (by first | assumption | (apply Ne.symm; assumption) | (exact hj _ _ (by omega) (by omega) (by omega)) | omega) ?_ | exact gt_nw (by assumption) | refine gt_odr (by first | assumption | (apply Ne.symm; assumption) | omega) ?_)
        · rfl
        · rfl
        · rfl
        refine Ev.vret dX1_add_83 rfl ?_
        refine ⟨rfl, ?_⟩
        rw [up_up]
        simp_all [ad4, bl]
  · refine Ev.ald0 dX1_add_4 ?_
    refine Ev.dup dX1_add_5 rfl ?_
    apply Ev.getf dX1_add_6 fX1_9
    · repeat (first | assumption | (refine gt_upI ?_; (repeat (first | refine In_up ?_ | refine In_nw ?_)); apply In_of; assumption) | refine gt_rd (by first | assumption | (apply Ne.symm; assumption) | (exact hj _ _ (by omega) (by omega) (by omega)) | omega) ?_ | exact gt_nw (by assumption) | refine gt_odr (by first | assumption | (apply Ne.symm; assumption) | omega) ?_)
    · first | rfl | assumption
    refine Ev.ild2 dX1_add_9 ?_
    refine Ev.iconst (v := 4) dX1_add_10 (by decide) ?_
    refine Ev.icmp_ne (tgt := 18) dX1_add_11 (by decide) (fun c11 => ?_) (fun c11 => ?_)
    · refine Ev.ild3 dX1_add_18 ?_
      refine Ev.iadd dX1_add_19 ?_
      apply Ev.put dX1_add_20 fX1_9
      · repeat (first | assumption | (refine gt_upI ?_; (repeat (first | refine In_up ?_ | refine In_nw ?_)); apply In_of; assumption) | refine gt_rd (by first | assumption | (apply Ne.symm; assumption) | (exact hj _ _ (by omega) (by omega) (by omega)) | omega) ?_ | exact gt_nw (by assumption) | refine gt_odr (by first | assumption | (apply Ne.symm; assumption) | omega) ?_)
      · rfl
      · rfl
      · rfl
      refine Ev.ald0 dX1_add_23 ?_
      refine Ev.dup dX1_add_24 rfl ?_
      apply Ev.getf dX1_add_25 fX1_30
      · repeat (first | assumption | (refine gt_upI ?_; (repeat (first | refine In_up ?_ | refine In_nw ?_)); apply In_of; assumption) | refine gt_rd (by first | assumption | (apply Ne.symm; assumption) | (exact hj _ _ (by omega) (by omega) (by omega)) | omega) ?_ | exact gt_nw (by assumption) | refine gt_odr (by first | assumption | (apply Ne.symm; assumption) | omega) ?_)
      · first | rfl | assumption
      refine Ev.ild2 dX1_add_28 ?_
      refine Ev.iconst (v := 4) dX1_add_29 (by decide) ?_
      refine Ev.icmp_ne (tgt := 37) dX1_add_30 (by decide) (fun c30 => ?_) (fun c30 => ?_)
      · refine Ev.iconst (v := 0) dX1_add_37 (by decide) ?_
        refine Ev.iadd dX1_add_38 ?_
        apply Ev.put dX1_add_39 fX1_30
        · repeat (first | assumption | (refine gt_upI ?_; (repeat (first | refine In_up ?_ | refine In_nw ?_)); apply In_of; assumption) | refine gt_rd (by first | assumption | (apply Ne.symm; assumption) | (exact hj _ _ (by omega) (by omega) (by omega)) | omega) ?_ | exact gt_nw (by assumption) | refine gt_odr (by first | assumption | (apply Ne.symm; assumption) | omega) ?_)
        · rfl
        · rfl
        · rfl
        refine Ev.goto (tgt := 83) dX1_add_42 (by decide) ?_
        refine Ev.vret dX1_add_83 rfl ?_
        refine ⟨rfl, ?_⟩
        rw [up_up]
        simp_all [ad4, bl]
      · refine Ev.ild3 dX1_add_33 ?_
        refine Ev.goto (tgt := 38) dX1_add_34 (by decide) ?_
        refine Ev.iadd dX1_add_38 ?_
        apply Ev.put dX1_add_39 fX1_30
        · repeat (first | assumption | (refine gt_upI ?_; (repeat (first | refine In_up ?_ | refine In_nw ?_)); apply In_of; assumption) | refine gt_rd (by first | assumption | (apply Ne.symm; assumption) | (exact hj _ _ (by omega) (by omega) (by omega)) | omega) ?_ | exact gt_nw (by assumption) | refine gt_odr (by first | assumption | (apply Ne.symm; assumption) | omega) ?_)
        · rfl
        · rfl
        · rfl
        refine Ev.goto (tgt := 83) dX1_add_42 (by decide) ?_
        refine Ev.vret dX1_add_83 rfl ?_
        refine ⟨rfl, ?_⟩
        rw [up_up]
        simp_all [ad4, bl]
    · refine Ev.iconst (v := 0) dX1_add_14 (by decide) ?_
      refine Ev.goto (tgt := 19) dX1_add_15 (by decide) ?_
      refine Ev.iadd dX1_add_19 ?_
      apply Ev.put dX1_add_20 fX1_9
      · repeat (first | assumption | (refine gt_upI ?_; (repeat (first | refine In_up ?_ | refine In_nw ?_)); apply In_of; assumption) | refine gt_rd (by first | assumption | (apply Ne.symm; assumption) | (exact hj _ _ (by omega) (by omega) (by omega)) | omega) ?_ | exact gt_nw (by assumption) | refine gt_odr (by first | assumption | (apply Ne.symm; assumption) | omega) ?_)
      · rfl
      · rfl
      · rfl
      refine Ev.ald0 dX1_add_23 ?_
      refine Ev.dup dX1_add_24 rfl ?_
      apply Ev.getf dX1_add_25 fX1_30
      · repeat (first | assumption | (refine gt_upI ?_; (repeat (first | refine In_up ?_ | refine In_nw ?_)); apply In_of; assumption) | refine gt_rd (by first | assumption | (apply Ne.symm; assumption) | (exact hj _ _ (by omega) (by omega) (by omega)) | omega) ?_ | exact gt_nw (by assumption) | refine gt_odr (by first | assumption | (apply Ne.symm; assumption) | omega) ?_)
      · first | rfl | assumption
      refine Ev.ild2 dX1_add_28 ?_
      refine Ev.iconst (v := 4) dX1_add_29 (by decide) ?_
      refine Ev.icmp_ne (tgt := 37) dX1_add_30 (by decide) (fun c30 => ?_) (fun c30 => ?_)
      · refine Ev.iconst (v := 0) dX1_add_37 (by decide) ?_
        refine Ev.iadd dX1_add_38 ?_
        apply Ev.put dX1_add_39 fX1_30
        · repeat (first | assumption | (refine gt_upI ?_; (repeat (first | refine In_up ?_ | refine In_nw ?_)); apply In_of; assumption) | refine gt_rd (by first | assumption | (apply Ne.symm; assumption) | (exact hj _ _ (by omega) (by omega) (by omega)) | omega) ?_ | exact gt_nw (by assumption) | refine gt_odr (by first | assumption | (apply Ne.symm; assumption) | omega) ?_)
        · rfl
        · rfl
        · rfl
        refine Ev.goto (tgt := 83) dX1_add_42 (by decide) ?_
        refine Ev.vret dX1_add_83 rfl ?_
        refine ⟨rfl, ?_⟩
        rw [up_up]
        simp_all [ad4, bl]
      · refine Ev.ild3 dX1_add_33 ?_
        refine Ev.goto (tgt := 38) dX1_add_34 (by decide) ?_
        refine Ev.iadd dX1_add_38 ?_
        apply Ev.put dX1_add_39 fX1_30
        · repeat (first | assumption | (refine gt_upI ?_; (repeat (first | refine In_up ?_ | refine In_nw ?_)); apply In_of; assumption) | refine gt_rd (by first | assumption | (apply Ne.symm; assumption) | (exact hj _ _ (by omega) (by omega) (by omega)) | omega) ?_ | exact gt_nw (by assumption) | refine gt_odr (by first | assumption | (apply Ne.symm; assumption) | omega) ?_)
        · rfl
        · rfl
        · rfl
        refine Ev.goto (tgt := 83) dX1_add_42 (by decide) ?_
        refine Ev.vret dX1_add_83 rfl ?_
        refine ⟨rfl, ?_⟩
        rw [up_up]
        simp_all [ad4, bl]
set_option maxRecDepth 20000 in
theorem c_bwil {sd kd own p : Int32} : CtI G mX1_isWilling [.int sd, .int kd, .int own, .int p] M 0 0 (fun x M' => x = (if kd = 0 ∨ (sd = 0 ∧ p ≤ own ∨ sd ≠ 0 ∧ own ≤ p) then 1 else 0) ∧ M' = M) := by
  refine Ct.of (ls := [some (.int sd), some (.int kd), some (.int own), some (.int p)]) (by decide) (by decide) rfl rfl rfl ?_
  refine Ev.ild1 dX1_isWilling_0 ?_
  refine Ev.if_eq (tgt := 21) dX1_isWilling_1 (by decide) (fun c1 => ?_) (fun c1 => ?_)
  · refine Ev.iconst (v := 1) dX1_isWilling_21 (by decide) ?_
    refine Ev.goto (tgt := 26) dX1_isWilling_22 (by decide) ?_
    refine Ev.iret dX1_isWilling_26 rfl rfl ?_
    exact ⟨_, rfl, by grind, rfl⟩
  · refine Ev.ild0 dX1_isWilling_4 ?_
    refine Ev.if_ne (tgt := 16) dX1_isWilling_5 (by decide) (fun c5 => ?_) (fun c5 => ?_)
    · refine Ev.ild2 dX1_isWilling_16 ?_
      refine Ev.ild3 dX1_isWilling_17 ?_
      refine Ev.icmp_gt (tgt := 25) dX1_isWilling_18 (by decide) (fun c18 => ?_) (fun c18 => ?_)
      · refine Ev.iconst (v := 0) dX1_isWilling_25 (by decide) ?_
        refine Ev.iret dX1_isWilling_26 rfl rfl ?_
        exact ⟨_, rfl, by grind, rfl⟩
      · refine Ev.iconst (v := 1) dX1_isWilling_21 (by decide) ?_
        refine Ev.goto (tgt := 26) dX1_isWilling_22 (by decide) ?_
        refine Ev.iret dX1_isWilling_26 rfl rfl ?_
        exact ⟨_, rfl, by grind, rfl⟩
    · refine Ev.ild2 dX1_isWilling_8 ?_
      refine Ev.ild3 dX1_isWilling_9 ?_
      refine Ev.icmp_lt (tgt := 25) dX1_isWilling_10 (by decide) (fun c10 => ?_) (fun c10 => ?_)
      · refine Ev.iconst (v := 0) dX1_isWilling_25 (by decide) ?_
        refine Ev.iret dX1_isWilling_26 rfl rfl ?_
        exact ⟨_, rfl, by grind, rfl⟩
      · refine Ev.goto (tgt := 21) dX1_isWilling_13 (by decide) ?_
        refine Ev.iconst (v := 1) dX1_isWilling_21 (by decide) ?_
        refine Ev.goto (tgt := 26) dX1_isWilling_22 (by decide) ?_
        refine Ev.iret dX1_isWilling_26 rfl rfl ?_
        exact ⟨_, rfl, by grind, rfl⟩
set_option maxRecDepth 20000 in
theorem c_even (hB : gt M h = some (bl t ov hp vo re)) : CtV G mX1_even [.ref h] M 0 0 (fun M' => M' = up M h (bl t (ovf t) (hpf t) (vof t) (ref t))) := by
  refine Ct.of (ls := [some (.ref h)]) (by decide) (by decide) rfl rfl rfl ?_
  refine Ev.ald0 dX1_even_0 ?_
  refine Ev.ald0 dX1_even_1 ?_
  apply Ev.getf dX1_even_2 fX1_9
  · repeat (first | assumption | (refine gt_upI ?_; (repeat (first | refine In_up ?_ | refine In_nw ?_)); apply In_of; assumption) | refine gt_rd (by first | assumption | (apply Ne.symm; assumption) | (exact hj _ _ (by omega) (by omega) (by omega)) | omega) ?_ | exact gt_nw (by assumption) | refine gt_odr (by first | assumption | (apply Ne.symm; assumption) | omega) ?_)
  · first | rfl | assumption
  refine Ev.ald0 dX1_even_5 ?_
  apply Ev.getf dX1_even_6 fX1_15
  · repeat (first | assumption | (refine gt_upI ?_; (repeat (first | refine In_up ?_ | refine In_nw ?_)); apply In_of; assumption) | refine gt_rd (by first | assumption | (apply Ne.symm; assumption) | (exact hj _ _ (by omega) (by omega) (by omega)) | omega) ?_ | exact gt_nw (by assumption) | refine gt_odr (by first | assumption | (apply Ne.symm; assumption) | omega) ?_)
  · first | rfl | assumption
  refine Ev.isub dX1_even_9 ?_
  apply Ev.put dX1_even_10 fX1_18
  · repeat (first | assumption | (refine gt_upI ?_; (repeat (first | refine In_up ?_ | refine In_nw ?_)); apply In_of; assumption) | refine gt_rd (by first | assumption | (apply Ne.symm; assumption) | (exact hj _ _ (by omega) (by omega) (by omega)) | omega) ?_ | exact gt_nw (by assumption) | refine gt_odr (by first | assumption | (apply Ne.symm; assumption) | omega) ?_)
  · rfl
  · rfl
  · rfl
  refine Ev.ald0 dX1_even_13 ?_
  refine Ev.ald0 dX1_even_14 ?_
  apply Ev.getf dX1_even_15 fX1_18
  · repeat (first | assumption | (refine gt_upI ?_; (repeat (first | refine In_up ?_ | refine In_nw ?_)); apply In_of; assumption) | refine gt_rd (by first | assumption | (apply Ne.symm; assumption) | (exact hj _ _ (by omega) (by omega) (by omega)) | omega) ?_ | exact gt_nw (by assumption) | refine gt_odr (by first | assumption | (apply Ne.symm; assumption) | omega) ?_)
  · first | rfl | assumption
  refine Ev.if_le (tgt := 35) dX1_even_18 (by decide) (fun c18 => ?_) (fun c18 => ?_)
  · refine Ev.ald0 dX1_even_35 ?_
    apply Ev.getf dX1_even_36 fX1_30
    · repeat (first | assumption | (refine gt_upI ?_; (repeat (first | refine In_up ?_ | refine In_nw ?_)); apply In_of; assumption) | refine gt_rd (by first | assumption | (apply Ne.symm; assumption) | (exact hj _ _ (by omega) (by omega) (by omega)) | omega) ?_ | exact gt_nw (by assumption) | refine gt_odr (by first | assumption | (apply Ne.symm; assumption) | omega) ?_)
    · first | rfl | assumption
    refine Ev.ald0 dX1_even_39 ?_
    apply Ev.getf dX1_even_40 fX1_18
    · repeat (first | assumption | (refine gt_upI ?_; (repeat (first | refine In_up ?_ | refine In_nw ?_)); apply In_of; assumption) | refine gt_rd (by first | assumption | (apply Ne.symm; assumption) | (exact hj _ _ (by omega) (by omega) (by omega)) | omega) ?_ | exact gt_nw (by assumption) | refine gt_odr (by first | assumption | (apply Ne.symm; assumption) | omega) ?_)
    · first | rfl | assumption
    refine Ev.ineg dX1_even_43 ?_
    refine Ev.min dX1_even_44 lX1_63 rfl rfl ?_
    apply Ev.put dX1_even_47 fX1_21
    · repeat (first | assumption | (refine gt_upI ?_; (repeat (first | refine In_up ?_ | refine In_nw ?_)); apply In_of; assumption) | refine gt_rd (by first | assumption | (apply Ne.symm; assumption) | (exact hj _ _ (by omega) (by omega) (by omega)) | omega) ?_ | exact gt_nw (by assumption) | refine gt_odr (by first | assumption | (apply Ne.symm; assumption) | omega) ?_)
    · rfl
    · rfl
    · rfl
    refine Ev.ald0 dX1_even_50 ?_
    refine Ev.ald0 dX1_even_51 ?_
    apply Ev.getf dX1_even_52 fX1_9
    · repeat (first | assumption | (refine gt_upI ?_; (repeat (first | refine In_up ?_ | refine In_nw ?_)); apply In_of; assumption) | refine gt_rd (by first | assumption | (apply Ne.symm; assumption) | (exact hj _ _ (by omega) (by omega) (by omega)) | omega) ?_ | exact gt_nw (by assumption) | refine gt_odr (by first | assumption | (apply Ne.symm; assumption) | omega) ?_)
    · first | rfl | assumption
    refine Ev.ald0 dX1_even_55 ?_
    apply Ev.getf dX1_even_56 fX1_15
    · repeat (first | assumption | (refine gt_upI ?_; (repeat (first | refine In_up ?_ | refine In_nw ?_)); apply In_of; assumption) | refine gt_rd (by first | assumption | (apply Ne.symm; assumption) | (exact hj _ _ (by omega) (by omega) (by omega)) | omega) ?_ | exact gt_nw (by assumption) | refine gt_odr (by first | assumption | (apply Ne.symm; assumption) | omega) ?_)
    · first | rfl | assumption
    refine Ev.min dX1_even_59 lX1_63 rfl rfl ?_
    refine Ev.ald0 dX1_even_62 ?_
    apply Ev.getf dX1_even_63 fX1_21
    · repeat (first | assumption | (refine gt_upI ?_; (repeat (first | refine In_up ?_ | refine In_nw ?_)); apply In_of; assumption) | refine gt_rd (by first | assumption | (apply Ne.symm; assumption) | (exact hj _ _ (by omega) (by omega) (by omega)) | omega) ?_ | exact gt_nw (by assumption) | refine gt_odr (by first | assumption | (apply Ne.symm; assumption) | omega) ?_)
    · first | rfl | assumption
    refine Ev.iadd dX1_even_66 ?_
    apply Ev.put dX1_even_67 fX1_24
    · repeat (first | assumption | (refine gt_upI ?_; (repeat (first | refine In_up ?_ | refine In_nw ?_)); apply In_of; assumption) | refine gt_rd (by first | assumption | (apply Ne.symm; assumption) | (exact hj _ _ (by omega) (by omega) (by omega)) | omega) ?_ | exact gt_nw (by assumption) | refine gt_odr (by first | assumption | (apply Ne.symm; assumption) | omega) ?_)
    · rfl
    · rfl
    · rfl
    refine Ev.ald0 dX1_even_70 ?_
    refine Ev.ald0 dX1_even_71 ?_
    apply Ev.getf dX1_even_72 fX1_18
    · repeat (first | assumption | (refine gt_upI ?_; (repeat (first | refine In_up ?_ | refine In_nw ?_)); apply In_of; assumption) | refine gt_rd (by first | assumption | (apply Ne.symm; assumption) | (exact hj _ _ (by omega) (by omega) (by omega)) | omega) ?_ | exact gt_nw (by assumption) | refine gt_odr (by first | assumption | (apply Ne.symm; assumption) | omega) ?_)
    · first | rfl | assumption
    refine Ev.if_le (tgt := 90) dX1_even_75 (by decide) (fun c75 => ?_) (fun c75 => ?_)
    · refine Ev.ald0 dX1_even_90 ?_
      apply Ev.getf dX1_even_91 fX1_18
      · repeat (first | assumption | (refine gt_upI ?_; (repeat (first | refine In_up ?_ | refine In_nw ?_)); apply In_of; assumption) | refine gt_rd (by first | assumption | (apply Ne.symm; assumption) | (exact hj _ _ (by omega) (by omega) (by omega)) | omega) ?_ | exact gt_nw (by assumption) | refine gt_odr (by first | assumption | (apply Ne.symm; assumption) | omega) ?_)
      · first | rfl | assumption
      refine Ev.ald0 dX1_even_94 ?_
      apply Ev.getf dX1_even_95 fX1_21
      · repeat (first | assumption | (refine gt_upI ?_; (repeat (first | refine In_up ?_ | refine In_nw ?_)); apply In_of; assumption) | refine gt_rd (by first | assumption | (apply Ne.symm; assumption) | (exact hj _ _ (by omega) (by omega) (by omega)) | omega) ?_ | exact gt_nw (by assumption) | refine gt_odr (by first | assumption | (apply Ne.symm; assumption) | omega) ?_)
      · first | rfl | assumption
      refine Ev.iadd dX1_even_98 ?_
      apply Ev.put dX1_even_99 fX1_27
      · repeat (first | assumption | (refine gt_upI ?_; (repeat (first | refine In_up ?_ | refine In_nw ?_)); apply In_of; assumption) | refine gt_rd (by first | assumption | (apply Ne.symm; assumption) | (exact hj _ _ (by omega) (by omega) (by omega)) | omega) ?_ | exact gt_nw (by assumption) | refine gt_odr (by first | assumption | (apply Ne.symm; assumption) | omega) ?_)
      · rfl
      · rfl
      · rfl
      refine Ev.vret dX1_even_102 rfl ?_
      refine ⟨rfl, ?_⟩
      rw [up_up, up_up, up_up]
      first | exact absurd c18 c75 | exact absurd c75 c18 | (have e1 : hpf t = _ := if_pos c18; have e2 : ref t = _ := if_pos c18; rw [vof, e2, e1]; rfl) | (have e1 : hpf t = _ := if_neg c18; have e2 : ref t = _ := if_neg c18; rw [vof, e2, e1]; rfl)
    · refine Ev.ald0 dX1_even_78 ?_
      apply Ev.getf dX1_even_79 fX1_18
      · repeat (first | assumption | (refine gt_upI ?_; (repeat (first | refine In_up ?_ | refine In_nw ?_)); apply In_of; assumption) | refine gt_rd (by first | assumption | (apply Ne.symm; assumption) | (exact hj _ _ (by omega) (by omega) (by omega)) | omega) ?_ | exact gt_nw (by assumption) | refine gt_odr (by first | assumption | (apply Ne.symm; assumption) | omega) ?_)
      · first | rfl | assumption
      refine Ev.ald0 dX1_even_82 ?_
      apply Ev.getf dX1_even_83 fX1_21
      · repeat (first | assumption | (refine gt_upI ?_; (repeat (first | refine In_up ?_ | refine In_nw ?_)); apply In_of; assumption) | refine gt_rd (by first | assumption | (apply Ne.symm; assumption) | (exact hj _ _ (by omega) (by omega) (by omega)) | omega) ?_ | exact gt_nw (by assumption) | refine gt_odr (by first | assumption | (apply Ne.symm; assumption) | omega) ?_)
      · first | rfl | assumption
      refine Ev.isub dX1_even_86 ?_
      refine Ev.goto (tgt := 99) dX1_even_87 (by decide) ?_
      apply Ev.put dX1_even_99 fX1_27
      · repeat (first | assumption | (refine gt_upI ?_; (repeat (first | refine In_up ?_ | refine In_nw ?_)); apply In_of; assumption) | refine gt_rd (by first | assumption | (apply Ne.symm; assumption) | (exact hj _ _ (by omega) (by omega) (by omega)) | omega) ?_ | exact gt_nw (by assumption) | refine gt_odr (by first | assumption | (apply Ne.symm; assumption) | omega) ?_)
      · rfl
      · rfl
      · rfl
      refine Ev.vret dX1_even_102 rfl ?_
      refine ⟨rfl, ?_⟩
      rw [up_up, up_up, up_up]
      first | exact absurd c18 c75 | exact absurd c75 c18 | (have e1 : hpf t = _ := if_pos c18; have e2 : ref t = _ := if_pos c18; rw [vof, e2, e1]; rfl) | (have e1 : hpf t = _ := if_neg c18; have e2 : ref t = _ := if_neg c18; rw [vof, e2, e1]; rfl)
  · refine Ev.ald0 dX1_even_21 ?_
    apply Ev.getf dX1_even_22 fX1_33
    · repeat (first | assumption | (refine gt_upI ?_; (repeat (first | refine In_up ?_ | refine In_nw ?_)); apply In_of; assumption) | refine gt_rd (by first | assumption | (apply Ne.symm; assumption) | (exact hj _ _ (by omega) (by omega) (by omega)) | omega) ?_ | exact gt_nw (by assumption) | refine gt_odr (by first | assumption | (apply Ne.symm; assumption) | omega) ?_)
    · first | rfl | assumption
    refine Ev.ald0 dX1_even_25 ?_
    apply Ev.getf dX1_even_26 fX1_18
    · repeat (first | assumption | (refine gt_upI ?_; (repeat (first | refine In_up ?_ | refine In_nw ?_)); apply In_of; assumption) | refine gt_rd (by first | assumption | (apply Ne.symm; assumption) | (exact hj _ _ (by omega) (by omega) (by omega)) | omega) ?_ | exact gt_nw (by assumption) | refine gt_odr (by first | assumption | (apply Ne.symm; assumption) | omega) ?_)
    · first | rfl | assumption
    refine Ev.min dX1_even_29 lX1_63 rfl rfl ?_
    refine Ev.goto (tgt := 47) dX1_even_32 (by decide) ?_
    apply Ev.put dX1_even_47 fX1_21
    · repeat (first | assumption | (refine gt_upI ?_; (repeat (first | refine In_up ?_ | refine In_nw ?_)); apply In_of; assumption) | refine gt_rd (by first | assumption | (apply Ne.symm; assumption) | (exact hj _ _ (by omega) (by omega) (by omega)) | omega) ?_ | exact gt_nw (by assumption) | refine gt_odr (by first | assumption | (apply Ne.symm; assumption) | omega) ?_)
    · rfl
    · rfl
    · rfl
    refine Ev.ald0 dX1_even_50 ?_
    refine Ev.ald0 dX1_even_51 ?_
    apply Ev.getf dX1_even_52 fX1_9
    · repeat (first | assumption | (refine gt_upI ?_; (repeat (first | refine In_up ?_ | refine In_nw ?_)); apply In_of; assumption) | refine gt_rd (by first | assumption | (apply Ne.symm; assumption) | (exact hj _ _ (by omega) (by omega) (by omega)) | omega) ?_ | exact gt_nw (by assumption) | refine gt_odr (by first | assumption | (apply Ne.symm; assumption) | omega) ?_)
    · first | rfl | assumption
    refine Ev.ald0 dX1_even_55 ?_
    apply Ev.getf dX1_even_56 fX1_15
    · repeat (first | assumption | (refine gt_upI ?_; (repeat (first | refine In_up ?_ | refine In_nw ?_)); apply In_of; assumption) | refine gt_rd (by first | assumption | (apply Ne.symm; assumption) | (exact hj _ _ (by omega) (by omega) (by omega)) | omega) ?_ | exact gt_nw (by assumption) | refine gt_odr (by first | assumption | (apply Ne.symm; assumption) | omega) ?_)
    · first | rfl | assumption
    refine Ev.min dX1_even_59 lX1_63 rfl rfl ?_
    refine Ev.ald0 dX1_even_62 ?_
    apply Ev.getf dX1_even_63 fX1_21
    · repeat (first | assumption | (refine gt_upI ?_; (repeat (first | refine In_up ?_ | refine In_nw ?_)); apply In_of; assumption) | refine gt_rd (by first | assumption | (apply Ne.symm; assumption) | (exact hj _ _ (by omega) (by omega) (by omega)) | omega) ?_ | exact gt_nw (by assumption) | refine gt_odr (by first | assumption | (apply Ne.symm; assumption) | omega) ?_)
    · first | rfl | assumption
    refine Ev.iadd dX1_even_66 ?_
    apply Ev.put dX1_even_67 fX1_24
    · repeat (first | assumption | (refine gt_upI ?_; (repeat (first | refine In_up ?_ | refine In_nw ?_)); apply In_of; assumption) | refine gt_rd (by first | assumption | (apply Ne.symm; assumption) | (exact hj _ _ (by omega) (by omega) (by omega)) | omega) ?_ | exact gt_nw (by assumption) | refine gt_odr (by first | assumption | (apply Ne.symm; assumption) | omega) ?_)
    · rfl
    · rfl
    · rfl
    refine Ev.ald0 dX1_even_70 ?_
    refine Ev.ald0 dX1_even_71 ?_
    apply Ev.getf dX1_even_72 fX1_18
    · repeat (first | assumption | (refine gt_upI ?_; (repeat (first | refine In_up ?_ | refine In_nw ?_)); apply In_of; assumption) | refine gt_rd (by first | assumption | (apply Ne.symm; assumption) | (exact hj _ _ (by omega) (by omega) (by omega)) | omega) ?_ | exact gt_nw (by assumption) | refine gt_odr (by first | assumption | (apply Ne.symm; assumption) | omega) ?_)
    · first | rfl | assumption
    refine Ev.if_le (tgt := 90) dX1_even_75 (by decide) (fun c75 => ?_) (fun c75 => ?_)
    · refine Ev.ald0 dX1_even_90 ?_
      apply Ev.getf dX1_even_91 fX1_18
      · repeat (first | assumption | (refine gt_upI ?_; (repeat (first | refine In_up ?_ | refine In_nw ?_)); apply In_of; assumption) | refine gt_rd (by first | assumption | (apply Ne.symm; assumption) | (exact hj _ _ (by omega) (by omega) (by omega)) | omega) ?_ | exact gt_nw (by assumption) | refine gt_odr (by first | assumption | (apply Ne.symm; assumption) | omega) ?_)
      · first | rfl | assumption
      refine Ev.ald0 dX1_even_94 ?_
      apply Ev.getf dX1_even_95 fX1_21
      · repeat (first | assumption | (refine gt_upI ?_; (repeat (first | refine In_up ?_ | refine In_nw ?_)); apply In_of; assumption) | refine gt_rd (by first | assumption | (apply Ne.symm; assumption) | (exact hj _ _ (by omega) (by omega) (by omega)) | omega) ?_ | exact gt_nw (by assumption) | refine gt_odr (by first | assumption | (apply Ne.symm; assumption) | omega) ?_)
      · first | rfl | assumption
      refine Ev.iadd dX1_even_98 ?_
      apply Ev.put dX1_even_99 fX1_27
      · repeat (first | assumption | (refine gt_upI ?_; (repeat (first | refine In_up ?_ | refine In_nw ?_)); apply In_of; assumption) | refine gt_rd (by first | assumption | (apply Ne.symm; assumption) | (exact hj _ _ (by omega) (by omega) (by omega)) | omega) ?_ | exact gt_nw (by assumption) | refine gt_odr (by first | assumption | (apply Ne.symm; assumption) | omega) ?_)
      · rfl
      · rfl
      · rfl
      refine Ev.vret dX1_even_102 rfl ?_
      refine ⟨rfl, ?_⟩
      rw [up_up, up_up, up_up]
      first | exact absurd c18 c75 | exact absurd c75 c18 | (have e1 : hpf t = _ := if_pos c18; have e2 : ref t = _ := if_pos c18; rw [vof, e2, e1]; rfl) | (have e1 : hpf t = _ := if_neg c18; have e2 : ref t = _ := if_neg c18; rw [vof, e2, e1]; rfl)
    · refine Ev.ald0 dX1_even_78 ?_
      apply Ev.getf dX1_even_79 fX1_18
      · repeat (first | assumption | (refine gt_upI ?_; (repeat (first | refine In_up ?_ | refine In_nw ?_)); apply In_of; assumption) | refine gt_rd (by first | assumption | (apply Ne.symm; assumption) | (exact hj _ _ (by omega) (by omega) (by omega)) | omega) ?_ | exact gt_nw (by assumption) | refine gt_odr (by first | assumption | (apply Ne.symm; assumption) | omega) ?_)
      · first | rfl | assumption
      refine Ev.ald0 dX1_even_82 ?_
      apply Ev.getf dX1_even_83 fX1_21
      · repeat (first | assumption | (refine gt_upI ?_; (repeat (first | refine In_up ?_ | refine In_nw ?_)); apply In_of; assumption) | refine gt_rd (by first | assumption | (apply Ne.symm; assumption) | (exact hj _ _ (by omega) (by omega) (by omega)) | omega) ?_ | exact gt_nw (by assumption) | refine gt_odr (by first | assumption | (apply Ne.symm; assumption) | omega) ?_)
      · first | rfl | assumption
      refine Ev.isub dX1_even_86 ?_
      refine Ev.goto (tgt := 99) dX1_even_87 (by decide) ?_
      apply Ev.put dX1_even_99 fX1_27
      · repeat (first | assumption | (refine gt_upI ?_; (repeat (first | refine In_up ?_ | refine In_nw ?_)); apply In_of; assumption) | refine gt_rd (by first | assumption | (apply Ne.symm; assumption) | (exact hj _ _ (by omega) (by omega) (by omega)) | omega) ?_ | exact gt_nw (by assumption) | refine gt_odr (by first | assumption | (apply Ne.symm; assumption) | omega) ?_)
      · rfl
      · rfl
      · rfl
      refine Ev.vret dX1_even_102 rfl ?_
      refine ⟨rfl, ?_⟩
      rw [up_up, up_up, up_up]
      first | exact absurd c18 c75 | exact absurd c75 c18 | (have e1 : hpf t = _ := if_pos c18; have e2 : ref t = _ := if_pos c18; rw [vof, e2, e1]; rfl) | (have e1 : hpf t = _ := if_neg c18; have e2 : ref t = _ := if_neg c18; rw [vof, e2, e1]; rfl)
end BAL
section BAS
variable {G : GP} {M : Wd} {h hb r w n : Nat} {f : Nat → Int32} {ph rf lo hi : Int32} {t : T4} {ov hp vo re : Int32}
set_option maxRecDepth 20000 in
theorem c_bsum {p : Int32} (hB : gt M h = some (bk r w n ph rf lo hi)) (hr : gt M r = some (ia 0 328 f)) (hn : n ≤ 41) (hL : gt M hb = some (bl t ov hp vo re)) (e1 : hb ≠ h) (e2 : hb ≠ r) : CtV G mX1_sum [.ref hb, .ref h, .int p] M 0 0 (fun M' => M' = up M hb (bl (bsm f p n) (ovf (bsm f p n)) (hpf (bsm f p n)) (vof (bsm f p n)) (ref (bsm f p n)))) := by
  have L : ∀ d k a4 a5, k + d = n → Ev G mX1_sum 6 [some (.ref hb), some (.ref h), some (.int p), some (.int (nI k)), a4, a5] [] (up M hb (bl (bsm f p k) ov hp vo re)) 0 0 (fun v M' => v = none ∧ M' = up M hb (bl (bsm f p n) (ovf (bsm f p n)) (hpf (bsm f p n)) (vof (bsm f p n)) (ref (bsm f p n)))) := by
    intro d
    induction d with
    | zero =>
      intro k a4 a5 hk
      refine Ev.ild3 dX1_sum_6 ?_
      refine Ev.ald1 dX1_sum_7 ?_
      apply Ev.getf dX1_sum_8 fX1_39
      · repeat (first | assumption | (refine gt_upI ?_; (repeat (first | refine In_up ?_ | refine In_nw ?_)); apply In_of; assumption) | refine gt_rd (by first | assumption | (apply Ne.symm; assumption) | (exact hj _ _ (by omega) (by omega) (by omega)) | omega) ?_ | exact gt_nw (by assumption) | refine gt_odr (by first | assumption | (apply Ne.symm; assumption) | omega) ?_)
      · first | rfl | assumption
      refine Ev.icmp_ge (tgt := 75) dX1_sum_11 (by decide) (fun c9 => ?_) (fun c9 => absurd (nI_le (by omega) (by omega)) c9)
      refine Ev.ald0 dX1_sum_75 ?_
      refine Ev.cvV (Yc := mX1_even) (ci := 1) dX1_sum_76 lX1_60 vX1_even rfl (c_even (gt_up hL)) ?_ rfl rfl rfl rfl ?_
      · apply Exists.intro; repeat (first | assumption | (refine gt_upI ?_; (repeat (first | refine In_up ?_ | refine In_nw ?_)); apply In_of; assumption) | refine gt_rd (by first | assumption | (apply Ne.symm; assumption) | (exact hj _ _ (by omega) (by omega) (by omega)) | omega) ?_ | exact gt_nw (by assumption) | refine gt_odr (by first | assumption | (apply Ne.symm; assumption) | omega) ?_)
      rintro M' rfl
      refine Ev.vret dX1_sum_79 rfl ?_
      exact ⟨rfl, by rw [up_up, show k = n by omega]⟩
    | succ d ih =>
      intro k a4 a5 hk
      have q1 : gt (up M hb (bl (bsm f p k) ov hp vo re)) h = some (bk r w n ph rf lo hi) := gt_rd e1.symm hB
      have q2 : gt (up M hb (bl (bsm f p k) ov hp vo re)) r = some (ia 0 328 f) := gt_rd e2.symm hr
      refine Ev.ild3 dX1_sum_6 ?_
      refine Ev.ald1 dX1_sum_7 ?_
      apply Ev.getf dX1_sum_8 fX1_39
      · repeat (first | assumption | (refine gt_upI ?_; (repeat (first | refine In_up ?_ | refine In_nw ?_)); apply In_of; assumption) | refine gt_rd (by first | assumption | (apply Ne.symm; assumption) | (exact hj _ _ (by omega) (by omega) (by omega)) | omega) ?_ | exact gt_nw (by assumption) | refine gt_odr (by first | assumption | (apply Ne.symm; assumption) | omega) ?_)
      · first | rfl | assumption
      refine Ev.icmp_ge (tgt := 75) dX1_sum_11 (by decide) (fun c9 => absurd c9 (nI_ge (by omega) (by omega))) (fun c9 => ?_)
      refine Ev.ald1 dX1_sum_14 ?_
      refine Ev.ild3 dX1_sum_15 ?_
      refine Ev.iconst (v := 0) dX1_sum_16 (by decide) ?_
      refine Ev.cvI (Yc := mX2_get) (ci := 2) dX1_sum_17 lX1_44 vX2_get rfl (c_get k 0 rfl rfl q1 q2 (by omega) (by omega)) ?_ rfl rfl rfl rfl ?_
      · apply Exists.intro; repeat (first | assumption | (refine gt_upI ?_; (repeat (first | refine In_up ?_ | refine In_nw ?_)); apply In_of; assumption) | refine gt_rd (by first | assumption | (apply Ne.symm; assumption) | (exact hj _ _ (by omega) (by omega) (by omega)) | omega) ?_ | exact gt_nw (by assumption) | refine gt_odr (by first | assumption | (apply Ne.symm; assumption) | omega) ?_)
      rintro y0 M' ⟨hy0, rfl⟩
      refine Ev.ist4 dX1_sum_20 rfl rfl ?_
      refine Ev.ald1 dX1_sum_22 ?_
      refine Ev.ild3 dX1_sum_23 ?_
      refine Ev.iconst (v := 1) dX1_sum_24 (by decide) ?_
      refine Ev.cvI (Yc := mX2_get) (ci := 2) dX1_sum_25 lX1_44 vX2_get rfl (c_get k 1 rfl rfl q1 q2 (by omega) (by omega)) ?_ rfl rfl rfl rfl ?_
      · apply Exists.intro; repeat (first | assumption | (refine gt_upI ?_; (repeat (first | refine In_up ?_ | refine In_nw ?_)); apply In_of; assumption) | refine gt_rd (by first | assumption | (apply Ne.symm; assumption) | (exact hj _ _ (by omega) (by omega) (by omega)) | omega) ?_ | exact gt_nw (by assumption) | refine gt_odr (by first | assumption | (apply Ne.symm; assumption) | omega) ?_)
      rintro y1 M' ⟨hy1, rfl⟩
      refine Ev.ist5 dX1_sum_28 rfl rfl ?_
      refine Ev.ald1 dX1_sum_30 ?_
      refine Ev.ild3 dX1_sum_31 ?_
      refine Ev.cvI (Yc := mX2_stands) (ci := 2) dX1_sum_32 lX1_48 vX2_stands rfl (c_standsN k rfl (by omega) q1 q2 hn) ?_ rfl rfl rfl rfl ?_
      · apply Exists.intro; repeat (first | assumption | (refine gt_upI ?_; (repeat (first | refine In_up ?_ | refine In_nw ?_)); apply In_of; assumption) | refine gt_rd (by first | assumption | (apply Ne.symm; assumption) | (exact hj _ _ (by omega) (by omega) (by omega)) | omega) ?_ | exact gt_nw (by assumption) | refine gt_odr (by first | assumption | (apply Ne.symm; assumption) | omega) ?_)
      rintro x M' ⟨hx, rfl⟩
      refine Ev.if_eq (tgt := 69) dX1_sum_35 (by decide) (fun c35 => ?_) (fun c35 => ?_)
      · apply Ev.iinc3 dX1_sum_69 rfl rfl
        · first | exact nI_inc _ | rfl
        refine Ev.goto (tgt := 6) dX1_sum_72 (by decide) ?_
        exact Ev.cgM rfl (by rw [bsm]; grind) (ih (k + 1) _ _ (by omega))
      · refine Ev.ild4 dX1_sum_38 ?_
        refine Ev.ild5 dX1_sum_40 ?_
        refine Ev.ald1 dX1_sum_42 ?_
        refine Ev.ild3 dX1_sum_43 ?_
        refine Ev.iconst (v := 3) dX1_sum_44 (by decide) ?_
        refine Ev.cvI (Yc := mX2_get) (ci := 2) dX1_sum_45 lX1_44 vX2_get rfl (c_get k 3 rfl rfl q1 q2 (by omega) (by omega)) ?_ rfl rfl rfl rfl ?_
        · apply Exists.intro; repeat (first | assumption | (refine gt_upI ?_; (repeat (first | refine In_up ?_ | refine In_nw ?_)); apply In_of; assumption) | refine gt_rd (by first | assumption | (apply Ne.symm; assumption) | (exact hj _ _ (by omega) (by omega) (by omega)) | omega) ?_ | exact gt_nw (by assumption) | refine gt_odr (by first | assumption | (apply Ne.symm; assumption) | omega) ?_)
        rintro y3 M' ⟨hy3, rfl⟩
        refine Ev.ild2 dX1_sum_48 ?_
        refine Ev.csI (Yc := mX1_isWilling) dX1_sum_49 lX1_52 vX1_isWilling rfl c_bwil rfl rfl rfl ?_
        rintro z M' ⟨hz, rfl⟩
        refine Ev.if_eq (tgt := 69) dX1_sum_52 (by decide) (fun c52 => ?_) (fun c52 => ?_)
        · apply Ev.iinc3 dX1_sum_69 rfl rfl
          · first | exact nI_inc _ | rfl
          refine Ev.goto (tgt := 6) dX1_sum_72 (by decide) ?_
          exact Ev.cgM rfl (by rw [bsm]; grind) (ih (k + 1) _ _ (by omega))
        · refine Ev.ald0 dX1_sum_55 ?_
          refine Ev.ild4 dX1_sum_56 ?_
          refine Ev.ild5 dX1_sum_58 ?_
          refine Ev.ald1 dX1_sum_60 ?_
          refine Ev.ild3 dX1_sum_61 ?_
          refine Ev.iconst (v := 2) dX1_sum_62 (by decide) ?_
          refine Ev.cvI (Yc := mX2_get) (ci := 2) dX1_sum_63 lX1_44 vX2_get rfl (c_get k 2 rfl rfl q1 q2 (by omega) (by omega)) ?_ rfl rfl rfl rfl ?_
          · apply Exists.intro; repeat (first | assumption | (refine gt_upI ?_; (repeat (first | refine In_up ?_ | refine In_nw ?_)); apply In_of; assumption) | refine gt_rd (by first | assumption | (apply Ne.symm; assumption) | (exact hj _ _ (by omega) (by omega) (by omega)) | omega) ?_ | exact gt_nw (by assumption) | refine gt_odr (by first | assumption | (apply Ne.symm; assumption) | omega) ?_)
          rintro y2 M' ⟨hy2, rfl⟩
          refine Ev.cvV (Yc := mX1_add) (ci := 1) dX1_sum_66 lX1_56 vX1_add rfl (c_badd (gt_up hL)) ?_ rfl rfl rfl rfl ?_
          · apply Exists.intro; repeat (first | assumption | (refine gt_upI ?_; (repeat (first | refine In_up ?_ | refine In_nw ?_)); apply In_of; assumption) | refine gt_rd (by first | assumption | (apply Ne.symm; assumption) | (exact hj _ _ (by omega) (by omega) (by omega)) | omega) ?_ | exact gt_nw (by assumption) | refine gt_odr (by first | assumption | (apply Ne.symm; assumption) | omega) ?_)
          rintro M' rfl
          rw [up_up]
          apply Ev.iinc3 dX1_sum_69 rfl rfl
          · first | exact nI_inc _ | rfl
          refine Ev.goto (tgt := 6) dX1_sum_72 (by decide) ?_
          exact Ev.cgM rfl (by rw [bsm]; grind) (ih (k + 1) _ _ (by omega))
  refine Ct.of (ls := [some (.ref hb), some (.ref h), some (.int p), none, none, none]) (by decide) (by decide) rfl rfl rfl ?_
  refine Ev.ald0 dX1_sum_0 ?_
  refine Ev.cvV (Yc := mX1_reset) (ci := 1) dX1_sum_1 lX1_36 vX1_reset rfl (c_breset hL) ?_ rfl rfl rfl rfl ?_
  · apply Exists.intro; repeat (first | assumption | (refine gt_upI ?_; (repeat (first | refine In_up ?_ | refine In_nw ?_)); apply In_of; assumption) | refine gt_rd (by first | assumption | (apply Ne.symm; assumption) | (exact hj _ _ (by omega) (by omega) (by omega)) | omega) ?_ | exact gt_nw (by assumption) | refine gt_odr (by first | assumption | (apply Ne.symm; assumption) | omega) ?_)
  rintro M' rfl
  refine Ev.iconst (v := 0) dX1_sum_4 (by decide) ?_
  refine Ev.ist3 dX1_sum_5 rfl rfl ?_
  exact L n 0 _ _ (by omega)
end BAS
