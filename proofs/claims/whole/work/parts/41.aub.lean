/-! holding: slices and turns -/
abbrev Hs : Type := (Nat → Int32) × (Nat → Int32) × (Nat → Int32) × (Nat → Int32) × Nat
/-- slices of both sides, their counts, turns, their count -/
def HP (ad : Nat → Nat) (so : Nat → Option Nat) (z : Nat) (f : Nat → Int32) (i1 i2 i3 : Int32) (H : Hs) (M : Wd) : Prop :=
  gt M (ad 3) = some (auc ad i1 i2 i3 (nI H.2.2.2.2)) ∧ gt M (ad 8) = some (ra 4 2 so) ∧ gt M (ad 10) = some (ia 0 2 H.2.2.1) ∧ gt M (ad 11) = some (ia 0 41 H.2.2.2.1) ∧ gt M (ad 15) = some (ia 0 82 H.1) ∧ gt M (ad 16) = some (ia 0 82 H.2.1) ∧ gt M (ad 14) = some (ia 0 z f)
abbrev hfr (ad : Nat → Nat) : List Nat := [ad 3, ad 10, ad 11, ad 15, ad 16]
noncomputable def hs1 (H : Hs) (sd key : Int32) : Hs := if sd = 0 then (insf H.1 (H.2.2.1 0).toNatClampNeg key, H.2.1, upd H.2.2.1 0 (H.2.2.1 0 + 1), H.2.2.2) else (H.1, insf H.2.1 (H.2.2.1 1).toNatClampNeg key, upd H.2.2.1 1 (H.2.2.1 1 + 1), H.2.2.2)
def ky (f : Nat → Int32) (k : Nat) : Int32 := kyf (f (8 * k + 0)) (f (8 * k + 1)) (f (8 * k + 3)) ||| nI k
noncomputable def hs2 (H : Hs) (f : Nat → Int32) (k : Nat) : Hs :=
  if f (8 * k + 1) = 3 ∧ f (8 * k + 4) < f (8 * k + 2) then hs1 (hs1 H (f (8 * k + 0)) (ky f k)) (f (8 * k + 0)) (ky f k ||| 64)
  else hs1 H (f (8 * k + 0)) (if f (8 * k + 1) = 2 then ky f k ||| 64 else ky f k)
noncomputable def ht1 (H : Hs) (f : Nat → Int32) (k : Nat) : Hs :=
  if f (8 * k + 1) = 0 then H else (H.1, H.2.1, H.2.2.1, insf H.2.2.2.1 H.2.2.2.2 (((if f (8 * k + 0) = 0 then f (8 * k + 3) + 1 else f (8 * k + 3)) <<< ((6 : Int32) &&& 31)) ||| nI k), H.2.2.2.2 + 1)
noncomputable def hld (f : Nat → Int32) (H0 : Hs) : Nat → Hs
  | 0 => (H0.1, H0.2.1, upd (upd H0.2.2.1 0 0) 1 0, H0.2.2.2.1, 0)
  | k + 1 => if f (8 * k + 7) = 0 then ht1 (hs2 (hld f H0 k) f k) f k else hld f H0 k
/-- counts stay small -/
def hok (H : Hs) (k : Nat) : Prop := ∃ a b : Nat, H.2.2.1 0 = nI a ∧ H.2.2.1 1 = nI b ∧ a ≤ 2 * k ∧ b ≤ 2 * k ∧ H.2.2.2.2 ≤ k
section AUB
variable {G : GP} {M0 M : Wd} {ad : Nat → Nat} {so : Nat → Option Nat} {z : Nat} {f : Nat → Int32} {i1 i2 i3 : Int32} {H : Hs}
set_option maxRecDepth 20000 in
theorem a_holdSlice {sd key : Int32} (hj : Inj ad) (s0 : so 0 = some (ad 15)) (s1 : so 1 = some (ad 16)) (hP : HP ad so z f i1 i2 i3 H M) (hF : Fr (hfr ad) M0 M) (hsd : sd = 0 ∨ sd = 1) {c : Nat} (hc : (if sd = 0 then H.2.2.1 0 else H.2.2.1 1) = nI c) (hc2 : c < 82) : CtV G mX0_holdSlice [.ref (ad 3), .int sd, .int key] M 0 0 (fun M' => HP ad so z f i1 i2 i3 (hs1 H sd key) M' ∧ Fr (hfr ad) M0 M') := by
  obtain ⟨p1, p2, p3, p4, p5, p6, p7⟩ := hP
  rcases hsd with rfl | rfl
  · have e0 : (0 : Int32).toNatClampNeg = 0 := by decide
    have b0 : vp_in (0 : Int32) 2 := by unfold vp_in; decide
    rw [if_pos rfl] at hc
    have q : so (0 : Int32).toNatClampNeg = some (ad 15) := by rw [e0]; exact s0
    refine Ct.of (ls := [some (.ref (ad 3)), some (.int 0), some (.int key)]) (by decide) (by decide) rfl rfl rfl ?_
    refine Ev.ald0 dX0_holdSlice_0 ?_
    apply Ev.getf dX0_holdSlice_1 fX0_47
    · repeat (first | assumption | (refine gt_upI ?_; (repeat (first | refine In_up ?_ | refine In_nw ?_)); apply In_of; assumption) | refine gt_rd (by first | assumption | (apply Ne.symm; assumption) | (exact hj _ _ (by omega) (by omega) (by omega)) | omega) ?_ | exact gt_nw (by assumption) | refine gt_odr (by first | assumption | (apply Ne.symm; assumption) | omega) ?_)
    · first | rfl | assumption
    refine Ev.ild1 dX0_holdSlice_4 ?_
    apply Ev.arld dX0_holdSlice_5
    · repeat (first | assumption | (refine gt_upI ?_; (repeat (first | refine In_up ?_ | refine In_nw ?_)); apply In_of; assumption) | refine gt_rd (by first | assumption | (apply Ne.symm; assumption) | (exact hj _ _ (by omega) (by omega) (by omega)) | omega) ?_ | exact gt_nw (by assumption) | refine gt_odr (by first | assumption | (apply Ne.symm; assumption) | omega) ?_)
    · assumption
    · assumption
    refine Ev.ald0 dX0_holdSlice_6 ?_
    apply Ev.getf dX0_holdSlice_7 fX0_53
    · repeat (first | assumption | (refine gt_upI ?_; (repeat (first | refine In_up ?_ | refine In_nw ?_)); apply In_of; assumption) | refine gt_rd (by first | assumption | (apply Ne.symm; assumption) | (exact hj _ _ (by omega) (by omega) (by omega)) | omega) ?_ | exact gt_nw (by assumption) | refine gt_odr (by first | assumption | (apply Ne.symm; assumption) | omega) ?_)
    · first | rfl | assumption
    refine Ev.ild1 dX0_holdSlice_10 ?_
    apply Ev.iald dX0_holdSlice_11
    · repeat (first | assumption | (refine gt_upI ?_; (repeat (first | refine In_up ?_ | refine In_nw ?_)); apply In_of; assumption) | refine gt_rd (by first | assumption | (apply Ne.symm; assumption) | (exact hj _ _ (by omega) (by omega) (by omega)) | omega) ?_ | exact gt_nw (by assumption) | refine gt_odr (by first | assumption | (apply Ne.symm; assumption) | omega) ?_)
    · assumption
    refine Ev.ild2 dX0_holdSlice_12 ?_
    refine Ev.csV (Yc := mX0_insert) dX0_holdSlice_13 lX0_100 vX0_insert rfl (a_insert (c := c) (by rw [e0]; exact hc) p5 hc2 (by omega)) rfl rfl rfl ?_
    rintro M' rfl
    refine Ev.ald0 dX0_holdSlice_16 ?_
    apply Ev.getf dX0_holdSlice_17 fX0_53
    · repeat (first | assumption | (refine gt_upI ?_; (repeat (first | refine In_up ?_ | refine In_nw ?_)); apply In_of; assumption) | refine gt_rd (by first | assumption | (apply Ne.symm; assumption) | (exact hj _ _ (by omega) (by omega) (by omega)) | omega) ?_ | exact gt_nw (by assumption) | refine gt_odr (by first | assumption | (apply Ne.symm; assumption) | omega) ?_)
    · first | rfl | assumption
    refine Ev.ild1 dX0_holdSlice_20 ?_
    refine Ev.dup2 dX0_holdSlice_21 rfl rfl ?_
    apply Ev.iald dX0_holdSlice_22
    · repeat (first | assumption | (refine gt_upI ?_; (repeat (first | refine In_up ?_ | refine In_nw ?_)); apply In_of; assumption) | refine gt_rd (by first | assumption | (apply Ne.symm; assumption) | (exact hj _ _ (by omega) (by omega) (by omega)) | omega) ?_ | exact gt_nw (by assumption) | refine gt_odr (by first | assumption | (apply Ne.symm; assumption) | omega) ?_)
    · assumption
    refine Ev.iconst (v := 1) dX0_holdSlice_23 (by decide) ?_
    refine Ev.iadd dX0_holdSlice_24 ?_
    apply Ev.iast dX0_holdSlice_25
    · repeat (first | assumption | (refine gt_upI ?_; (repeat (first | refine In_up ?_ | refine In_nw ?_)); apply In_of; assumption) | refine gt_rd (by first | assumption | (apply Ne.symm; assumption) | (exact hj _ _ (by omega) (by omega) (by omega)) | omega) ?_ | exact gt_nw (by assumption) | refine gt_odr (by first | assumption | (apply Ne.symm; assumption) | omega) ?_)
    · assumption
    refine Ev.vret dX0_holdSlice_26 rfl ?_
    refine ⟨rfl, ⟨(by repeat (first | assumption | (refine gt_upI ?_; (repeat (first | refine In_up ?_ | refine In_nw ?_)); apply In_of; assumption) | refine gt_rd (by first | assumption | (apply Ne.symm; assumption) | (exact hj _ _ (by omega) (by omega) (by omega)) | omega) ?_ | exact gt_nw (by assumption) | refine gt_odr (by first | assumption | (apply Ne.symm; assumption) | omega) ?_)), (by repeat (first | assumption | (refine gt_upI ?_; (repeat (first | refine In_up ?_ | refine In_nw ?_)); apply In_of; assumption) | refine gt_rd (by first | assumption | (apply Ne.symm; assumption) | (exact hj _ _ (by omega) (by omega) (by omega)) | omega) ?_ | exact gt_nw (by assumption) | refine gt_odr (by first | assumption | (apply Ne.symm; assumption) | omega) ?_)), ?_, (by repeat (first | assumption | (refine gt_upI ?_; (repeat (first | refine In_up ?_ | refine In_nw ?_)); apply In_of; assumption) | refine gt_rd (by first | assumption | (apply Ne.symm; assumption) | (exact hj _ _ (by omega) (by omega) (by omega)) | omega) ?_ | exact gt_nw (by assumption) | refine gt_odr (by first | assumption | (apply Ne.symm; assumption) | omega) ?_)), ?_, (by repeat (first | assumption | (refine gt_upI ?_; (repeat (first | refine In_up ?_ | refine In_nw ?_)); apply In_of; assumption) | refine gt_rd (by first | assumption | (apply Ne.symm; assumption) | (exact hj _ _ (by omega) (by omega) (by omega)) | omega) ?_ | exact gt_nw (by assumption) | refine gt_odr (by first | assumption | (apply Ne.symm; assumption) | omega) ?_)), (by repeat (first | assumption | (refine gt_upI ?_; (repeat (first | refine In_up ?_ | refine In_nw ?_)); apply In_of; assumption) | refine gt_rd (by first | assumption | (apply Ne.symm; assumption) | (exact hj _ _ (by omega) (by omega) (by omega)) | omega) ?_ | exact gt_nw (by assumption) | refine gt_odr (by first | assumption | (apply Ne.symm; assumption) | omega) ?_))⟩, (hF.pt (by simp [hfr])).pt (by simp [hfr])⟩
    · rw [hs1, if_pos rfl, gt_upI (In_up (In_of p3)), e0]
    · rw [hs1, if_pos rfl, gt_ne (hj _ _ (by decide) (by decide) (by decide)), gt_up p5]
      dsimp only
      rw [hc, nI_clamp (by omega)]
  · have e0 : (1 : Int32).toNatClampNeg = 1 := by decide
    have b0 : vp_in (1 : Int32) 2 := by unfold vp_in; decide
    rw [if_neg (by decide)] at hc
    have q : so (1 : Int32).toNatClampNeg = some (ad 16) := by rw [e0]; exact s1
    refine Ct.of (ls := [some (.ref (ad 3)), some (.int 1), some (.int key)]) (by decide) (by decide) rfl rfl rfl ?_
    refine Ev.ald0 dX0_holdSlice_0 ?_
    apply Ev.getf dX0_holdSlice_1 fX0_47
    · repeat (first | assumption | (refine gt_upI ?_; (repeat (first | refine In_up ?_ | refine In_nw ?_)); apply In_of; assumption) | refine gt_rd (by first | assumption | (apply Ne.symm; assumption) | (exact hj _ _ (by omega) (by omega) (by omega)) | omega) ?_ | exact gt_nw (by assumption) | refine gt_odr (by first | assumption | (apply Ne.symm; assumption) | omega) ?_)
    · first | rfl | assumption
    refine Ev.ild1 dX0_holdSlice_4 ?_
    apply Ev.arld dX0_holdSlice_5
    · repeat (first | assumption | (refine gt_upI ?_; (repeat (first | refine In_up ?_ | refine In_nw ?_)); apply In_of; assumption) | refine gt_rd (by first | assumption | (apply Ne.symm; assumption) | (exact hj _ _ (by omega) (by omega) (by omega)) | omega) ?_ | exact gt_nw (by assumption) | refine gt_odr (by first | assumption | (apply Ne.symm; assumption) | omega) ?_)
    · assumption
    · assumption
    refine Ev.ald0 dX0_holdSlice_6 ?_
    apply Ev.getf dX0_holdSlice_7 fX0_53
    · repeat (first | assumption | (refine gt_upI ?_; (repeat (first | refine In_up ?_ | refine In_nw ?_)); apply In_of; assumption) | refine gt_rd (by first | assumption | (apply Ne.symm; assumption) | (exact hj _ _ (by omega) (by omega) (by omega)) | omega) ?_ | exact gt_nw (by assumption) | refine gt_odr (by first | assumption | (apply Ne.symm; assumption) | omega) ?_)
    · first | rfl | assumption
    refine Ev.ild1 dX0_holdSlice_10 ?_
    apply Ev.iald dX0_holdSlice_11
    · repeat (first | assumption | (refine gt_upI ?_; (repeat (first | refine In_up ?_ | refine In_nw ?_)); apply In_of; assumption) | refine gt_rd (by first | assumption | (apply Ne.symm; assumption) | (exact hj _ _ (by omega) (by omega) (by omega)) | omega) ?_ | exact gt_nw (by assumption) | refine gt_odr (by first | assumption | (apply Ne.symm; assumption) | omega) ?_)
    · assumption
    refine Ev.ild2 dX0_holdSlice_12 ?_
    refine Ev.csV (Yc := mX0_insert) dX0_holdSlice_13 lX0_100 vX0_insert rfl (a_insert (c := c) (by rw [e0]; exact hc) p6 hc2 (by omega)) rfl rfl rfl ?_
    rintro M' rfl
    refine Ev.ald0 dX0_holdSlice_16 ?_
    apply Ev.getf dX0_holdSlice_17 fX0_53
    · repeat (first | assumption | (refine gt_upI ?_; (repeat (first | refine In_up ?_ | refine In_nw ?_)); apply In_of; assumption) | refine gt_rd (by first | assumption | (apply Ne.symm; assumption) | (exact hj _ _ (by omega) (by omega) (by omega)) | omega) ?_ | exact gt_nw (by assumption) | refine gt_odr (by first | assumption | (apply Ne.symm; assumption) | omega) ?_)
    · first | rfl | assumption
    refine Ev.ild1 dX0_holdSlice_20 ?_
    refine Ev.dup2 dX0_holdSlice_21 rfl rfl ?_
    apply Ev.iald dX0_holdSlice_22
    · repeat (first | assumption | (refine gt_upI ?_; (repeat (first | refine In_up ?_ | refine In_nw ?_)); apply In_of; assumption) | refine gt_rd (by first | assumption | (apply Ne.symm; assumption) | (exact hj _ _ (by omega) (by omega) (by omega)) | omega) ?_ | exact gt_nw (by assumption) | refine gt_odr (by first | assumption | (apply Ne.symm; assumption) | omega) ?_)
    · assumption
    refine Ev.iconst (v := 1) dX0_holdSlice_23 (by decide) ?_
    refine Ev.iadd dX0_holdSlice_24 ?_
    apply Ev.iast dX0_holdSlice_25
    · repeat (first | assumption | (refine gt_upI ?_; (repeat (first | refine In_up ?_ | refine In_nw ?_)); apply In_of; assumption) | refine gt_rd (by first | assumption | (apply Ne.symm; assumption) | (exact hj _ _ (by omega) (by omega) (by omega)) | omega) ?_ | exact gt_nw (by assumption) | refine gt_odr (by first | assumption | (apply Ne.symm; assumption) | omega) ?_)
    · assumption
    refine Ev.vret dX0_holdSlice_26 rfl ?_
    refine ⟨rfl, ⟨(by repeat (first | assumption | (refine gt_upI ?_; (repeat (first | refine In_up ?_ | refine In_nw ?_)); apply In_of; assumption) | refine gt_rd (by first | assumption | (apply Ne.symm; assumption) | (exact hj _ _ (by omega) (by omega) (by omega)) | omega) ?_ | exact gt_nw (by assumption) | refine gt_odr (by first | assumption | (apply Ne.symm; assumption) | omega) ?_)), (by repeat (first | assumption | (refine gt_upI ?_; (repeat (first | refine In_up ?_ | refine In_nw ?_)); apply In_of; assumption) | refine gt_rd (by first | assumption | (apply Ne.symm; assumption) | (exact hj _ _ (by omega) (by omega) (by omega)) | omega) ?_ | exact gt_nw (by assumption) | refine gt_odr (by first | assumption | (apply Ne.symm; assumption) | omega) ?_)), ?_, (by repeat (first | assumption | (refine gt_upI ?_; (repeat (first | refine In_up ?_ | refine In_nw ?_)); apply In_of; assumption) | refine gt_rd (by first | assumption | (apply Ne.symm; assumption) | (exact hj _ _ (by omega) (by omega) (by omega)) | omega) ?_ | exact gt_nw (by assumption) | refine gt_odr (by first | assumption | (apply Ne.symm; assumption) | omega) ?_)), (by repeat (first | assumption | (refine gt_upI ?_; (repeat (first | refine In_up ?_ | refine In_nw ?_)); apply In_of; assumption) | refine gt_rd (by first | assumption | (apply Ne.symm; assumption) | (exact hj _ _ (by omega) (by omega) (by omega)) | omega) ?_ | exact gt_nw (by assumption) | refine gt_odr (by first | assumption | (apply Ne.symm; assumption) | omega) ?_)), ?_, (by repeat (first | assumption | (refine gt_upI ?_; (repeat (first | refine In_up ?_ | refine In_nw ?_)); apply In_of; assumption) | refine gt_rd (by first | assumption | (apply Ne.symm; assumption) | (exact hj _ _ (by omega) (by omega) (by omega)) | omega) ?_ | exact gt_nw (by assumption) | refine gt_odr (by first | assumption | (apply Ne.symm; assumption) | omega) ?_))⟩, (hF.pt (by simp [hfr])).pt (by simp [hfr])⟩
    · rw [hs1, if_neg (by decide), gt_upI (In_up (In_of p3)), e0]
    · rw [hs1, if_neg (by decide), gt_ne (hj _ _ (by decide) (by decide) (by decide)), gt_up p6]
      dsimp only
      rw [hc, nI_clamp (by omega)]
end AUB
