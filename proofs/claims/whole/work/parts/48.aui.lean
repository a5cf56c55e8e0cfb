/-! trades: the parts of both sides side by side -/
/-- parts of both sides, trades, their count -/
abbrev P4 : Type := (Nat → Int32) × (Nat → Int32) × (Nat → Int32) × Nat
noncomputable def mnt (P : P4) (k0 k1 q : Int32) : P4 := (P.1, P.2.1, upd (upd (upd P.2.2.1 (3 * P.2.2.2 + 0) (k0 &&& 63)) (3 * P.2.2.2 + 1) (k1 &&& 63)) (3 * P.2.2.2 + 2) q, P.2.2.2 + 1)
noncomputable def mn1 (s0 s1 : Nat → Int32) (b s : Nat) (P : P4) : P4 := if 0 < mn (P.1 b) (P.2.1 s) ∧ P.2.2.2 < 82 then mnt P (s0 b) (s1 s) (mn (P.1 b) (P.2.1 s)) else P
noncomputable def mn2 (s0 s1 : Nat → Int32) (b s : Nat) (P : P4) : P4 := (upd P.1 b (P.1 b - mn (P.1 b) (P.2.1 s)), upd P.2.1 s (P.2.1 s - mn (P.1 b) (P.2.1 s)), (mn1 s0 s1 b s P).2.2)
noncomputable def mlp (s0 s1 : Nat → Int32) (c0 c1 : Nat) : Nat → Nat → Nat → P4 → P4
  | 0, _, _, P => P
  | e + 1, b, s, P => if b < c0 ∧ s < c1 then (if P.1 b - mn (P.1 b) (P.2.1 s) = 0 then mlp s0 s1 c0 c1 e (b + 1) s (mn2 s0 s1 b s P) else mlp s0 s1 c0 c1 e b (s + 1) (mn2 s0 s1 b s P)) else P
def MP (ad : Nat → Nat) (i1 i2 i4 : Int32) (P : P4) (M : Wd) : Prop := gt M (ad 3) = some (auc ad i1 i2 (nI P.2.2.2) i4) ∧ gt M (ad 6) = some (ia 0 246 P.2.2.1) ∧ gt M (ad 17) = some (ia 0 82 P.1) ∧ gt M (ad 18) = some (ia 0 82 P.2.1)
abbrev mfr (ad : Nat → Nat) : List Nat := [ad 3, ad 6, ad 17, ad 18]
section AUI
variable {G : GP} {M0 M : Wd} {ad : Nat → Nat} {so po : Nat → Option Nat} {cn s0 s1 : Nat → Int32} {i1 i2 i4 : Int32} {P : P4} {c0 c1 : Nat}
set_option maxRecDepth 20000 in
theorem a_noteTrade {k0 k1 q : Int32} (hj : Inj ad) (hP : MP ad i1 i2 i4 P M) (hF : Fr (mfr ad) M0 M) (hc : P.2.2.2 < 82) : CtV G mX0_noteTrade [.ref (ad 3), .int k0, .int k1, .int q] M 0 0 (fun M' => MP ad i1 i2 i4 (mnt P k0 k1 q) M' ∧ Fr (mfr ad) M0 M') := by
  obtain ⟨h3, h6, h17, h18⟩ := hP
  have e0 := nI_clamp (n := 3 * P.2.2.2) (by omega)
  have b0 : vp_in (nI (3 * P.2.2.2)) 246 := vp_in_nI (by omega) (by omega)
  have z1 : nI (3 * P.2.2.2) + 1 = nI (3 * P.2.2.2 + 1) := nI_1 _
  have z2 : nI (3 * P.2.2.2) + 2 = nI (3 * P.2.2.2 + 2) := nI_add _ 2
  have e1 := nI_clamp (n := 3 * P.2.2.2 + 1) (by omega)
  have b1 : vp_in (nI (3 * P.2.2.2 + 1)) 246 := vp_in_nI (by omega) (by omega)
  have e2 := nI_clamp (n := 3 * P.2.2.2 + 2) (by omega)
  have b2 : vp_in (nI (3 * P.2.2.2 + 2)) 246 := vp_in_nI (by omega) (by omega)
  refine Ct.of (ls := [some (.ref (ad 3)), some (.int k0), some (.int k1), some (.int q), none]) (by decide) (by decide) rfl rfl rfl ?_
  refine Ev.ald0 dX0_noteTrade_0 ?_
  apply Ev.getf dX0_noteTrade_1 fX0_36
  · repeat (first | assumption | (refine gt_upI ?_; (repeat (first | refine In_up ?_ | refine In_nw ?_)); apply In_of; assumption) | refine gt_rd (by first | assumption | (apply Ne.symm; assumption) | (exact hj _ _ (by omega) (by omega) (by omega)) | omega) ?_ | exact gt_nw (by assumption) | refine gt_odr (by first | assumption | (apply Ne.symm; assumption) | omega) ?_)
  · first | rfl | assumption
  refine Ev.iconst (v := 3) dX0_noteTrade_4 (by decide) ?_
  refine Ev.imul dX0_noteTrade_5 ?_
  rw [n3]
  refine Ev.ist4 dX0_noteTrade_6 rfl rfl ?_
  refine Ev.ald0 dX0_noteTrade_8 ?_
  apply Ev.getf dX0_noteTrade_9 fX0_39
  · repeat (first | assumption | (refine gt_upI ?_; (repeat (first | refine In_up ?_ | refine In_nw ?_)); apply In_of; assumption) | refine gt_rd (by first | assumption | (apply Ne.symm; assumption) | (exact hj _ _ (by omega) (by omega) (by omega)) | omega) ?_ | exact gt_nw (by assumption) | refine gt_odr (by first | assumption | (apply Ne.symm; assumption) | omega) ?_)
  · first | rfl | assumption
  refine Ev.ild4 dX0_noteTrade_12 ?_
  refine Ev.ild1 dX0_noteTrade_14 ?_
  refine Ev.csI (Yc := mX0_numberOf) dX0_noteTrade_15 lX0_104 vX0_numberOf rfl a_numberOf rfl rfl rfl ?_
  rintro x M' ⟨rfl, rfl⟩
  apply Ev.iast dX0_noteTrade_18
  · repeat (first | assumption | (refine gt_upI ?_; (repeat (first | refine In_up ?_ | refine In_nw ?_)); apply In_of; assumption) | refine gt_rd (by first | assumption | (apply Ne.symm; assumption) | (exact hj _ _ (by omega) (by omega) (by omega)) | omega) ?_ | exact gt_nw (by assumption) | refine gt_odr (by first | assumption | (apply Ne.symm; assumption) | omega) ?_)
  · assumption
  refine Ev.ald0 dX0_noteTrade_19 ?_
  apply Ev.getf dX0_noteTrade_20 fX0_39
  · repeat (first | assumption | (refine gt_upI ?_; (repeat (first | refine In_up ?_ | refine In_nw ?_)); apply In_of; assumption) | refine gt_rd (by first | assumption | (apply Ne.symm; assumption) | (exact hj _ _ (by omega) (by omega) (by omega)) | omega) ?_ | exact gt_nw (by assumption) | refine gt_odr (by first | assumption | (apply Ne.symm; assumption) | omega) ?_)
  · first | rfl | assumption
  refine Ev.ild4 dX0_noteTrade_23 ?_
  refine Ev.iconst (v := 1) dX0_noteTrade_25 (by decide) ?_
  refine Ev.iadd dX0_noteTrade_26 ?_
  rw [z1]
  refine Ev.ild2 dX0_noteTrade_27 ?_
  refine Ev.csI (Yc := mX0_numberOf) dX0_noteTrade_28 lX0_104 vX0_numberOf rfl a_numberOf rfl rfl rfl ?_
  rintro x M' ⟨rfl, rfl⟩
  apply Ev.iast dX0_noteTrade_31
  · repeat (first | assumption | (refine gt_upI ?_; (repeat (first | refine In_up ?_ | refine In_nw ?_)); apply In_of; assumption) | refine gt_rd (by first | assumption | (apply Ne.symm; assumption) | (exact hj _ _ (by omega) (by omega) (by omega)) | omega) ?_ | exact gt_nw (by assumption) | refine gt_odr (by first | assumption | (apply Ne.symm; assumption) | omega) ?_)
  · assumption
  refine Ev.ald0 dX0_noteTrade_32 ?_
  apply Ev.getf dX0_noteTrade_33 fX0_39
  · repeat (first | assumption | (refine gt_upI ?_; (repeat (first | refine In_up ?_ | refine In_nw ?_)); apply In_of; assumption) | refine gt_rd (by first | assumption | (apply Ne.symm; assumption) | (exact hj _ _ (by omega) (by omega) (by omega)) | omega) ?_ | exact gt_nw (by assumption) | refine gt_odr (by first | assumption | (apply Ne.symm; assumption) | omega) ?_)
  · first | rfl | assumption
  refine Ev.ild4 dX0_noteTrade_36 ?_
  refine Ev.iconst (v := 2) dX0_noteTrade_38 (by decide) ?_
  refine Ev.iadd dX0_noteTrade_39 ?_
  rw [z2]
  refine Ev.ild3 dX0_noteTrade_40 ?_
  apply Ev.iast dX0_noteTrade_41
  · repeat (first | assumption | (refine gt_upI ?_; (repeat (first | refine In_up ?_ | refine In_nw ?_)); apply In_of; assumption) | refine gt_rd (by first | assumption | (apply Ne.symm; assumption) | (exact hj _ _ (by omega) (by omega) (by omega)) | omega) ?_ | exact gt_nw (by assumption) | refine gt_odr (by first | assumption | (apply Ne.symm; assumption) | omega) ?_)
  · assumption
  refine Ev.ald0 dX0_noteTrade_42 ?_
  refine Ev.dup dX0_noteTrade_43 rfl ?_
  apply Ev.getf dX0_noteTrade_44 fX0_36
  · repeat (first | assumption | (refine gt_upI ?_; (repeat (first | refine In_up ?_ | refine In_nw ?_)); apply In_of; assumption) | refine gt_rd (by first | assumption | (apply Ne.symm; assumption) | (exact hj _ _ (by omega) (by omega) (by omega)) | omega) ?_ | exact gt_nw (by assumption) | refine gt_odr (by first | assumption | (apply Ne.symm; assumption) | omega) ?_)
  · first | rfl | assumption
  refine Ev.iconst (v := 1) dX0_noteTrade_47 (by decide) ?_
  refine Ev.iadd dX0_noteTrade_48 ?_
  apply Ev.put dX0_noteTrade_49 fX0_36
  · repeat (first | assumption | (refine gt_upI ?_; (repeat (first | refine In_up ?_ | refine In_nw ?_)); apply In_of; assumption) | refine gt_rd (by first | assumption | (apply Ne.symm; assumption) | (exact hj _ _ (by omega) (by omega) (by omega)) | omega) ?_ | exact gt_nw (by assumption) | refine gt_odr (by first | assumption | (apply Ne.symm; assumption) | omega) ?_)
  · rfl
  · rfl
  · rfl
  refine Ev.vret dX0_noteTrade_52 rfl ?_
  refine ⟨rfl, ⟨?_, ?_, (by repeat (first | assumption | (refine gt_upI ?_; (repeat (first | refine In_up ?_ | refine In_nw ?_)); apply In_of; assumption) | refine gt_rd (by first | assumption | (apply Ne.symm; assumption) | (exact hj _ _ (by omega) (by omega) (by omega)) | omega) ?_ | exact gt_nw (by assumption) | refine gt_odr (by first | assumption | (apply Ne.symm; assumption) | omega) ?_)), (by repeat (first | assumption | (refine gt_upI ?_; (repeat (first | refine In_up ?_ | refine In_nw ?_)); apply In_of; assumption) | refine gt_rd (by first | assumption | (apply Ne.symm; assumption) | (exact hj _ _ (by omega) (by omega) (by omega)) | omega) ?_ | exact gt_nw (by assumption) | refine gt_odr (by first | assumption | (apply Ne.symm; assumption) | omega) ?_))⟩, (((hF.pt (by simp [mfr])).pt (by simp [mfr])).pt (by simp [mfr])).pt (by simp [mfr])⟩
  · rw [gt_upI (by (repeat (first | refine In_up ?_ | refine In_nw ?_)); apply In_of; assumption)]
    show some (ob 0 [_, _, _, _, _, .int (nI P.2.2.2 + 1), _, _, _, _, _, _, _, _, _]) = _
    rw [nI_1]
    rfl
  · rw [gt_ne (hj _ _ (by decide) (by decide) (by decide)), gt_upI (by (repeat (first | refine In_up ?_ | refine In_nw ?_)); apply In_of; assumption), e0, e1, e2]
    rfl
set_option maxRecDepth 20000 in
theorem a_match (hj : Inj ad) (h8 : gt M (ad 8) = some (ra 4 2 so)) (h9 : gt M (ad 9) = some (ra 4 2 po)) (h10 : gt M (ad 10) = some (ia 0 2 cn)) (h15 : gt M (ad 15) = some (ia 0 82 s0)) (h16 : gt M (ad 16) = some (ia 0 82 s1)) (o1 : so 0 = some (ad 15)) (o2 : so 1 = some (ad 16)) (o3 : po 0 = some (ad 17)) (o4 : po 1 = some (ad 18)) (n0 : cn 0 = nI c0) (n1 : cn 1 = nI c1) (l0 : c0 ≤ 82) (l1 : c1 ≤ 82) (hP : MP ad i1 i2 i4 P M) : CtV G mX0_match [.ref (ad 3)] M 0 0 (fun M' => MP ad i1 i2 i4 (mlp s0 s1 c0 c1 (c0 + c1) 0 0 (P.1, P.2.1, P.2.2.1, 0)) M' ∧ Fr (mfr ad) M M') := by
  have z0 : (0 : Int32).toNatClampNeg = 0 := by decide
  have z1 : (1 : Int32).toNatClampNeg = 1 := by decide
  have b0 : vp_in (0 : Int32) 2 := by unfold vp_in; decide
  have b1 : vp_in (1 : Int32) 2 := by unfold vp_in; decide
  have w1 : so (0 : Int32).toNatClampNeg = some (ad 15) := o1
  have w2 : so (1 : Int32).toNatClampNeg = some (ad 16) := o2
  have w3 : po (0 : Int32).toNatClampNeg = some (ad 17) := o3
  have w4 : po (1 : Int32).toNatClampNeg = some (ad 18) := o4
  have N : ∀ i, i < 20 → i ≠ 3 → i ≠ 6 → i ≠ 17 → i ≠ 18 → ad i ∉ mfr ad := by
    intro i h a b c d
    simp only [mfr, List.mem_cons, List.not_mem_nil, or_false, not_or]
    exact ⟨hj _ _ h (by omega) a, hj _ _ h (by omega) b, hj _ _ h (by omega) c, hj _ _ h (by omega) d⟩
  have L : ∀ e b s a3 (P : P4) (M1 : Wd), c0 + c1 ≤ b + s + e → b ≤ c0 → s ≤ c1 → P.2.2.2 ≤ b + s → MP ad i1 i2 i4 P M1 → Fr (mfr ad) M M1 → Ev G mX0_match 9 [some (.ref (ad 3)), some (.int (nI b)), some (.int (nI s)), a3] [] M1 0 0 (fun v M' => v = none ∧ MP ad i1 i2 i4 (mlp s0 s1 c0 c1 e b s P) M' ∧ Fr (mfr ad) M M') := by
    intro e
    induction e with
    | zero =>
      intro b s a3 P M1 he hb hs hcnt hP hF
      have hP0 := hP
      obtain ⟨h3, h6, h17, h18⟩ := hP
      have q10 : gt M1 (ad 10) = some (ia 0 2 cn) := hF.rd (N 10 (by omega) (by omega) (by omega) (by omega) (by omega)) h10
      refine Ev.ild1 dX0_match_9 ?_
      refine Ev.ald0 dX0_match_10 ?_
      apply Ev.getf dX0_match_11 fX0_53
      · repeat (first | assumption | (refine gt_upI ?_; (repeat (first | refine In_up ?_ | refine In_nw ?_)); apply In_of; assumption) | refine gt_rd (by first | assumption | (apply Ne.symm; assumption) | (exact hj _ _ (by omega) (by omega) (by omega)) | omega) ?_ | exact gt_nw (by assumption) | refine gt_odr (by first | assumption | (apply Ne.symm; assumption) | omega) ?_)
      · first | rfl | assumption
      refine Ev.iconst (v := 0) dX0_match_14 (by decide) ?_
      apply Ev.iald dX0_match_15
      · repeat (first | assumption | (refine gt_upI ?_; (repeat (first | refine In_up ?_ | refine In_nw ?_)); apply In_of; assumption) | refine gt_rd (by first | assumption | (apply Ne.symm; assumption) | (exact hj _ _ (by omega) (by omega) (by omega)) | omega) ?_ | exact gt_nw (by assumption) | refine gt_odr (by first | assumption | (apply Ne.symm; assumption) | omega) ?_)
      · assumption
      rw [z0, n0]
      refine Ev.icmp_ge (tgt := 130) dX0_match_16 (by decide) (fun c9 => ?_) (fun c9 => absurd (nI_le (by omega) (by omega)) c9)
      refine Ev.vret dX0_match_130 rfl ?_
      exact ⟨rfl, hP0, hF⟩
    | succ e ih =>
      intro b s a3 P M1 he hb hs hcnt hP hF
      have hP0 := hP
      obtain ⟨h3, h6, h17, h18⟩ := hP
      have q8 : gt M1 (ad 8) = some (ra 4 2 so) := hF.rd (N 8 (by omega) (by omega) (by omega) (by omega) (by omega)) h8
      have q9 : gt M1 (ad 9) = some (ra 4 2 po) := hF.rd (N 9 (by omega) (by omega) (by omega) (by omega) (by omega)) h9
      have q10 : gt M1 (ad 10) = some (ia 0 2 cn) := hF.rd (N 10 (by omega) (by omega) (by omega) (by omega) (by omega)) h10
      have q15 : gt M1 (ad 15) = some (ia 0 82 s0) := hF.rd (N 15 (by omega) (by omega) (by omega) (by omega) (by omega)) h15
      have q16 : gt M1 (ad 16) = some (ia 0 82 s1) := hF.rd (N 16 (by omega) (by omega) (by omega) (by omega) (by omega)) h16
      by_cases hlt : b < c0 ∧ s < c1
      · have eb := nI_clamp (n := b) (by omega)
        have es := nI_clamp (n := s) (by omega)
        have bb : vp_in (nI b) 82 := vp_in_nI (by omega) (by omega)
        have bs : vp_in (nI s) 82 := vp_in_nI (by omega) (by omega)
        rw [mlp, if_pos hlt]
        have J : ∀ M2, MP ad i1 i2 i4 (mn1 s0 s1 b s P) M2 → Fr (mfr ad) M M2 → Ev G mX0_match 83 [some (.ref (ad 3)), some (.int (nI b)), some (.int (nI s)), some (.int (mn (P.1 b) (P.2.1 s)))] [] M2 0 0 (fun v M' => v = none ∧ MP ad i1 i2 i4 (if P.1 b - mn (P.1 b) (P.2.1 s) = 0 then mlp s0 s1 c0 c1 e (b + 1) s (mn2 s0 s1 b s P) else mlp s0 s1 c0 c1 e b (s + 1) (mn2 s0 s1 b s P)) M' ∧ Fr (mfr ad) M M') := by
          intro M2 hP2 hF2
          have f1 : (mn1 s0 s1 b s P).1 = P.1 := by rw [mn1]; split <;> rfl
          have f2 : (mn1 s0 s1 b s P).2.1 = P.2.1 := by rw [mn1]; split <;> rfl
          have f3 : (mn2 s0 s1 b s P).2.2.2 ≤ P.2.2.2 + 1 := by
            show (mn1 s0 s1 b s P).2.2.2 ≤ _
            rw [mn1]
            split
            · exact Nat.le_refl _
            · omega
          obtain ⟨g3, g6, g17, g18⟩ := hP2
          rw [f1] at g17
          rw [f2] at g18
          have r9 : gt M2 (ad 9) = some (ra 4 2 po) := hF2.rd (N 9 (by omega) (by omega) (by omega) (by omega) (by omega)) h9
          refine Ev.ald0 dX0_match_83 ?_
          apply Ev.getf dX0_match_84 fX0_50
          · repeat (first | assumption | (refine gt_upI ?_; (repeat (first | refine In_up ?_ | refine In_nw ?_)); apply In_of; assumption) | refine gt_rd (by first | assumption | (apply Ne.symm; assumption) | (exact hj _ _ (by omega) (by omega) (by omega)) | omega) ?_ | exact gt_nw (by assumption) | refine gt_odr (by first | assumption | (apply Ne.symm; assumption) | omega) ?_)
          · first | rfl | assumption
          refine Ev.iconst (v := 0) dX0_match_87 (by decide) ?_
          apply Ev.arld dX0_match_88
          · repeat (first | assumption | (refine gt_upI ?_; (repeat (first | refine In_up ?_ | refine In_nw ?_)); apply In_of; assumption) | refine gt_rd (by first | assumption | (apply Ne.symm; assumption) | (exact hj _ _ (by omega) (by omega) (by omega)) | omega) ?_ | exact gt_nw (by assumption) | refine gt_odr (by first | assumption | (apply Ne.symm; assumption) | omega) ?_)
          · assumption
          · assumption
          refine Ev.ild1 dX0_match_89 ?_
          refine Ev.dup2 dX0_match_90 rfl rfl ?_
          apply Ev.iald dX0_match_91
          · repeat (first | assumption | (refine gt_upI ?_; (repeat (first | refine In_up ?_ | refine In_nw ?_)); apply In_of; assumption) | refine gt_rd (by first | assumption | (apply Ne.symm; assumption) | (exact hj _ _ (by omega) (by omega) (by omega)) | omega) ?_ | exact gt_nw (by assumption) | refine gt_odr (by first | assumption | (apply Ne.symm; assumption) | omega) ?_)
          · assumption
          refine Ev.ild3 dX0_match_92 ?_
          refine Ev.isub dX0_match_93 ?_
          apply Ev.iast dX0_match_94
          · repeat (first | assumption | (refine gt_upI ?_; (repeat (first | refine In_up ?_ | refine In_nw ?_)); apply In_of; assumption) | refine gt_rd (by first | assumption | (apply Ne.symm; assumption) | (exact hj _ _ (by omega) (by omega) (by omega)) | omega) ?_ | exact gt_nw (by assumption) | refine gt_odr (by first | assumption | (apply Ne.symm; assumption) | omega) ?_)
          · assumption
          refine Ev.ald0 dX0_match_95 ?_
          apply Ev.getf dX0_match_96 fX0_50
          · repeat (first | assumption | (refine gt_upI ?_; (repeat (first | refine In_up ?_ | refine In_nw ?_)); apply In_of; assumption) | refine gt_rd (by first | assumption | (apply Ne.symm; assumption) | (exact hj _ _ (by omega) (by omega) (by omega)) | omega) ?_ | exact gt_nw (by assumption) | refine gt_odr (by first | assumption | (apply Ne.symm; assumption) | omega) ?_)
          · first | rfl | assumption
          refine Ev.iconst (v := 1) dX0_match_99 (by decide) ?_
          apply Ev.arld dX0_match_100
          · repeat (first | assumption | (refine gt_upI ?_; (repeat (first | refine In_up ?_ | refine In_nw ?_)); apply In_of; assumption) | refine gt_rd (by first | assumption | (apply Ne.symm; assumption) | (exact hj _ _ (by omega) (by omega) (by omega)) | omega) ?_ | exact gt_nw (by assumption) | refine gt_odr (by first | assumption | (apply Ne.symm; assumption) | omega) ?_)
          · assumption
          · assumption
          refine Ev.ild2 dX0_match_101 ?_
          refine Ev.dup2 dX0_match_102 rfl rfl ?_
          apply Ev.iald dX0_match_103
          · repeat (first | assumption | (refine gt_upI ?_; (repeat (first | refine In_up ?_ | refine In_nw ?_)); apply In_of; assumption) | refine gt_rd (by first | assumption | (apply Ne.symm; assumption) | (exact hj _ _ (by omega) (by omega) (by omega)) | omega) ?_ | exact gt_nw (by assumption) | refine gt_odr (by first | assumption | (apply Ne.symm; assumption) | omega) ?_)
          · assumption
          refine Ev.ild3 dX0_match_104 ?_
          refine Ev.isub dX0_match_105 ?_
          apply Ev.iast dX0_match_106
          · repeat (first | assumption | (refine gt_upI ?_; (repeat (first | refine In_up ?_ | refine In_nw ?_)); apply In_of; assumption) | refine gt_rd (by first | assumption | (apply Ne.symm; assumption) | (exact hj _ _ (by omega) (by omega) (by omega)) | omega) ?_ | exact gt_nw (by assumption) | refine gt_odr (by first | assumption | (apply Ne.symm; assumption) | omega) ?_)
          · assumption
          rw [eb, es]
          generalize hX : up (up M2 (ad 17) _) (ad 18) _ = X
          have v3 : gt X (ad 3) = some (auc ad i1 i2 (nI (mn2 s0 s1 b s P).2.2.2) i4) := by rw [← hX]; exact (by repeat (first | assumption | (refine gt_upI ?_; (repeat (first | refine In_up ?_ | refine In_nw ?_)); apply In_of; assumption) | refine gt_rd (by first | assumption | (apply Ne.symm; assumption) | (exact hj _ _ (by omega) (by omega) (by omega)) | omega) ?_ | exact gt_nw (by assumption) | refine gt_odr (by first | assumption | (apply Ne.symm; assumption) | omega) ?_))
          have v6 : gt X (ad 6) = some (ia 0 246 (mn2 s0 s1 b s P).2.2.1) := by rw [← hX]; exact (by repeat (first | assumption | (refine gt_upI ?_; (repeat (first | refine In_up ?_ | refine In_nw ?_)); apply In_of; assumption) | refine gt_rd (by first | assumption | (apply Ne.symm; assumption) | (exact hj _ _ (by omega) (by omega) (by omega)) | omega) ?_ | exact gt_nw (by assumption) | refine gt_odr (by first | assumption | (apply Ne.symm; assumption) | omega) ?_))
          have v17 : gt X (ad 17) = some (ia 0 82 (mn2 s0 s1 b s P).1) := by rw [← hX]; exact (by repeat (first | assumption | (refine gt_upI ?_; (repeat (first | refine In_up ?_ | refine In_nw ?_)); apply In_of; assumption) | refine gt_rd (by first | assumption | (apply Ne.symm; assumption) | (exact hj _ _ (by omega) (by omega) (by omega)) | omega) ?_ | exact gt_nw (by assumption) | refine gt_odr (by first | assumption | (apply Ne.symm; assumption) | omega) ?_))
          have v18 : gt X (ad 18) = some (ia 0 82 (mn2 s0 s1 b s P).2.1) := by rw [← hX]; exact (by repeat (first | assumption | (refine gt_upI ?_; (repeat (first | refine In_up ?_ | refine In_nw ?_)); apply In_of; assumption) | refine gt_rd (by first | assumption | (apply Ne.symm; assumption) | (exact hj _ _ (by omega) (by omega) (by omega)) | omega) ?_ | exact gt_nw (by assumption) | refine gt_odr (by first | assumption | (apply Ne.symm; assumption) | omega) ?_))
          have v9 : gt X (ad 9) = some (ra 4 2 po) := by rw [← hX]; exact (by repeat (first | assumption | (refine gt_upI ?_; (repeat (first | refine In_up ?_ | refine In_nw ?_)); apply In_of; assumption) | refine gt_rd (by first | assumption | (apply Ne.symm; assumption) | (exact hj _ _ (by omega) (by omega) (by omega)) | omega) ?_ | exact gt_nw (by assumption) | refine gt_odr (by first | assumption | (apply Ne.symm; assumption) | omega) ?_))
          have hF3 : Fr (mfr ad) M X := by rw [← hX]; exact (hF2.pt (by simp [mfr])).pt (by simp [mfr])
          refine Ev.ald0 dX0_match_107 ?_
          apply Ev.getf dX0_match_108 fX0_50
          · repeat (first | assumption | (refine gt_upI ?_; (repeat (first | refine In_up ?_ | refine In_nw ?_)); apply In_of; assumption) | refine gt_rd (by first | assumption | (apply Ne.symm; assumption) | (exact hj _ _ (by omega) (by omega) (by omega)) | omega) ?_ | exact gt_nw (by assumption) | refine gt_odr (by first | assumption | (apply Ne.symm; assumption) | omega) ?_)
          · first | rfl | assumption
          refine Ev.iconst (v := 0) dX0_match_111 (by decide) ?_
          apply Ev.arld dX0_match_112
          · repeat (first | assumption | (refine gt_upI ?_; (repeat (first | refine In_up ?_ | refine In_nw ?_)); apply In_of; assumption) | refine gt_rd (by first | assumption | (apply Ne.symm; assumption) | (exact hj _ _ (by omega) (by omega) (by omega)) | omega) ?_ | exact gt_nw (by assumption) | refine gt_odr (by first | assumption | (apply Ne.symm; assumption) | omega) ?_)
          · assumption
          · assumption
          refine Ev.ild1 dX0_match_113 ?_
          apply Ev.iald dX0_match_114
          · repeat (first | assumption | (refine gt_upI ?_; (repeat (first | refine In_up ?_ | refine In_nw ?_)); apply In_of; assumption) | refine gt_rd (by first | assumption | (apply Ne.symm; assumption) | (exact hj _ _ (by omega) (by omega) (by omega)) | omega) ?_ | exact gt_nw (by assumption) | refine gt_odr (by first | assumption | (apply Ne.symm; assumption) | omega) ?_)
          · assumption
          have ev : (mn2 s0 s1 b s P).1 (nI b).toNatClampNeg = P.1 b - mn (P.1 b) (P.2.1 s) := by rw [eb, mn2]; exact pk_us
          rw [ev]
          refine Ev.if_ne (tgt := 124) dX0_match_115 (by decide) (fun c115 => ?_) (fun c115 => ?_)
          · rw [if_neg c115]
            apply Ev.iinc2 dX0_match_124 rfl rfl
            · first | exact nI_inc _ | rfl
            refine Ev.goto (tgt := 9) dX0_match_127 (by decide) ?_
            exact ih b (s + 1) _ _ _ (by omega) hb (by omega) (by omega) ⟨v3, v6, v17, v18⟩ hF3
          · rw [if_pos c115]
            apply Ev.iinc1 dX0_match_118 rfl rfl
            · first | exact nI_inc _ | rfl
            refine Ev.goto (tgt := 127) dX0_match_121 (by decide) ?_
            refine Ev.goto (tgt := 9) dX0_match_127 (by decide) ?_
            exact ih (b + 1) s _ _ _ (by omega) (by omega) hs (by omega) ⟨v3, v6, v17, v18⟩ hF3
        refine Ev.ild1 dX0_match_9 ?_
        refine Ev.ald0 dX0_match_10 ?_
        apply Ev.getf dX0_match_11 fX0_53
        · repeat (first | assumption | (refine gt_upI ?_; (repeat (first | refine In_up ?_ | refine In_nw ?_)); apply In_of; assumption) | refine gt_rd (by first | assumption | (apply Ne.symm; assumption) | (exact hj _ _ (by omega) (by omega) (by omega)) | omega) ?_ | exact gt_nw (by assumption) | refine gt_odr (by first | assumption | (apply Ne.symm; assumption) | omega) ?_)
        · first | rfl | assumption
        refine Ev.iconst (v := 0) dX0_match_14 (by decide) ?_
        apply Ev.iald dX0_match_15
        · repeat (first | assumption | (refine gt_upI ?_; (repeat (first | refine In_up ?_ | refine In_nw ?_)); apply In_of; assumption) | refine gt_rd (by first | assumption | (apply Ne.symm; assumption) | (exact hj _ _ (by omega) (by omega) (by omega)) | omega) ?_ | exact gt_nw (by assumption) | refine gt_odr (by first | assumption | (apply Ne.symm; assumption) | omega) ?_)
        · assumption
        rw [z0, n0]
        refine Ev.icmp_ge (tgt := 130) dX0_match_16 (by decide) (fun c9 => absurd c9 (nI_ge hlt.1 (by omega))) (fun c9 => ?_)
        refine Ev.ild2 dX0_match_19 ?_
        refine Ev.ald0 dX0_match_20 ?_
        apply Ev.getf dX0_match_21 fX0_53
        · repeat (first | assumption | (refine gt_upI ?_; (repeat (first | refine In_up ?_ | refine In_nw ?_)); apply In_of; assumption) | refine gt_rd (by first | assumption | (apply Ne.symm; assumption) | (exact hj _ _ (by omega) (by omega) (by omega)) | omega) ?_ | exact gt_nw (by assumption) | refine gt_odr (by first | assumption | (apply Ne.symm; assumption) | omega) ?_)
        · first | rfl | assumption
        refine Ev.iconst (v := 1) dX0_match_24 (by decide) ?_
        apply Ev.iald dX0_match_25
        · repeat (first | assumption | (refine gt_upI ?_; (repeat (first | refine In_up ?_ | refine In_nw ?_)); apply In_of; assumption) | refine gt_rd (by first | assumption | (apply Ne.symm; assumption) | (exact hj _ _ (by omega) (by omega) (by omega)) | omega) ?_ | exact gt_nw (by assumption) | refine gt_odr (by first | assumption | (apply Ne.symm; assumption) | omega) ?_)
        · assumption
        rw [z1, n1]
        refine Ev.icmp_ge (tgt := 130) dX0_match_26 (by decide) (fun c9 => absurd c9 (nI_ge hlt.2 (by omega))) (fun c9 => ?_)
        refine Ev.ald0 dX0_match_29 ?_
        apply Ev.getf dX0_match_30 fX0_50
        · repeat (first | assumption | (refine gt_upI ?_; (repeat (first | refine In_up ?_ | refine In_nw ?_)); apply In_of; assumption) | refine gt_rd (by first | assumption | (apply Ne.symm; assumption) | (exact hj _ _ (by omega) (by omega) (by omega)) | omega) ?_ | exact gt_nw (by assumption) | refine gt_odr (by first | assumption | (apply Ne.symm; assumption) | omega) ?_)
        · first | rfl | assumption
        refine Ev.iconst (v := 0) dX0_match_33 (by decide) ?_
        apply Ev.arld dX0_match_34
        · repeat (first | assumption | (refine gt_upI ?_; (repeat (first | refine In_up ?_ | refine In_nw ?_)); apply In_of; assumption) | refine gt_rd (by first | assumption | (apply Ne.symm; assumption) | (exact hj _ _ (by omega) (by omega) (by omega)) | omega) ?_ | exact gt_nw (by assumption) | refine gt_odr (by first | assumption | (apply Ne.symm; assumption) | omega) ?_)
        · assumption
        · assumption
        refine Ev.ild1 dX0_match_35 ?_
        apply Ev.iald dX0_match_36
        · repeat (first | assumption | (refine gt_upI ?_; (repeat (first | refine In_up ?_ | refine In_nw ?_)); apply In_of; assumption) | refine gt_rd (by first | assumption | (apply Ne.symm; assumption) | (exact hj _ _ (by omega) (by omega) (by omega)) | omega) ?_ | exact gt_nw (by assumption) | refine gt_odr (by first | assumption | (apply Ne.symm; assumption) | omega) ?_)
        · assumption
        refine Ev.ald0 dX0_match_37 ?_
        apply Ev.getf dX0_match_38 fX0_50
        · repeat (first | assumption | (refine gt_upI ?_; (repeat (first | refine In_up ?_ | refine In_nw ?_)); apply In_of; assumption) | refine gt_rd (by first | assumption | (apply Ne.symm; assumption) | (exact hj _ _ (by omega) (by omega) (by omega)) | omega) ?_ | exact gt_nw (by assumption) | refine gt_odr (by first | assumption | (apply Ne.symm; assumption) | omega) ?_)
        · first | rfl | assumption
        refine Ev.iconst (v := 1) dX0_match_41 (by decide) ?_
        apply Ev.arld dX0_match_42
        · repeat (first | assumption | (refine gt_upI ?_; (repeat (first | refine In_up ?_ | refine In_nw ?_)); apply In_of; assumption) | refine gt_rd (by first | assumption | (apply Ne.symm; assumption) | (exact hj _ _ (by omega) (by omega) (by omega)) | omega) ?_ | exact gt_nw (by assumption) | refine gt_odr (by first | assumption | (apply Ne.symm; assumption) | omega) ?_)
        · assumption
        · assumption
        refine Ev.ild2 dX0_match_43 ?_
        apply Ev.iald dX0_match_44
        · repeat (first | assumption | (refine gt_upI ?_; (repeat (first | refine In_up ?_ | refine In_nw ?_)); apply In_of; assumption) | refine gt_rd (by first | assumption | (apply Ne.symm; assumption) | (exact hj _ _ (by omega) (by omega) (by omega)) | omega) ?_ | exact gt_nw (by assumption) | refine gt_odr (by first | assumption | (apply Ne.symm; assumption) | omega) ?_)
        · assumption
        refine Ev.min dX0_match_45 lX0_149 rfl rfl ?_
        refine Ev.ist3 dX0_match_48 rfl rfl ?_
        refine Ev.ild3 dX0_match_49 ?_
        rw [eb, es]
        by_cases hm : 0 < mn (P.1 b) (P.2.1 s)
        · refine Ev.if_le (tgt := 83) dX0_match_50 (by decide) (fun c9 => absurd c9 (Int32.not_le.mpr hm)) (fun c9 => ?_)
          refine Ev.ald0 dX0_match_53 ?_
          apply Ev.getf dX0_match_54 fX0_36
          · repeat (first | assumption | (refine gt_upI ?_; (repeat (first | refine In_up ?_ | refine In_nw ?_)); apply In_of; assumption) | refine gt_rd (by first | assumption | (apply Ne.symm; assumption) | (exact hj _ _ (by omega) (by omega) (by omega)) | omega) ?_ | exact gt_nw (by assumption) | refine gt_odr (by first | assumption | (apply Ne.symm; assumption) | omega) ?_)
          · first | rfl | assumption
          refine Ev.bipush (v := 82) dX0_match_57 (by decide) ?_
          by_cases h82 : P.2.2.2 < 82
          · refine Ev.icmp_ge (tgt := 83) dX0_match_59 (by decide) (fun c9 => absurd c9 (nI_ge (b := 82) h82 (by omega))) (fun c9 => ?_)
            refine Ev.ald0 dX0_match_62 ?_
            refine Ev.ald0 dX0_match_63 ?_
            apply Ev.getf dX0_match_64 fX0_47
            · repeat (first | assumption | (refine gt_upI ?_; (repeat (first | refine In_up ?_ | refine In_nw ?_)); apply In_of; assumption) | refine gt_rd (by first | assumption | (apply Ne.symm; assumption) | (exact hj _ _ (by omega) (by omega) (by omega)) | omega) ?_ | exact gt_nw (by assumption) | refine gt_odr (by first | assumption | (apply Ne.symm; assumption) | omega) ?_)
            · first | rfl | assumption
            refine Ev.iconst (v := 0) dX0_match_67 (by decide) ?_
            apply Ev.arld dX0_match_68
            · repeat (first | assumption | (refine gt_upI ?_; (repeat (first | refine In_up ?_ | refine In_nw ?_)); apply In_of; assumption) | refine gt_rd (by first | assumption | (apply Ne.symm; assumption) | (exact hj _ _ (by omega) (by omega) (by omega)) | omega) ?_ | exact gt_nw (by assumption) | refine gt_odr (by first | assumption | (apply Ne.symm; assumption) | omega) ?_)
            · assumption
            · assumption
            refine Ev.ild1 dX0_match_69 ?_
            apply Ev.iald dX0_match_70
            · repeat (first | assumption | (refine gt_upI ?_; (repeat (first | refine In_up ?_ | refine In_nw ?_)); apply In_of; assumption) | refine gt_rd (by first | assumption | (apply Ne.symm; assumption) | (exact hj _ _ (by omega) (by omega) (by omega)) | omega) ?_ | exact gt_nw (by assumption) | refine gt_odr (by first | assumption | (apply Ne.symm; assumption) | omega) ?_)
            · assumption
            refine Ev.ald0 dX0_match_71 ?_
            apply Ev.getf dX0_match_72 fX0_47
            · repeat (first | assumption | (refine gt_upI ?_; (repeat (first | refine In_up ?_ | refine In_nw ?_)); apply In_of; assumption) | refine gt_rd (by first | assumption | (apply Ne.symm; assumption) | (exact hj _ _ (by omega) (by omega) (by omega)) | omega) ?_ | exact gt_nw (by assumption) | refine gt_odr (by first | assumption | (apply Ne.symm; assumption) | omega) ?_)
            · first | rfl | assumption
            refine Ev.iconst (v := 1) dX0_match_75 (by decide) ?_
            apply Ev.arld dX0_match_76
            · repeat (first | assumption | (refine gt_upI ?_; (repeat (first | refine In_up ?_ | refine In_nw ?_)); apply In_of; assumption) | refine gt_rd (by first | assumption | (apply Ne.symm; assumption) | (exact hj _ _ (by omega) (by omega) (by omega)) | omega) ?_ | exact gt_nw (by assumption) | refine gt_odr (by first | assumption | (apply Ne.symm; assumption) | omega) ?_)
            · assumption
            · assumption
            refine Ev.ild2 dX0_match_77 ?_
            apply Ev.iald dX0_match_78
            · repeat (first | assumption | (refine gt_upI ?_; (repeat (first | refine In_up ?_ | refine In_nw ?_)); apply In_of; assumption) | refine gt_rd (by first | assumption | (apply Ne.symm; assumption) | (exact hj _ _ (by omega) (by omega) (by omega)) | omega) ?_ | exact gt_nw (by assumption) | refine gt_odr (by first | assumption | (apply Ne.symm; assumption) | omega) ?_)
            · assumption
            refine Ev.ild3 dX0_match_79 ?_
            rw [eb, es]
            refine Ev.cvV (Yc := mX0_noteTrade) (ci := 0) dX0_match_80 lX0_180 vX0_noteTrade rfl (a_noteTrade hj hP0 hF h82) ?_ rfl rfl rfl rfl ?_
            · apply Exists.intro; repeat (first | assumption | (refine gt_upI ?_; (repeat (first | refine In_up ?_ | refine In_nw ?_)); apply In_of; assumption) | refine gt_rd (by first | assumption | (apply Ne.symm; assumption) | (exact hj _ _ (by omega) (by omega) (by omega)) | omega) ?_ | exact gt_nw (by assumption) | refine gt_odr (by first | assumption | (apply Ne.symm; assumption) | omega) ?_)
            rintro M2 ⟨hP2, hF2⟩
            refine J M2 ?_ hF2
            rw [mn1, if_pos ⟨hm, h82⟩]
            exact hP2
          · refine Ev.icmp_ge (tgt := 83) dX0_match_59 (by decide) (fun c9 => ?_) (fun c9 => ?_)
            · exact J M1 (by rw [mn1, if_neg (fun q => h82 q.2)]; exact hP0) hF
            · exact absurd (nI_le (a := 82) (b := P.2.2.2) (by omega) (by omega)) c9
        · refine Ev.if_le (tgt := 83) dX0_match_50 (by decide) (fun c9 => ?_) (fun c9 => absurd (Int32.not_le.mp c9) hm)
          exact J M1 (by rw [mn1, if_neg (fun q => hm q.1)]; exact hP0) hF
      · rw [mlp, if_neg hlt]
        refine Ev.ild1 dX0_match_9 ?_
        refine Ev.ald0 dX0_match_10 ?_
        apply Ev.getf dX0_match_11 fX0_53
        · repeat (first | assumption | (refine gt_upI ?_; (repeat (first | refine In_up ?_ | refine In_nw ?_)); apply In_of; assumption) | refine gt_rd (by first | assumption | (apply Ne.symm; assumption) | (exact hj _ _ (by omega) (by omega) (by omega)) | omega) ?_ | exact gt_nw (by assumption) | refine gt_odr (by first | assumption | (apply Ne.symm; assumption) | omega) ?_)
        · first | rfl | assumption
        refine Ev.iconst (v := 0) dX0_match_14 (by decide) ?_
        apply Ev.iald dX0_match_15
        · repeat (first | assumption | (refine gt_upI ?_; (repeat (first | refine In_up ?_ | refine In_nw ?_)); apply In_of; assumption) | refine gt_rd (by first | assumption | (apply Ne.symm; assumption) | (exact hj _ _ (by omega) (by omega) (by omega)) | omega) ?_ | exact gt_nw (by assumption) | refine gt_odr (by first | assumption | (apply Ne.symm; assumption) | omega) ?_)
        · assumption
        rw [z0, n0]
        by_cases h0 : b < c0
        · refine Ev.icmp_ge (tgt := 130) dX0_match_16 (by decide) (fun c9 => absurd c9 (nI_ge h0 (by omega))) (fun c9 => ?_)
          refine Ev.ild2 dX0_match_19 ?_
          refine Ev.ald0 dX0_match_20 ?_
          apply Ev.getf dX0_match_21 fX0_53
          · repeat (first | assumption | (refine gt_upI ?_; (repeat (first | refine In_up ?_ | refine In_nw ?_)); apply In_of; assumption) | refine gt_rd (by first | assumption | (apply Ne.symm; assumption) | (exact hj _ _ (by omega) (by omega) (by omega)) | omega) ?_ | exact gt_nw (by assumption) | refine gt_odr (by first | assumption | (apply Ne.symm; assumption) | omega) ?_)
          · first | rfl | assumption
          refine Ev.iconst (v := 1) dX0_match_24 (by decide) ?_
          apply Ev.iald dX0_match_25
          · repeat (first | assumption | (refine gt_upI ?_; (repeat (first | refine In_up ?_ | refine In_nw ?_)); apply In_of; assumption) | refine gt_rd (by first | assumption | (apply Ne.symm; assumption) | (exact hj _ _ (by omega) (by omega) (by omega)) | omega) ?_ | exact gt_nw (by assumption) | refine gt_odr (by first | assumption | (apply Ne.symm; assumption) | omega) ?_)
          · assumption
          rw [z1, n1]
          refine Ev.icmp_ge (tgt := 130) dX0_match_26 (by decide) (fun c9 => ?_) (fun c9 => absurd (nI_le (by omega) (by omega)) c9)
          refine Ev.vret dX0_match_130 rfl ?_
          exact ⟨rfl, hP0, hF⟩
        · refine Ev.icmp_ge (tgt := 130) dX0_match_16 (by decide) (fun c9 => ?_) (fun c9 => absurd (nI_le (by omega) (by omega)) c9)
          refine Ev.vret dX0_match_130 rfl ?_
          exact ⟨rfl, hP0, hF⟩
  obtain ⟨h3, h6, h17, h18⟩ := hP
  refine Ct.of (ls := [some (.ref (ad 3)), none, none, none]) (by decide) (by decide) rfl rfl rfl ?_
  refine Ev.ald0 dX0_match_0 ?_
  refine Ev.iconst (v := 0) dX0_match_1 (by decide) ?_
  apply Ev.put dX0_match_2 fX0_36
  · repeat (first | assumption | (refine gt_upI ?_; (repeat (first | refine In_up ?_ | refine In_nw ?_)); apply In_of; assumption) | refine gt_rd (by first | assumption | (apply Ne.symm; assumption) | (exact hj _ _ (by omega) (by omega) (by omega)) | omega) ?_ | exact gt_nw (by assumption) | refine gt_odr (by first | assumption | (apply Ne.symm; assumption) | omega) ?_)
  · rfl
  · rfl
  · rfl
  refine Ev.iconst (v := 0) dX0_match_5 (by decide) ?_
  refine Ev.ist1 dX0_match_6 rfl rfl ?_
  refine Ev.iconst (v := 0) dX0_match_7 (by decide) ?_
  refine Ev.ist2 dX0_match_8 rfl rfl ?_
  refine L (c0 + c1) 0 0 _ (P.1, P.2.1, P.2.2.1, 0) _ (by omega) (by omega) (by omega) (by show 0 ≤ _; omega) ⟨?_, (by repeat (first | assumption | (refine gt_upI ?_; (repeat (first | refine In_up ?_ | refine In_nw ?_)); apply In_of; assumption) | refine gt_rd (by first | assumption | (apply Ne.symm; assumption) | (exact hj _ _ (by omega) (by omega) (by omega)) | omega) ?_ | exact gt_nw (by assumption) | refine gt_odr (by first | assumption | (apply Ne.symm; assumption) | omega) ?_)), (by repeat (first | assumption | (refine gt_upI ?_; (repeat (first | refine In_up ?_ | refine In_nw ?_)); apply In_of; assumption) | refine gt_rd (by first | assumption | (apply Ne.symm; assumption) | (exact hj _ _ (by omega) (by omega) (by omega)) | omega) ?_ | exact gt_nw (by assumption) | refine gt_odr (by first | assumption | (apply Ne.symm; assumption) | omega) ?_)), (by repeat (first | assumption | (refine gt_upI ?_; (repeat (first | refine In_up ?_ | refine In_nw ?_)); apply In_of; assumption) | refine gt_rd (by first | assumption | (apply Ne.symm; assumption) | (exact hj _ _ (by omega) (by omega) (by omega)) | omega) ?_ | exact gt_nw (by assumption) | refine gt_odr (by first | assumption | (apply Ne.symm; assumption) | omega) ?_))⟩ (Fr.rf.pt (by simp [mfr]))
  rw [gt_upI (by (repeat (first | refine In_up ?_ | refine In_nw ?_)); apply In_of; assumption)]
  rfl
end AUI
