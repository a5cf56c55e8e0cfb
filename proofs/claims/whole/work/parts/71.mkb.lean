theorem ux_st {X : Nat → Nat → Int32} {f : Nat} {g h : Nat → Int32} : ux (ux X f g) f h = ux X f h := ux_u
theorem ux_id {X : Nat → Nat → Int32} {f : Nat} {g : Nat → Int32} (h : g = X f) : ux X f g = X := by
  subst h
  funext j
  by_cases e : j = f
  · subst e; rw [ux_s]
  · rw [ux_n e]
/-! the reference keeps what stood, and takes it back -/
section MKB
variable {G : GP} {a : Nat → Nat} {M0 M : Wd} {v : Nat → Int32} {L : Int64} {X : Nat → Nat → Int32} {n : Nat}
set_option maxRecDepth 20000 in
theorem m_kb2 {k : Nat} {vv : Nat → Int32} (hk : k ≤ 11) (hv : vv 3 = nI k) (hZ : MZ a M0 vv L X M) {Q : Option Value → Wd → Prop} (kk : ∀ M', MZ a M0 (upd vv 3 (nI (k + 1))) L (ux X 2 (fun j => if 1189 * k ≤ j ∧ j < 1189 * k + 1189 then X 1 (j - 1189 * k) else X 2 j)) M' → Q none M') (a1 : Option Value) : Ev G mX6_keepsBack 50 [some (.ref (a 0)), a1] [] M 0 0 Q := by
  have LL : ∀ M, MZ a M0 vv L (ux X 2 (fun j => if 1189 * k ≤ j ∧ j < 1189 * k + 0 then X 1 (j - 1189 * k) else X 2 j)) M → Ev G mX6_keepsBack 52 [some (.ref (a 0)), some (.int (nI 0))] [] M 0 0 Q := by
    refine ev_ind 1189 (fun t => ∀ M, MZ a M0 vv L (ux X 2 (fun j => if 1189 * k ≤ j ∧ j < 1189 * k + t then X 1 (j - 1189 * k) else X 2 j)) M → Ev G mX6_keepsBack 52 [some (.ref (a 0)), some (.int (nI t))] [] M 0 0 Q) ?_ ?_
    · intro M hZ
      refine Ev.ild1 dX6_keepsBack_52 ?_
      refine Ev.sipush (v := 1189) dX6_keepsBack_53 (by decide) ?_
      refine Ev.icmp_ge (tgt := 86) dX6_keepsBack_56 (by decide) (fun c56 => ?_) (fun c56 => by first | exact absurd (Int32.le_refl _) c56 | exact absurd c56 (Int32.le_refl _))
      refine Ev.ald0 dX6_keepsBack_86 ?_
      refine Ev.dup dX6_keepsBack_87 rfl ?_
      refine Ev.mgv (kx := 3) dX6_keepsBack_88 fX6_70 hZ rfl ?_
      rw [hv]
      refine Ev.iconst (v := 1) dX6_keepsBack_91 (by decide) ?_
      refine Ev.iadd dX6_keepsBack_92 ?_
      refine Ev.mput (kx := 3) dX6_keepsBack_93 fX6_70 hZ rfl rfl (fun M hZ => ?_)
      refine Ev.vret dX6_keepsBack_96 rfl ?_
      rw [nI_1] at hZ
      exact kk _ hZ
    · intro t ht ih M hZ
      refine Ev.ild1 dX6_keepsBack_52 ?_
      refine Ev.sipush (v := 1189) dX6_keepsBack_53 (by decide) ?_
      refine Ev.icmp_ge (tgt := 86) dX6_keepsBack_56 (by decide) (fun c56 => by first | exact absurd c56 (nI_ge (b := 1189) ht (by decide)) | exact absurd (nI_ge (b := 1189) ht (by decide)) c56) (fun c56 => ?_)
      refine Ev.ald0 dX6_keepsBack_59 ?_
      refine Ev.mgr (kx := 2) dX6_keepsBack_60 fX6_17 hZ rfl ?_
      refine Ev.sipush (v := 1189) dX6_keepsBack_63 (by decide) ?_
      refine Ev.ald0 dX6_keepsBack_66 ?_
      refine Ev.mgv (kx := 3) dX6_keepsBack_67 fX6_70 hZ rfl ?_
      rw [hv]
      refine Ev.imul dX6_keepsBack_70 ?_
      refine Ev.ild1 dX6_keepsBack_71 ?_
      refine Ev.iadd dX6_keepsBack_72 ?_
      refine Ev.ald0 dX6_keepsBack_73 ?_
      refine Ev.mgr (kx := 1) dX6_keepsBack_74 fX6_13 hZ rfl ?_
      refine Ev.ild1 dX6_keepsBack_77 ?_
      refine Ev.mld (j := t) mq1 dX6_keepsBack_78 hZ (by first | assumption | (simp only [nI, Int32.ofNat_add, Int32.ofNat_mul]; done) | (simp only [nI, Int32.ofNat_add, Int32.ofNat_mul]; rfl) | rfl) (by omega) ?_
      refine Ev.mst (j := ((1189 * k) + t)) mq2 dX6_keepsBack_79 hZ (by first | assumption | (simp only [nI, Int32.ofNat_add, Int32.ofNat_mul]; done) | (simp only [nI, Int32.ofNat_add, Int32.ofNat_mul]; rfl) | rfl) (by omega) (fun M hZ => ?_)
      apply Ev.iinc1 dX6_keepsBack_80 rfl rfl
      · first | exact nI_inc _ | rfl
      refine Ev.goto (tgt := 52) dX6_keepsBack_83 (by decide) ?_
      refine ih M (hZ.xc rfl (ux_u.trans (congrArg (ux X 2) (funext fun j => ?_))))
      simp only [upd, ux_s, ux_n (show (1 : Nat) ≠ 2 by decide)]
      by_cases e : j = 1189 * k + t
      · rw [if_pos e, if_pos (by omega), e, Nat.add_sub_cancel_left]
      · rw [if_neg e]
        by_cases e2 : 1189 * k ≤ j ∧ j < 1189 * k + t
        · rw [if_pos e2, if_pos (by omega)]
        · rw [if_neg e2, if_neg (by omega)]
  refine Ev.iconst (v := 0) dX6_keepsBack_50 (by decide) ?_
  refine Ev.ist1 dX6_keepsBack_51 rfl rfl ?_
  refine LL M (hZ.xc rfl (ux_id (funext fun j => ?_)).symm)
  rw [if_neg (by omega)]
set_option maxRecDepth 20000 in
theorem m_keepsBack {k : Nat} (hk : k ≤ 12) (hv : v 3 = nI k) (hZ : MZ a M0 v L X M) : CtV G mX6_keepsBack [.ref (a 0)] M 0 0 (fun M' => ∃ B : Nat → Int32, MZ a M0 (upd v 3 (nI (if k = 12 then 12 else k + 1))) L (ux X 2 B) M' ∧ (∀ j, j < 1189 → B (1189 * (if k = 12 then 11 else k) + j) = X 1 j) ∧ ∀ j, j < 1189 * (if k = 12 then 11 else k) → B j = X 2 (j + (if k = 12 then 1189 else 0))) := by
  by_cases h12 : k = 12
  · subst h12
    have LL : ∀ M, MZ a M0 v L (ux X 2 (fun j => if j < 0 then X 2 (j + 1189) else X 2 j)) M → Ev G mX6_keepsBack 11 [some (.ref (a 0)), some (.int (nI 0))] [] M 0 0 (fun u M' => u = none ∧ ∃ B : Nat → Int32, MZ a M0 (upd v 3 (nI (if 12 = 12 then 12 else 12 + 1))) L (ux X 2 B) M' ∧ (∀ j, j < 1189 → B (1189 * (if 12 = 12 then 11 else 12) + j) = X 1 j) ∧ ∀ j, j < 1189 * (if 12 = 12 then 11 else 12) → B j = X 2 (j + (if 12 = 12 then 1189 else 0))) := by
      refine ev_ind 13079 (fun t => ∀ M, MZ a M0 v L (ux X 2 (fun j => if j < t then X 2 (j + 1189) else X 2 j)) M → Ev G mX6_keepsBack 11 [some (.ref (a 0)), some (.int (nI t))] [] M 0 0 _) ?_ ?_
      · intro M hZ
        have e11 : (12 : Int32) - 1 = nI 11 := by decide
        have hv2 : v 3 = 12 := hv
        refine Ev.ild1 dX6_keepsBack_11 ?_
        refine Ev.sipush (v := 13079) dX6_keepsBack_12 (by decide) ?_
        refine Ev.icmp_ge (tgt := 40) dX6_keepsBack_15 (by decide) (fun c15 => ?_) (fun c15 => by first | exact absurd (Int32.le_refl _) c15 | exact absurd c15 (Int32.le_refl _))
        refine Ev.ald0 dX6_keepsBack_40 ?_
        refine Ev.dup dX6_keepsBack_41 rfl ?_
        refine Ev.mgv (kx := 3) dX6_keepsBack_42 fX6_70 hZ rfl ?_
        rw [hv2]
        refine Ev.iconst (v := 1) dX6_keepsBack_45 (by decide) ?_
        refine Ev.isub dX6_keepsBack_46 ?_
        rw [e11]
        refine Ev.mput (kx := 3) dX6_keepsBack_47 fX6_70 hZ rfl rfl (fun M hZ => ?_)
        refine m_kb2 (k := 11) (by omega) rfl hZ (fun M' hZ' => ⟨rfl, _, hZ'.xc (funext fun j => ?_) ux_u, ?_, ?_⟩) _
        · simp only [upd]
          split <;> rfl
        · intro j hj
          simp only [if_true]
          rw [if_pos (by omega), Nat.add_sub_cancel_left, ux_n (by decide)]
        · intro j hj
          simp only [if_true] at hj ⊢
          rw [if_neg (by omega), ux_s, if_pos (by omega)]
      · intro t ht ih M hZ
        refine Ev.ild1 dX6_keepsBack_11 ?_
        refine Ev.sipush (v := 13079) dX6_keepsBack_12 (by decide) ?_
        refine Ev.icmp_ge (tgt := 40) dX6_keepsBack_15 (by decide) (fun c15 => by first | exact absurd c15 (nI_ge (b := 13079) ht (by decide)) | exact absurd (nI_ge (b := 13079) ht (by decide)) c15) (fun c15 => ?_)
        refine Ev.ald0 dX6_keepsBack_18 ?_
        refine Ev.mgr (kx := 2) dX6_keepsBack_19 fX6_17 hZ rfl ?_
        refine Ev.ild1 dX6_keepsBack_22 ?_
        refine Ev.ald0 dX6_keepsBack_23 ?_
        refine Ev.mgr (kx := 2) dX6_keepsBack_24 fX6_17 hZ rfl ?_
        refine Ev.ild1 dX6_keepsBack_27 ?_
        refine Ev.sipush (v := 1189) dX6_keepsBack_28 (by decide) ?_
        refine Ev.iadd dX6_keepsBack_31 ?_
        refine Ev.mld (j := (t + 1189)) mq2 dX6_keepsBack_32 hZ (by first | assumption | (simp only [nI, Int32.ofNat_add, Int32.ofNat_mul]; done) | (simp only [nI, Int32.ofNat_add, Int32.ofNat_mul]; rfl) | rfl) (by omega) ?_
        refine Ev.mst (j := t) mq2 dX6_keepsBack_33 hZ (by first | assumption | (simp only [nI, Int32.ofNat_add, Int32.ofNat_mul]; done) | (simp only [nI, Int32.ofNat_add, Int32.ofNat_mul]; rfl) | rfl) (by omega) (fun M hZ => ?_)
        apply Ev.iinc1 dX6_keepsBack_34 rfl rfl
        · first | exact nI_inc _ | rfl
        refine Ev.goto (tgt := 11) dX6_keepsBack_37 (by decide) ?_
        refine ih M (hZ.xc rfl (ux_u.trans (congrArg (ux X 2) (funext fun j => ?_))))
        simp only [upd, ux_s]
        by_cases e : j = t
        · rw [if_pos e, if_neg (by omega), if_pos (by omega), e]
        · rw [if_neg e]
          by_cases e2 : j < t
          · rw [if_pos e2, if_pos (by omega)]
          · rw [if_neg e2, if_neg (by omega)]
    refine Ct.of (ls := [some (.ref (a 0)), none]) (by decide) (by decide) rfl rfl rfl ?_
    refine Ev.ald0 dX6_keepsBack_0 ?_
    refine Ev.mgv (kx := 3) dX6_keepsBack_1 fX6_70 hZ rfl ?_
    rw [hv]
    refine Ev.bipush (v := 12) dX6_keepsBack_4 (by decide) ?_
    refine Ev.icmp_ne (tgt := 50) dX6_keepsBack_6 (by decide) (fun c6 => by first | exact absurd c6 (fun q => q rfl) | exact absurd (fun q => q rfl) c6) (fun c6 => ?_)
    refine Ev.iconst (v := 0) dX6_keepsBack_9 (by decide) ?_
    refine Ev.ist1 dX6_keepsBack_10 rfl rfl ?_
    refine LL M (hZ.xc rfl (ux_id (funext fun j => ?_)).symm)
    rw [if_neg (by omega)]
  · have hne : ¬ nI k = 12 := fun q => h12 ((nI_eq (by omega) (by omega)).mp (q.trans (show (12 : Int32) = nI 12 from rfl)))
    simp only [if_neg h12]
    refine Ct.of (ls := [some (.ref (a 0)), none]) (by decide) (by decide) rfl rfl rfl ?_
    refine Ev.ald0 dX6_keepsBack_0 ?_
    refine Ev.mgv (kx := 3) dX6_keepsBack_1 fX6_70 hZ rfl ?_
    rw [hv]
    refine Ev.bipush (v := 12) dX6_keepsBack_4 (by decide) ?_
    refine Ev.icmp_ne (tgt := 50) dX6_keepsBack_6 (by decide) (fun c6 => ?_) (fun c6 => by first | exact absurd hne c6 | exact absurd c6 hne)
    refine m_kb2 (k := k) (by omega) hv hZ (fun M' hZ' => ⟨rfl, _, hZ', ?_, ?_⟩) _
    · intro j hj
      rw [if_pos (by omega), Nat.add_sub_cancel_left]
    · intro j hj
      rw [if_neg (by omega)]
      rfl
set_option maxRecDepth 20000 in
theorem m_back0 (hv : v 3 = 0) (hZ : MZ a M0 v L X M) : CtI G mX6_back [.ref (a 0)] M 0 0 (fun x M' => x = 0 ∧ MZ a M0 (upd v 0 0) L X M') := by
  refine Ct.of (ls := [some (.ref (a 0)), none]) (by decide) (by decide) rfl rfl rfl ?_
  refine Ev.ald0 dX6_back_0 ?_
  refine Ev.iconst (v := 0) dX6_back_1 (by decide) ?_
  refine Ev.mput (kx := 0) dX6_back_2 fX6_1 hZ rfl rfl (fun M hZ => ?_)
  refine Ev.ald0 dX6_back_5 ?_
  refine Ev.mgv (kx := 3) dX6_back_6 fX6_70 hZ rfl ?_
  refine Ev.if_ne (tgt := 14) dX6_back_9 (by decide) (fun c9 => by first | exact absurd c9 (fun q => q hv) | exact absurd (fun q => q hv) c9) (fun c9 => ?_)
  refine Ev.iconst (v := 0) dX6_back_12 (by decide) ?_
  refine Ev.iret dX6_back_13 rfl rfl ?_
  exact ⟨_, rfl, rfl, hZ⟩
set_option maxRecDepth 20000 in
theorem m_back1 {k : Nat} (hk : k ≤ 11) (hv : v 3 = nI (k + 1)) (hZ : MZ a M0 v L X M) : CtI G mX6_back [.ref (a 0)] M 0 0 (fun x M' => x = 1 ∧ MZ a M0 (upd (upd v 0 0) 3 (nI k)) L (ux X 1 (fun j => if j < 1189 then X 2 (1189 * k + j) else X 1 j)) M') := by
  have LL : ∀ M, MZ a M0 (upd (upd v 0 0) 3 (nI k)) L (ux X 1 (fun j => if j < 0 then X 2 (1189 * k + j) else X 1 j)) M → Ev G mX6_back 26 [some (.ref (a 0)), some (.int (nI 0))] [] M 0 0 (fun u M' => ∃ x, u = some (.int x) ∧ x = 1 ∧ MZ a M0 (upd (upd v 0 0) 3 (nI k)) L (ux X 1 (fun j => if j < 1189 then X 2 (1189 * k + j) else X 1 j)) M') := by
    refine ev_ind 1189 (fun t => ∀ M, MZ a M0 (upd (upd v 0 0) 3 (nI k)) L (ux X 1 (fun j => if j < t then X 2 (1189 * k + j) else X 1 j)) M → Ev G mX6_back 26 [some (.ref (a 0)), some (.int (nI t))] [] M 0 0 _) ?_ ?_
    · intro M hZ
      refine Ev.ild1 dX6_back_26 ?_
      refine Ev.sipush (v := 1189) dX6_back_27 (by decide) ?_
      refine Ev.icmp_ge (tgt := 60) dX6_back_30 (by decide) (fun c30 => ?_) (fun c30 => by first | exact absurd (Int32.le_refl _) c30 | exact absurd c30 (Int32.le_refl _))
      refine Ev.iconst (v := 1) dX6_back_60 (by decide) ?_
      refine Ev.iret dX6_back_61 rfl rfl ?_
      exact ⟨_, rfl, rfl, hZ⟩
    · intro t ht ih M hZ
      have e3 : upd (upd v 0 0) 3 (nI k) 3 = nI k := rfl
      refine Ev.ild1 dX6_back_26 ?_
      refine Ev.sipush (v := 1189) dX6_back_27 (by decide) ?_
      refine Ev.icmp_ge (tgt := 60) dX6_back_30 (by decide) (fun c30 => by first | exact absurd c30 (nI_ge (b := 1189) ht (by decide)) | exact absurd (nI_ge (b := 1189) ht (by decide)) c30) (fun c30 => ?_)
      refine Ev.ald0 dX6_back_33 ?_
      refine Ev.mgr (kx := 1) dX6_back_34 fX6_13 hZ rfl ?_
      refine Ev.ild1 dX6_back_37 ?_
      refine Ev.ald0 dX6_back_38 ?_
      refine Ev.mgr (kx := 2) dX6_back_39 fX6_17 hZ rfl ?_
      refine Ev.sipush (v := 1189) dX6_back_42 (by decide) ?_
      refine Ev.ald0 dX6_back_45 ?_
      refine Ev.mgv (kx := 3) dX6_back_46 fX6_70 hZ rfl ?_
      rw [e3]
      refine Ev.imul dX6_back_49 ?_
      refine Ev.ild1 dX6_back_50 ?_
      refine Ev.iadd dX6_back_51 ?_
      refine Ev.mld (j := ((1189 * k) + t)) mq2 dX6_back_52 hZ (by first | assumption | (simp only [nI, Int32.ofNat_add, Int32.ofNat_mul]; done) | (simp only [nI, Int32.ofNat_add, Int32.ofNat_mul]; rfl) | rfl) (by omega) ?_
      refine Ev.mst (j := t) mq1 dX6_back_53 hZ (by first | assumption | (simp only [nI, Int32.ofNat_add, Int32.ofNat_mul]; done) | (simp only [nI, Int32.ofNat_add, Int32.ofNat_mul]; rfl) | rfl) (by omega) (fun M hZ => ?_)
      apply Ev.iinc1 dX6_back_54 rfl rfl
      · first | exact nI_inc _ | rfl
      refine Ev.goto (tgt := 26) dX6_back_57 (by decide) ?_
      refine ih M (hZ.xc rfl (ux_u.trans (congrArg (ux X 1) (funext fun j => ?_))))
      simp only [upd, ux_s, ux_n (show (2 : Nat) ≠ 1 by decide)]
      by_cases e : j = t
      · rw [if_pos e, if_pos (by omega), e]
      · rw [if_neg e]
        by_cases e2 : j < t
        · rw [if_pos e2, if_pos (by omega)]
        · rw [if_neg e2, if_neg (by omega)]
  have hne : ¬ v 3 = 0 := by rw [hv]; exact nI_ne0 (by omega) (by omega)
  have e4 : v 3 - 1 = nI k := by rw [hv]; exact nI_pred k
  refine Ct.of (ls := [some (.ref (a 0)), none]) (by decide) (by decide) rfl rfl rfl ?_
  refine Ev.ald0 dX6_back_0 ?_
  refine Ev.iconst (v := 0) dX6_back_1 (by decide) ?_
  refine Ev.mput (kx := 0) dX6_back_2 fX6_1 hZ rfl rfl (fun M hZ => ?_)
  refine Ev.ald0 dX6_back_5 ?_
  refine Ev.mgv (kx := 3) dX6_back_6 fX6_70 hZ rfl ?_
  refine Ev.if_ne (tgt := 14) dX6_back_9 (by decide) (fun c9 => ?_) (fun c9 => by first | exact absurd hne c9 | exact absurd c9 hne)
  refine Ev.ald0 dX6_back_14 ?_
  refine Ev.dup dX6_back_15 rfl ?_
  refine Ev.mgv (kx := 3) dX6_back_16 fX6_70 hZ rfl ?_
  refine Ev.iconst (v := 1) dX6_back_19 (by decide) ?_
  refine Ev.isub dX6_back_20 ?_
  refine Ev.mput (kx := 3) dX6_back_21 fX6_70 hZ rfl rfl (fun M hZ => ?_)
  refine Ev.iconst (v := 0) dX6_back_24 (by decide) ?_
  refine Ev.ist1 dX6_back_25 rfl rfl ?_
  refine LL M (hZ.xc ?_ (ux_id (funext fun j => ?_)).symm)
  · rw [← e4]
    rfl
  · rw [if_neg (by omega)]
end MKB
