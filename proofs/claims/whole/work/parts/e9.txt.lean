/-! the whole text read -/
def Rd0 (a b h r w n : Nat) (c : Nat → Nat) (M : Wd) (q : Nat ⊕ Ps) (y : Int32) (X : Wd) : Prop := match q with
  | .inl F => y = nI F ∧ BdP a b h r w n c M X F
  | .inr s => y = 0 ∧ ∃ v, OnP a b h r w n c M X s s.1 v
section TXT
variable {G : GP} {M X : Wd} {a b h r w n : Nat} {c : Nat → Nat} {t : Nat → Int32} {s : Ps} {v : Int32}
abbrev QD (a b h r w n : Nat) (c : Nat → Nat) (M : Wd) (q : Nat ⊕ Ps) : Option Value → Wd → Prop := fun u M' => ∃ y : Int32, u = some (.int y) ∧ Rd0 a b h r w n c M q y M'
set_option maxRecDepth 20000 in
theorem r_b48 {F i : Nat} {x1 : Option Value} (hi : i ≤ 801) (hB : BdP a b h r w n c M X F) : Ev G mX4_read 48 [some (.ref a), x1, some (.ref h), some (.int (nI i))] [] X 0 0 (QD a b h r w n c M (.inl F)) := by
  have hB0 := hB
  obtain ⟨b1, b2, hF, p, v, hr, hc, hp, hA, -⟩ := hB
  have out : Ev G mX4_read 100 [some (.ref a), x1, some (.ref h), some (.int (nI i))] [] X 0 0 (QD a b h r w n c M (.inl F)) := by
    refine Ev.ald0 dX4_read_100 ?_
    apply Ev.getf dX4_read_101 fX4_34
    · repeat (first | assumption | (refine gt_upI ?_; (repeat (first | exact In_of (gt_nw (by assumption)) | (apply In_of; assumption) | refine In_up ?_ | refine In_nw ?_)); done) | refine gt_rd (by first | assumption | (apply Ne.symm; assumption) | (exact hj _ _ (by omega) (by omega) (by omega)) | omega) ?_ | exact gt_nw (by assumption) | refine gt_odr (by first | assumption | (apply Ne.symm; assumption) | omega) ?_)
    · first | rfl | assumption
    refine Ev.iret dX4_read_104 rfl rfl ?_
    exact ⟨_, rfl, rfl, hB0⟩
  refine Ev.ild3 dX4_read_48 ?_
  refine Ev.sipush (v := 800) dX4_read_49 (by decide) ?_
  refine Ev.icmp_ge (tgt := 100) dX4_read_52 (by decide) (fun c52 => ?_) (fun c52 => ?_)
  · exact out
  · refine Ev.ald0 dX4_read_55 ?_
    apply Ev.getf dX4_read_56 fX4_34
    · repeat (first | assumption | (refine gt_upI ?_; (repeat (first | exact In_of (gt_nw (by assumption)) | (apply In_of; assumption) | refine In_up ?_ | refine In_nw ?_)); done) | refine gt_rd (by first | assumption | (apply Ne.symm; assumption) | (exact hj _ _ (by omega) (by omega) (by omega)) | omega) ?_ | exact gt_nw (by assumption) | refine gt_odr (by first | assumption | (apply Ne.symm; assumption) | omega) ?_)
    · first | rfl | assumption
    refine Ev.if_ne (tgt := 100) dX4_read_59 (by decide) (fun _ => out) (fun c9 => absurd ((nI_eq (b := 0) (by omega) (by omega)).mp c9) b1)
set_option maxRecDepth 20000 in
theorem r_g48 {x1 : Option Value} (H : HCt a b h r n c t M) : ∀ (e i : Nat) (s : Ps) (v : Int32) (X : Wd), i + e ≤ 800 → mul s < e → OnP a b h r w n c M X s s.1 v → Ev G mX4_read 48 [some (.ref a), x1, some (.ref h), some (.int (nI i))] [] X 0 0 (QD a b h r w n c M (lns c n e s)) := by
  intro e
  induction e with
  | zero => intro i s v X _ hm; omega
  | succ e ih =>
    intro i s v X hi hm hO
    have hO0 := hO
    obtain ⟨hF, hp, hv, hA, hN4, f2, g1, g2, g3⟩ := hO
    have hn := H.2.1
    have hT := H.2.2.2
    have hb := H.gb hF
    have h4 := tkT_le4 (c := c) (n := n) (p := s.1)
    have hA1 := tkA_le (c := c) hp
    have hE1 := tkE_le (c := c) hp
    have n0 : nI (tkT c n s.1) = 0 ↔ tkT c n s.1 = 0 := nI_eq (b := 0) (by omega) (by omega)
    have n3 : nI (tkT c n s.1) = 3 ↔ tkT c n s.1 = 3 := nI_eq (b := 3) (by omega) (by omega)
    rw [lns]
    refine Ev.ild3 dX4_read_48 ?_
    refine Ev.sipush (v := 800) dX4_read_49 (by decide) ?_
    refine Ev.icmp_ge (tgt := 100) dX4_read_52 (by decide) (fun c9 => absurd ((nI_leI (a := 800) (by omega) (by omega)).mp c9) (by omega)) (fun _ => ?_)
    refine Ev.ald0 dX4_read_55 ?_
    apply Ev.getf dX4_read_56 fX4_34
    · repeat (first | assumption | (refine gt_upI ?_; (repeat (first | exact In_of (gt_nw (by assumption)) | (apply In_of; assumption) | refine In_up ?_ | refine In_nw ?_)); done) | refine gt_rd (by first | assumption | (apply Ne.symm; assumption) | (exact hj _ _ (by omega) (by omega) (by omega)) | omega) ?_ | exact gt_nw (by assumption) | refine gt_odr (by first | assumption | (apply Ne.symm; assumption) | omega) ?_)
    · first | rfl | assumption
    refine Ev.if_ne (tgt := 100) dX4_read_59 (by decide) (fun c9 => absurd rfl c9) (fun _ => ?_)
    refine Ev.ald0 dX4_read_62 ?_
    apply Ev.getf dX4_read_63 fX4_28
    · repeat (first | assumption | (refine gt_upI ?_; (repeat (first | exact In_of (gt_nw (by assumption)) | (apply In_of; assumption) | refine In_up ?_ | refine In_nw ?_)); done) | refine gt_rd (by first | assumption | (apply Ne.symm; assumption) | (exact hj _ _ (by omega) (by omega) (by omega)) | omega) ?_ | exact gt_nw (by assumption) | refine gt_odr (by first | assumption | (apply Ne.symm; assumption) | omega) ?_)
    · first | rfl | assumption
    refine Ev.if_eq (tgt := 100) dX4_read_66 (by decide) (fun c66 => ?_) (fun c66 => ?_)
    · have t0 := n0.mp c66
      rw [if_neg (show ¬ tkT c n s.1 = 3 by omega), if_pos t0]
      refine Ev.ald0 dX4_read_100 ?_
      apply Ev.getf dX4_read_101 fX4_34
      · repeat (first | assumption | (refine gt_upI ?_; (repeat (first | exact In_of (gt_nw (by assumption)) | (apply In_of; assumption) | refine In_up ?_ | refine In_nw ?_)); done) | refine gt_rd (by first | assumption | (apply Ne.symm; assumption) | (exact hj _ _ (by omega) (by omega) (by omega)) | omega) ?_ | exact gt_nw (by assumption) | refine gt_odr (by first | assumption | (apply Ne.symm; assumption) | omega) ?_)
      · first | rfl | assumption
      refine Ev.iret dX4_read_104 rfl rfl ?_
      exact ⟨_, rfl, rfl, v, hO0⟩
    · have t0 : ¬ tkT c n s.1 = 0 := fun z => c66 (n0.mpr z)
      refine Ev.ald0 dX4_read_69 ?_
      apply Ev.getf dX4_read_70 fX4_28
      · repeat (first | assumption | (refine gt_upI ?_; (repeat (first | exact In_of (gt_nw (by assumption)) | (apply In_of; assumption) | refine In_up ?_ | refine In_nw ?_)); done) | refine gt_rd (by first | assumption | (apply Ne.symm; assumption) | (exact hj _ _ (by omega) (by omega) (by omega)) | omega) ?_ | exact gt_nw (by assumption) | refine gt_odr (by first | assumption | (apply Ne.symm; assumption) | omega) ?_)
      · first | rfl | assumption
      refine Ev.iconst (v := 3) dX4_read_73 (by decide) ?_
      refine Ev.icmp_ne (tgt := 89) dX4_read_74 (by decide) (fun c74 => ?_) (fun c74 => ?_)
      · have t3 : ¬ tkT c n s.1 = 3 := fun z => c74 (n3.mpr z)
        rw [if_neg t3, if_neg t0]
        refine Ev.ald0 dX4_read_89 ?_
        refine Ev.iconst (v := 1) dX4_read_90 (by decide) ?_
        refine Ev.cvV (Yc := mX4_fail) (ci := 4) dX4_read_91 lX4_57 vX4_fail rfl (t_fail 1 rfl (by omega) (by omega) hn hp (by omega) hA) ?_ rfl rfl rfl rfl ?_
        · apply Exists.intro; repeat (first | assumption | (refine gt_upI ?_; (repeat (first | exact In_of (gt_nw (by assumption)) | (apply In_of; assumption) | refine In_up ?_ | refine In_nw ?_)); done) | refine gt_rd (by first | assumption | (apply Ne.symm; assumption) | (exact hj _ _ (by omega) (by omega) (by omega)) | omega) ?_ | exact gt_nw (by assumption) | refine gt_odr (by first | assumption | (apply Ne.symm; assumption) | omega) ?_)
        rintro M2 rfl
        rw [if_pos rfl]
        apply Ev.iinc3 dX4_read_94 rfl rfl
        · first | exact nI_inc _ | rfl
        refine Ev.goto (tgt := 48) dX4_read_97 (by decide) ?_
        exact r_b48 (by omega) (hO0.bad H hp (by omega) (by omega))
      · have t3 := n3.mp c74
        have eE : xtE c n s.1 = tkE c n s.1 := xtE_E (by omega)
        rw [if_pos t3]
        refine Ev.ald0 dX4_read_77 ?_
        refine Ev.cvV (Yc := mX4_next) (ci := 4) dX4_read_78 lX4_50 vX4_next rfl (t_next hA hb H.1.1 hn (xtE_le hp).2 hT) ?_ rfl rfl rfl rfl ?_
        · apply Exists.intro; repeat (first | assumption | (refine gt_upI ?_; (repeat (first | exact In_of (gt_nw (by assumption)) | (apply In_of; assumption) | refine In_up ?_ | refine In_nw ?_)); done) | refine gt_rd (by first | assumption | (apply Ne.symm; assumption) | (exact hj _ _ (by omega) (by omega) (by omega)) | omega) ?_ | exact gt_nw (by assumption) | refine gt_odr (by first | assumption | (apply Ne.symm; assumption) | omega) ?_)
        rintro M1 ⟨v1, hv1, rfl⟩
        rw [eE] at hv1 ⊢
        have hO1 : OnP a b h r w n c M (up X a (tk b c n (tkE c n s.1) v1 0 (hrv s) (hcv s))) (tkE c n s.1, s.2) (tkE c n s.1) v1 := hO0.mv H hE1.2 hv1
        refine Ev.ald0 dX4_read_81 ?_
        refine Ev.ald2 dX4_read_82 ?_
        refine Ev.cvV (Yc := mX4_readLine) (ci := 4) dX4_read_83 lX4_53 vX4_readLine rfl (t_readLine H hO1) ?_ rfl rfl rfl rfl ?_
        · apply Exists.intro; repeat (first | assumption | (refine gt_upI ?_; (repeat (first | exact In_of (gt_nw (by assumption)) | (apply In_of; assumption) | refine In_up ?_ | refine In_nw ?_)); done) | refine gt_rd (by first | assumption | (apply Ne.symm; assumption) | (exact hj _ _ (by omega) (by omega) (by omega)) | omega) ?_ | exact gt_nw (by assumption) | refine gt_odr (by first | assumption | (apply Ne.symm; assumption) | omega) ?_)
        rintro M2 hR
        cases hl : lin c n (tkE c n s.1, s.2) with
        | inl F =>
          rw [hl] at hR
          refine Ev.goto (tgt := 94) dX4_read_86 (by decide) ?_
          apply Ev.iinc3 dX4_read_94 rfl rfl
          · first | exact nI_inc _ | rfl
          refine Ev.goto (tgt := 48) dX4_read_97 (by decide) ?_
          exact r_b48 (by omega) hR
        | inr s' =>
          rw [hl] at hR
          obtain ⟨v2, hO2⟩ := hR
          have hmu := lin_mu hl hN4
          have hms : mul (tkE c n s.1, s.2) = mul s := rfl
          refine Ev.goto (tgt := 94) dX4_read_86 (by decide) ?_
          apply Ev.iinc3 dX4_read_94 rfl rfl
          · first | exact nI_inc _ | rfl
          refine Ev.goto (tgt := 48) dX4_read_97 (by decide) ?_
          exact ih (i + 1) s' v2 M2 (by omega) (by omega) hO2
set_option maxRecDepth 20000 in
theorem t_read {sz : Nat} {en st af ty v f hr hc : Int32} {f2 : Nat → Int32} (H : HCt a b h r n c t M) (hA : gt M a = some (tc b (nI sz) en st af ty v f hr hc)) (hnz : n ≤ sz) (hsz : sz ≤ 800) (hH : gt M h = some (bk r w 0 0 100 1 999)) (hR : gt M r = some (ia 0 328 f2)) : CtI G mX4_read [.ref a, .int (nI n), .ref h] M 0 0 (fun y M' => Rd0 a b h r w n c M (prs0 c n (fun _ => 0)) y M') := by
  have em : (if nI sz < nI n then nI sz else nI n) = nI n := by
    rw [if_neg]
    intro z
    have := (nI_ltI (by omega) (by omega)).mp z
    omega
  refine Ct.of (ls := [some (.ref a), some (.int (nI n)), some (.ref h), none]) (by decide) (by decide) rfl rfl rfl ?_
  refine Ev.ald0 dX4_read_0 ?_
  refine Ev.ild1 dX4_read_1 ?_
  refine Ev.ald0 dX4_read_2 ?_
  apply Ev.getf dX4_read_3 fX4_9
  · repeat (first | assumption | (refine gt_upI ?_; (repeat (first | exact In_of (gt_nw (by assumption)) | (apply In_of; assumption) | refine In_up ?_ | refine In_nw ?_)); done) | refine gt_rd (by first | assumption | (apply Ne.symm; assumption) | (exact hj _ _ (by omega) (by omega) (by omega)) | omega) ?_ | exact gt_nw (by assumption) | refine gt_odr (by first | assumption | (apply Ne.symm; assumption) | omega) ?_)
  · first | rfl | assumption
  refine Ev.min dX4_read_6 lX4_44 rfl rfl ?_
  rw [em]
  apply Ev.put dX4_read_9 fX4_19
  · repeat (first | assumption | (refine gt_upI ?_; (repeat (first | exact In_of (gt_nw (by assumption)) | (apply In_of; assumption) | refine In_up ?_ | refine In_nw ?_)); done) | refine gt_rd (by first | assumption | (apply Ne.symm; assumption) | (exact hj _ _ (by omega) (by omega) (by omega)) | omega) ?_ | exact gt_nw (by assumption) | refine gt_odr (by first | assumption | (apply Ne.symm; assumption) | omega) ?_)
  · rfl
  · rfl
  · rfl
  refine Ev.ald0 dX4_read_12 ?_
  refine Ev.iconst (v := 0) dX4_read_13 (by decide) ?_
  apply Ev.put dX4_read_14 fX4_9
  · repeat (first | assumption | (refine gt_upI ?_; (repeat (first | exact In_of (gt_nw (by assumption)) | (apply In_of; assumption) | refine In_up ?_ | refine In_nw ?_)); done) | refine gt_rd (by first | assumption | (apply Ne.symm; assumption) | (exact hj _ _ (by omega) (by omega) (by omega)) | omega) ?_ | exact gt_nw (by assumption) | refine gt_odr (by first | assumption | (apply Ne.symm; assumption) | omega) ?_)
  · rfl
  · rfl
  · rfl
  refine Ev.ald0 dX4_read_17 ?_
  refine Ev.iconst (v := 0) dX4_read_18 (by decide) ?_
  apply Ev.put dX4_read_19 fX4_25
  · repeat (first | assumption | (refine gt_upI ?_; (repeat (first | exact In_of (gt_nw (by assumption)) | (apply In_of; assumption) | refine In_up ?_ | refine In_nw ?_)); done) | refine gt_rd (by first | assumption | (apply Ne.symm; assumption) | (exact hj _ _ (by omega) (by omega) (by omega)) | omega) ?_ | exact gt_nw (by assumption) | refine gt_odr (by first | assumption | (apply Ne.symm; assumption) | omega) ?_)
  · rfl
  · rfl
  · rfl
  refine Ev.ald0 dX4_read_22 ?_
  refine Ev.iconst (v := 0) dX4_read_23 (by decide) ?_
  apply Ev.put dX4_read_24 fX4_34
  · repeat (first | assumption | (refine gt_upI ?_; (repeat (first | exact In_of (gt_nw (by assumption)) | (apply In_of; assumption) | refine In_up ?_ | refine In_nw ?_)); done) | refine gt_rd (by first | assumption | (apply Ne.symm; assumption) | (exact hj _ _ (by omega) (by omega) (by omega)) | omega) ?_ | exact gt_nw (by assumption) | refine gt_odr (by first | assumption | (apply Ne.symm; assumption) | omega) ?_)
  · rfl
  · rfl
  · rfl
  refine Ev.ald0 dX4_read_27 ?_
  refine Ev.iconst (v := 0) dX4_read_28 (by decide) ?_
  apply Ev.put dX4_read_29 fX4_37
  · repeat (first | assumption | (refine gt_upI ?_; (repeat (first | exact In_of (gt_nw (by assumption)) | (apply In_of; assumption) | refine In_up ?_ | refine In_nw ?_)); done) | refine gt_rd (by first | assumption | (apply Ne.symm; assumption) | (exact hj _ _ (by omega) (by omega) (by omega)) | omega) ?_ | exact gt_nw (by assumption) | refine gt_odr (by first | assumption | (apply Ne.symm; assumption) | omega) ?_)
  · first | rfl | assumption
  · first | rfl | assumption
  · rfl
  refine Ev.ald0 dX4_read_32 ?_
  refine Ev.iconst (v := 0) dX4_read_33 (by decide) ?_
  apply Ev.put dX4_read_34 fX4_41
  · repeat (first | assumption | (refine gt_upI ?_; (repeat (first | exact In_of (gt_nw (by assumption)) | (apply In_of; assumption) | refine In_up ?_ | refine In_nw ?_)); done) | refine gt_rd (by first | assumption | (apply Ne.symm; assumption) | (exact hj _ _ (by omega) (by omega) (by omega)) | omega) ?_ | exact gt_nw (by assumption) | refine gt_odr (by first | assumption | (apply Ne.symm; assumption) | omega) ?_)
  · first | rfl | assumption
  · first | rfl | assumption
  · rfl
  refine Ev.ald0 dX4_read_37 ?_
  rw [up_up, up_up, up_up, up_up, up_up]
  refine Ev.cgM (M' := up M a (tc b 0 (nI n) st (nI 0) ty v (nI 0) 0 0)) rfl rfl ?_
  have q1 : gt (up M a (tc b 0 (nI n) st (nI 0) ty v (nI 0) 0 0)) a = some (tc b 0 (nI n) st (nI 0) ty v (nI 0) 0 0) := gt_up hA
  have hF1 : Fr [a, h, r] M (up M a (tc b 0 (nI n) st (nI 0) ty v (nI 0) 0 0)) := Fr.rf.pt (by simp)
  refine Ev.cvV (Yc := mX4_next) (ci := 4) dX4_read_38 lX4_50 vX4_next rfl (t_next q1 (H.gb hF1) H.1.1 H.2.1 (Nat.zero_le _) H.2.2.2) ?_ rfl rfl rfl rfl ?_
  · apply Exists.intro; repeat (first | assumption | (refine gt_upI ?_; (repeat (first | exact In_of (gt_nw (by assumption)) | (apply In_of; assumption) | refine In_up ?_ | refine In_nw ?_)); done) | refine gt_rd (by first | assumption | (apply Ne.symm; assumption) | (exact hj _ _ (by omega) (by omega) (by omega)) | omega) ?_ | exact gt_nw (by assumption) | refine gt_odr (by first | assumption | (apply Ne.symm; assumption) | omega) ?_)
  rintro M1 ⟨v1, hv1, rfl⟩
  rw [up_up]
  have hO1 : OnP a b h r w n c M (up M a (tk b c n 0 v1 0 0 0)) (0, (fun _ => 0), 0, 0, 0, 0) 0 v1 := ⟨Fr.rf.pt (by simp), Nat.zero_le _, hv1, gt_up hA, Nat.zero_le _, f2, gt_rd H.nh hH, gt_rd H.nr hR, fun j hj => absurd (show j < 8 * 0 from hj) (by omega)⟩
  refine Ev.cgM (M' := up M a (tk b c n 0 v1 0 0 0)) rfl rfl ?_
  have q2 : gt (up M a (tk b c n 0 v1 0 0 0)) a = some (tk b c n 0 v1 0 0 0) := gt_up hA
  refine Ev.ald0 dX4_read_41 ?_
  refine Ev.ald2 dX4_read_42 ?_
  refine Ev.cvV (Yc := mX4_readLine) (ci := 4) dX4_read_43 lX4_53 vX4_readLine rfl (t_readLine H hO1) ?_ rfl rfl rfl rfl ?_
  · apply Exists.intro; repeat (first | assumption | (refine gt_upI ?_; (repeat (first | exact In_of (gt_nw (by assumption)) | (apply In_of; assumption) | refine In_up ?_ | refine In_nw ?_)); done) | refine gt_rd (by first | assumption | (apply Ne.symm; assumption) | (exact hj _ _ (by omega) (by omega) (by omega)) | omega) ?_ | exact gt_nw (by assumption) | refine gt_odr (by first | assumption | (apply Ne.symm; assumption) | omega) ?_)
  rintro M2 hR2
  rw [prs0]
  cases hl : lin c n (0, (fun _ => 0), 0, 0, 0, 0) with
  | inl F =>
    rw [hl] at hR2
    refine Ev.iconst (v := 0) dX4_read_46 (by decide) ?_
    refine Ev.ist3 dX4_read_47 rfl rfl ?_
    exact r_b48 (i := 0) (by omega) hR2
  | inr s' =>
    rw [hl] at hR2
    obtain ⟨v2, hO2⟩ := hR2
    have hmu := lin_mu hl (Nat.zero_le _)
    have hms : mul (0, (fun _ => 0), 0, 0, 0, 0) = 42 := rfl
    refine Ev.iconst (v := 0) dX4_read_46 (by decide) ?_
    refine Ev.ist3 dX4_read_47 rfl rfl ?_
    exact r_g48 H 43 0 s' v2 M2 (by omega) (by omega) hO2
end TXT
