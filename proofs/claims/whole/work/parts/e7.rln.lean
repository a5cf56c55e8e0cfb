/-! lines, and the whole text -/
section RLN
variable {G : GP} {M X : Wd} {a b h r w n : Nat} {c : Nat → Nat} {t : Nat → Int32} {s : Ps} {v : Int32}
theorem hrv_n : hrv s ≠ 0 ↔ 0 < s.2.2.2.1 := by
  rw [hrv]
  by_cases z : 0 < s.2.2.2.1
  · rw [if_pos z]; exact ⟨fun _ => z, fun _ => by decide⟩
  · rw [if_neg z]; exact ⟨fun y => absurd rfl y, fun y => absurd y z⟩
theorem hcv_n : hcv s ≠ 0 ↔ 0 < s.2.2.2.2.1 := by
  rw [hcv]
  by_cases z : 0 < s.2.2.2.2.1
  · rw [if_pos z]; exact ⟨fun _ => z, fun _ => by decide⟩
  · rw [if_neg z]; exact ⟨fun y => absurd rfl y, fun y => absurd y z⟩
theorem hrv_b : narrow .boolean (.int (hrv s)) = .int (hrv s) := by
  rw [hrv]
  split <;> rfl
theorem hcv_b : narrow .boolean (.int (hcv s)) = .int (hcv s) := by
  rw [hcv]
  split <;> rfl
set_option maxRecDepth 20000 in
theorem t_readReference (H : HCt a b h r n c t M) (hO : OnP a b h r w n c M X s s.1 v) (h4 : tkT c n s.1 ≠ 4) : CtV G mX4_readReference [.ref a, .ref h] X 0 0 (fun M' => Rsl a b h r w n c M (rln c n s) M') := by
  have hO0 := hO
  obtain ⟨hF, hp, hv, hA, hN4, f2, g1, g2, g3⟩ := hO
  have hn := H.2.1
  have hT := H.2.2.2
  have hb := H.gb hF
  have hA1 := tkA_le (c := c) hp
  have hE1 := tkE_le (c := c) hp
  have eE : xtE c n s.1 = tkE c n s.1 := xtE_E h4
  have n0 : nI s.2.2.1 ≤ 0 ↔ s.2.2.1 = 0 := by
    rw [show (0 : Int32) = nI 0 from rfl, nI_leI (by omega) (by omega)]
    omega
  have bad : (0 < s.2.2.2.1 ∨ 0 < s.2.2.1) → Ev G mX4_readReference 14 [some (.ref a), some (.ref h)] [] X 0 0 (QR a b h r w n c M (rln c n s)) := by
    intro z
    rw [rln, if_pos z]
    refine Ev.ald0 dX4_readReference_14 ?_
    refine Ev.iconst (v := 3) dX4_readReference_15 (by decide) ?_
    refine Ev.cvV (Yc := mX4_fail) (ci := 4) dX4_readReference_16 lX4_57 vX4_fail rfl (t_fail 3 rfl (by omega) (by omega) hn hp (by omega) hA) ?_ rfl rfl rfl rfl ?_
    · apply Exists.intro; repeat (first | assumption | (refine gt_upI ?_; (repeat (first | exact In_of (gt_nw (by assumption)) | (apply In_of; assumption) | refine In_up ?_ | refine In_nw ?_)); done) | refine gt_rd (by first | assumption | (apply Ne.symm; assumption) | (exact hj _ _ (by omega) (by omega) (by omega)) | omega) ?_ | exact gt_nw (by assumption) | refine gt_odr (by first | assumption | (apply Ne.symm; assumption) | omega) ?_)
    rintro M1 rfl
    rw [if_pos rfl]
    refine Ev.vret dX4_readReference_19 rfl ?_
    exact ⟨rfl, hO0.bad H hp (by omega) (by omega)⟩
  show Ct _ _ _ _ _ _ (QR a b h r w n c M (rln c n s))
  refine Ct.of (ls := [some (.ref a), some (.ref h)]) (by decide) (by decide) rfl rfl rfl ?_
  refine Ev.ald0 dX4_readReference_0 ?_
  apply Ev.getf dX4_readReference_1 fX4_37
  · repeat (first | assumption | (refine gt_upI ?_; (repeat (first | exact In_of (gt_nw (by assumption)) | (apply In_of; assumption) | refine In_up ?_ | refine In_nw ?_)); done) | refine gt_rd (by first | assumption | (apply Ne.symm; assumption) | (exact hj _ _ (by omega) (by omega) (by omega)) | omega) ?_ | exact gt_nw (by assumption) | refine gt_odr (by first | assumption | (apply Ne.symm; assumption) | omega) ?_)
  · first | rfl | assumption
  refine Ev.if_ne (tgt := 14) dX4_readReference_4 (by decide) (fun c4 => ?_) (fun c4 => ?_)
  · exact bad (Or.inl (hrv_n.mp c4))
  · have r0 : ¬ 0 < s.2.2.2.1 := fun z => hrv_n.mpr z c4
    refine Ev.ald1 dX4_readReference_7 ?_
    apply Ev.getf dX4_readReference_8 fX4_83
    · repeat (first | assumption | (refine gt_upI ?_; (repeat (first | exact In_of (gt_nw (by assumption)) | (apply In_of; assumption) | refine In_up ?_ | refine In_nw ?_)); done) | refine gt_rd (by first | assumption | (apply Ne.symm; assumption) | (exact hj _ _ (by omega) (by omega) (by omega)) | omega) ?_ | exact gt_nw (by assumption) | refine gt_odr (by first | assumption | (apply Ne.symm; assumption) | omega) ?_)
    · first | rfl | assumption
    refine Ev.if_le (tgt := 20) dX4_readReference_11 (by decide) (fun c11 => ?_) (fun c11 => ?_)
    · have s0 := n0.mp c11
      rw [rln, if_neg (fun z => z.elim r0 (by omega))]
      refine Ev.ald0 dX4_readReference_20 ?_
      refine Ev.iconst (v := 1) dX4_readReference_21 (by decide) ?_
      apply Ev.put dX4_readReference_22 fX4_37
      · repeat (first | assumption | (refine gt_upI ?_; (repeat (first | exact In_of (gt_nw (by assumption)) | (apply In_of; assumption) | refine In_up ?_ | refine In_nw ?_)); done) | refine gt_rd (by first | assumption | (apply Ne.symm; assumption) | (exact hj _ _ (by omega) (by omega) (by omega)) | omega) ?_ | exact gt_nw (by assumption) | refine gt_odr (by first | assumption | (apply Ne.symm; assumption) | omega) ?_)
      · first | rfl | assumption
      · first | rfl | assumption
      · rfl
      refine Ev.ald0 dX4_readReference_25 ?_
      have q1 : gt (up X a (tk b c n s.1 v 0 1 (hcv s))) a = some (tk b c n s.1 v 0 1 (hcv s)) := gt_up hA
      have hF1 : Fr [a, h, r] M (up X a (tk b c n s.1 v 0 1 (hcv s))) := hF.pt (by simp)
      refine Ev.cgM (M' := up X a (tk b c n s.1 v 0 1 (hcv s))) rfl rfl ?_
      refine Ev.cvV (Yc := mX4_next) (ci := 4) dX4_readReference_26 lX4_50 vX4_next rfl (t_next q1 (H.gb hF1) H.1.1 hn (xtE_le hp).2 hT) ?_ rfl rfl rfl rfl ?_
      · apply Exists.intro; repeat (first | assumption | (refine gt_upI ?_; (repeat (first | exact In_of (gt_nw (by assumption)) | (apply In_of; assumption) | refine In_up ?_ | refine In_nw ?_)); done) | refine gt_rd (by first | assumption | (apply Ne.symm; assumption) | (exact hj _ _ (by omega) (by omega) (by omega)) | omega) ?_ | exact gt_nw (by assumption) | refine gt_odr (by first | assumption | (apply Ne.symm; assumption) | omega) ?_)
      rintro M1 ⟨v1, hv1, rfl⟩
      rw [eE] at hv1 ⊢
      rw [up_up]
      have q2 : gt (up X a (tk b c n (tkE c n s.1) v1 0 1 (hcv s))) a = some (tk b c n (tkE c n s.1) v1 0 1 (hcv s)) := gt_up hA
      have hF2 : Fr [a, h, r] M (up X a (tk b c n (tkE c n s.1) v1 0 1 (hcv s))) := hF.pt (by simp)
      refine Ev.cgM (M' := up X a (tk b c n (tkE c n s.1) v1 0 1 (hcv s))) rfl rfl ?_
      refine Ev.ald1 dX4_readReference_29 ?_
      refine Ev.ald0 dX4_readReference_30 ?_
      refine Ev.iconst (v := 1) dX4_readReference_31 (by decide) ?_
      refine Ev.sipush (v := 999) dX4_readReference_32 (by decide) ?_
      refine Ev.cvI (Yc := mX4_readWhole) (ci := 4) dX4_readReference_35 lX4_86 vX4_readWhole rfl (t_readWhole q2 (H.gb hF2) H.1.1 hn hE1.2 hT (by omega)) ?_ rfl rfl rfl rfl ?_
      · apply Exists.intro; repeat (first | assumption | (refine gt_upI ?_; (repeat (first | exact In_of (gt_nw (by assumption)) | (apply In_of; assumption) | refine In_up ?_ | refine In_nw ?_)); done) | refine gt_rd (by first | assumption | (apply Ne.symm; assumption) | (exact hj _ _ (by omega) (by omega) (by omega)) | omega) ?_ | exact gt_nw (by assumption) | refine gt_odr (by first | assumption | (apply Ne.symm; assumption) | omega) ?_)
      rintro y3 M3 ⟨hy3, v3, hv3, rfl⟩
      rw [hy3, up_up]
      clear hy3 y3
      rcases nmb_fW hv1 hn hE1.2 (lo := 1) (hi := 999) (by omega) (by omega) with ⟨x, n1, n2, n3, n4, n5, n6⟩ | ⟨g, n1, n2, n3, n4⟩
      · subst n3
        rw [n1]
        have n2' : fW c n (tkE c n s.1) 0 (nI x) 1 999 = 0 := n2
        rw [n4] at hv3 ⊢
        rw [n2']
        have q3 : gt (up X a (tk b c n (tkE c n (tkE c n s.1)) v3 0 1 (hcv s))) h = some (bk r w s.2.2.1 0 (rfv s) (lov s) (hiv s)) := gt_rd H.nh g1
        apply Ev.put dX4_readReference_38 fX4_89
        · repeat (first | assumption | (refine gt_upI ?_; (repeat (first | exact In_of (gt_nw (by assumption)) | (apply In_of; assumption) | refine In_up ?_ | refine In_nw ?_)); done) | refine gt_rd (by first | assumption | (apply Ne.symm; assumption) | (exact hj _ _ (by omega) (by omega) (by omega)) | omega) ?_ | exact gt_nw (by assumption) | refine gt_odr (by first | assumption | (apply Ne.symm; assumption) | omega) ?_)
        · rfl
        · rfl
        · rfl
        refine Ev.vret dX4_readReference_41 rfl ?_
        refine ⟨rfl, v3, (hF.pt (by simp)).pt (by simp), (tkE_le hE1.2).2, hv3, gt_rd H.nh.symm ?_, hN4, f2, ?_, gt_rd H.1.2.2.2.1.symm (gt_rd H.nr g2), g3⟩
        · have e1 : hrv (tkE c n (tkE c n s.1), s.2.1, s.2.2.1, x, s.2.2.2.2) = 1 := if_pos (show 0 < x by omega)
          rw [e1]
          exact gt_up hA
        · have e1 : rfv (tkE c n (tkE c n s.1), s.2.1, s.2.2.1, x, s.2.2.2.2) = nI x := if_pos (show 0 < x by omega)
          rw [e1]
          exact gt_up q3
      · rw [n1]
        have n2' : fW c n (tkE c n s.1) 0 v1 1 999 = g := n2
        rw [n2']
        have q3 : gt (up X a (tk b c n (xtE c n (tkE c n s.1)) v3 g 1 (hcv s))) h = some (bk r w s.2.2.1 0 (rfv s) (lov s) (hiv s)) := gt_rd H.nh g1
        apply Ev.put dX4_readReference_38 fX4_89
        · repeat (first | assumption | (refine gt_upI ?_; (repeat (first | exact In_of (gt_nw (by assumption)) | (apply In_of; assumption) | refine In_up ?_ | refine In_nw ?_)); done) | refine gt_rd (by first | assumption | (apply Ne.symm; assumption) | (exact hj _ _ (by omega) (by omega) (by omega)) | omega) ?_ | exact gt_nw (by assumption) | refine gt_odr (by first | assumption | (apply Ne.symm; assumption) | omega) ?_)
        · rfl
        · rfl
        · rfl
        refine Ev.vret dX4_readReference_41 rfl ?_
        exact ⟨rfl, n3, n4, (hF.pt (by simp)).pt (by simp), _, v3, 1, hcv s, (xtE_le hE1.2).2, gt_rd H.nh.symm (gt_up hA), _, _, _, _, _, f2, gt_up q3, gt_rd H.1.2.2.2.1.symm (gt_rd H.nr g2)⟩
    · exact bad (Or.inr (by
        by_cases z : s.2.2.1 = 0
        · exact absurd (n0.mpr z) c11
        · omega))
set_option maxRecDepth 20000 in
theorem t_readCollar (H : HCt a b h r n c t M) (hO : OnP a b h r w n c M X s s.1 v) (h4 : tkT c n s.1 ≠ 4) : CtV G mX4_readCollar [.ref a, .ref h] X 0 0 (fun M' => Rsl a b h r w n c M (cln c n s) M') := by
  have hO0 := hO
  obtain ⟨hF, hp, hv, hA, hN4, f2, g1, g2, g3⟩ := hO
  have hn := H.2.1
  have hT := H.2.2.2
  have hb := H.gb hF
  have hA1 := tkA_le (c := c) hp
  have hE1 := tkE_le (c := c) hp
  have eE : xtE c n s.1 = tkE c n s.1 := xtE_E h4
  have n0 : nI s.2.2.1 ≤ 0 ↔ s.2.2.1 = 0 := by
    rw [show (0 : Int32) = nI 0 from rfl, nI_leI (by omega) (by omega)]
    omega
  have bad : (0 < s.2.2.2.2.1 ∨ 0 < s.2.2.1) → Ev G mX4_readCollar 14 [some (.ref a), some (.ref h)] [] X 0 0 (QR a b h r w n c M (cln c n s)) := by
    intro z
    rw [cln, if_pos z]
    refine Ev.ald0 dX4_readCollar_14 ?_
    refine Ev.iconst (v := 3) dX4_readCollar_15 (by decide) ?_
    refine Ev.cvV (Yc := mX4_fail) (ci := 4) dX4_readCollar_16 lX4_57 vX4_fail rfl (t_fail 3 rfl (by omega) (by omega) hn hp (by omega) hA) ?_ rfl rfl rfl rfl ?_
    · apply Exists.intro; repeat (first | assumption | (refine gt_upI ?_; (repeat (first | exact In_of (gt_nw (by assumption)) | (apply In_of; assumption) | refine In_up ?_ | refine In_nw ?_)); done) | refine gt_rd (by first | assumption | (apply Ne.symm; assumption) | (exact hj _ _ (by omega) (by omega) (by omega)) | omega) ?_ | exact gt_nw (by assumption) | refine gt_odr (by first | assumption | (apply Ne.symm; assumption) | omega) ?_)
    rintro M1 rfl
    rw [if_pos rfl]
    refine Ev.vret dX4_readCollar_19 rfl ?_
    exact ⟨rfl, hO0.bad H hp (by omega) (by omega)⟩
  show Ct _ _ _ _ _ _ (QR a b h r w n c M (cln c n s))
  refine Ct.of (ls := [some (.ref a), some (.ref h)]) (by decide) (by decide) rfl rfl rfl ?_
  refine Ev.ald0 dX4_readCollar_0 ?_
  apply Ev.getf dX4_readCollar_1 fX4_41
  · repeat (first | assumption | (refine gt_upI ?_; (repeat (first | exact In_of (gt_nw (by assumption)) | (apply In_of; assumption) | refine In_up ?_ | refine In_nw ?_)); done) | refine gt_rd (by first | assumption | (apply Ne.symm; assumption) | (exact hj _ _ (by omega) (by omega) (by omega)) | omega) ?_ | exact gt_nw (by assumption) | refine gt_odr (by first | assumption | (apply Ne.symm; assumption) | omega) ?_)
  · first | rfl | assumption
  refine Ev.if_ne (tgt := 14) dX4_readCollar_4 (by decide) (fun c4 => ?_) (fun c4 => ?_)
  · exact bad (Or.inl (hcv_n.mp c4))
  · have r0 : ¬ 0 < s.2.2.2.2.1 := fun z => hcv_n.mpr z c4
    refine Ev.ald1 dX4_readCollar_7 ?_
    apply Ev.getf dX4_readCollar_8 fX4_83
    · repeat (first | assumption | (refine gt_upI ?_; (repeat (first | exact In_of (gt_nw (by assumption)) | (apply In_of; assumption) | refine In_up ?_ | refine In_nw ?_)); done) | refine gt_rd (by first | assumption | (apply Ne.symm; assumption) | (exact hj _ _ (by omega) (by omega) (by omega)) | omega) ?_ | exact gt_nw (by assumption) | refine gt_odr (by first | assumption | (apply Ne.symm; assumption) | omega) ?_)
    · first | rfl | assumption
    refine Ev.if_le (tgt := 20) dX4_readCollar_11 (by decide) (fun c11 => ?_) (fun c11 => ?_)
    · have s0 := n0.mp c11
      rw [cln, if_neg (fun z => z.elim r0 (by omega))]
      refine Ev.ald0 dX4_readCollar_20 ?_
      refine Ev.iconst (v := 1) dX4_readCollar_21 (by decide) ?_
      apply Ev.put dX4_readCollar_22 fX4_41
      · repeat (first | assumption | (refine gt_upI ?_; (repeat (first | exact In_of (gt_nw (by assumption)) | (apply In_of; assumption) | refine In_up ?_ | refine In_nw ?_)); done) | refine gt_rd (by first | assumption | (apply Ne.symm; assumption) | (exact hj _ _ (by omega) (by omega) (by omega)) | omega) ?_ | exact gt_nw (by assumption) | refine gt_odr (by first | assumption | (apply Ne.symm; assumption) | omega) ?_)
      · first | rfl | assumption
      · first | rfl | assumption
      · rfl
      refine Ev.ald0 dX4_readCollar_25 ?_
      have q1 : gt (up X a (tk b c n s.1 v 0 (hrv s) 1)) a = some (tk b c n s.1 v 0 (hrv s) 1) := gt_up hA
      have hF1 : Fr [a, h, r] M (up X a (tk b c n s.1 v 0 (hrv s) 1)) := hF.pt (by simp)
      refine Ev.cgM (M' := up X a (tk b c n s.1 v 0 (hrv s) 1)) rfl rfl ?_
      refine Ev.cvV (Yc := mX4_next) (ci := 4) dX4_readCollar_26 lX4_50 vX4_next rfl (t_next q1 (H.gb hF1) H.1.1 hn (xtE_le hp).2 hT) ?_ rfl rfl rfl rfl ?_
      · apply Exists.intro; repeat (first | assumption | (refine gt_upI ?_; (repeat (first | exact In_of (gt_nw (by assumption)) | (apply In_of; assumption) | refine In_up ?_ | refine In_nw ?_)); done) | refine gt_rd (by first | assumption | (apply Ne.symm; assumption) | (exact hj _ _ (by omega) (by omega) (by omega)) | omega) ?_ | exact gt_nw (by assumption) | refine gt_odr (by first | assumption | (apply Ne.symm; assumption) | omega) ?_)
      rintro M1 ⟨v1, hv1, rfl⟩
      rw [eE] at hv1 ⊢
      rw [up_up]
      have q2 : gt (up X a (tk b c n (tkE c n s.1) v1 0 (hrv s) 1)) a = some (tk b c n (tkE c n s.1) v1 0 (hrv s) 1) := gt_up hA
      have hF2 : Fr [a, h, r] M (up X a (tk b c n (tkE c n s.1) v1 0 (hrv s) 1)) := hF.pt (by simp)
      refine Ev.cgM (M' := up X a (tk b c n (tkE c n s.1) v1 0 (hrv s) 1)) rfl rfl ?_
      refine Ev.ald1 dX4_readCollar_29 ?_
      refine Ev.ald0 dX4_readCollar_30 ?_
      refine Ev.iconst (v := 1) dX4_readCollar_31 (by decide) ?_
      refine Ev.sipush (v := 999) dX4_readCollar_32 (by decide) ?_
      refine Ev.cvI (Yc := mX4_readWhole) (ci := 4) dX4_readCollar_35 lX4_86 vX4_readWhole rfl (t_readWhole q2 (H.gb hF2) H.1.1 hn hE1.2 hT (by omega)) ?_ rfl rfl rfl rfl ?_
      · apply Exists.intro; repeat (first | assumption | (refine gt_upI ?_; (repeat (first | exact In_of (gt_nw (by assumption)) | (apply In_of; assumption) | refine In_up ?_ | refine In_nw ?_)); done) | refine gt_rd (by first | assumption | (apply Ne.symm; assumption) | (exact hj _ _ (by omega) (by omega) (by omega)) | omega) ?_ | exact gt_nw (by assumption) | refine gt_odr (by first | assumption | (apply Ne.symm; assumption) | omega) ?_)
      rintro y3 M3 ⟨hy3, v3, hv3, rfl⟩
      rw [hy3, up_up]
      clear hy3 y3
      have hX3 := xtE_le (c := c) hE1.2
      generalize hF9 : fW c n (tkE c n s.1) 0 v1 1 999 = F9
      have hF9b : F9 < 100000 := by
        rcases nmb_fW hv1 hn hE1.2 (lo := 1) (hi := 999) (by omega) (by omega) with ⟨x, n1, n2, -⟩ | ⟨g, n1, n2, n3, n4⟩
        · have : fW c n (tkE c n s.1) 0 v1 1 999 = 0 := n2
          omega
        · have : fW c n (tkE c n s.1) 0 v1 1 999 = g := n2
          omega
      have q3 : gt (up X a (tk b c n (xtE c n (tkE c n s.1)) v3 F9 (hrv s) 1)) h = some (bk r w s.2.2.1 0 (rfv s) (lov s) (hiv s)) := gt_rd H.nh g1
      have q4 : gt (up (up X a (tk b c n (xtE c n (tkE c n s.1)) v3 F9 (hrv s) 1)) h (bk r w s.2.2.1 0 (rfv s) v1 (hiv s))) a = some (tk b c n (xtE c n (tkE c n s.1)) v3 F9 (hrv s) 1) := gt_rd H.nh.symm (gt_up hA)
      have q5 : gt (up (up X a (tk b c n (xtE c n (tkE c n s.1)) v3 F9 (hrv s) 1)) h (bk r w s.2.2.1 0 (rfv s) v1 (hiv s))) h = some (bk r w s.2.2.1 0 (rfv s) v1 (hiv s)) := gt_up q3
      have hF3 : Fr [a, h, r] M (up (up X a (tk b c n (xtE c n (tkE c n s.1)) v3 F9 (hrv s) 1)) h (bk r w s.2.2.1 0 (rfv s) v1 (hiv s))) := (hF.pt (by simp)).pt (by simp)
      apply Ev.put dX4_readCollar_38 fX4_91
      · repeat (first | assumption | (refine gt_upI ?_; (repeat (first | exact In_of (gt_nw (by assumption)) | (apply In_of; assumption) | refine In_up ?_ | refine In_nw ?_)); done) | refine gt_rd (by first | assumption | (apply Ne.symm; assumption) | (exact hj _ _ (by omega) (by omega) (by omega)) | omega) ?_ | exact gt_nw (by assumption) | refine gt_odr (by first | assumption | (apply Ne.symm; assumption) | omega) ?_)
      · rfl
      · rfl
      · rfl
      refine Ev.cgM (M' := up (up X a (tk b c n (xtE c n (tkE c n s.1)) v3 F9 (hrv s) 1)) h (bk r w s.2.2.1 0 (rfv s) v1 (hiv s))) rfl rfl ?_
      refine Ev.ald1 dX4_readCollar_41 ?_
      refine Ev.ald0 dX4_readCollar_42 ?_
      refine Ev.ald1 dX4_readCollar_43 ?_
      apply Ev.getf dX4_readCollar_44 fX4_91
      · repeat (first | assumption | (refine gt_upI ?_; (repeat (first | exact In_of (gt_nw (by assumption)) | (apply In_of; assumption) | refine In_up ?_ | refine In_nw ?_)); done) | refine gt_rd (by first | assumption | (apply Ne.symm; assumption) | (exact hj _ _ (by omega) (by omega) (by omega)) | omega) ?_ | exact gt_nw (by assumption) | refine gt_odr (by first | assumption | (apply Ne.symm; assumption) | omega) ?_)
      · first | rfl | assumption
      refine Ev.sipush (v := 999) dX4_readCollar_47 (by decide) ?_
      refine Ev.cvI (Yc := mX4_readWhole) (ci := 4) dX4_readCollar_50 lX4_86 vX4_readWhole rfl (t_readWhole q4 (H.gb hF3) H.1.1 hn hX3.2 hT hF9b) ?_ rfl rfl rfl rfl ?_
      · apply Exists.intro; repeat (first | assumption | (refine gt_upI ?_; (repeat (first | exact In_of (gt_nw (by assumption)) | (apply In_of; assumption) | refine In_up ?_ | refine In_nw ?_)); done) | refine gt_rd (by first | assumption | (apply Ne.symm; assumption) | (exact hj _ _ (by omega) (by omega) (by omega)) | omega) ?_ | exact gt_nw (by assumption) | refine gt_odr (by first | assumption | (apply Ne.symm; assumption) | omega) ?_)
      rintro y5 M5 ⟨hy5, v5, hv5, rfl⟩
      rw [hy5]
      clear hy5 y5
      have q6 : ∀ e6, gt (up (up (up X a (tk b c n (xtE c n (tkE c n s.1)) v3 F9 (hrv s) 1)) h (bk r w s.2.2.1 0 (rfv s) v1 (hiv s))) a e6) h = some (bk r w s.2.2.1 0 (rfv s) v1 (hiv s)) := fun e6 => gt_rd H.nh q5
      have q7 := q6 (tk b c n (xtE c n (xtE c n (tkE c n s.1))) v5 (fW c n (xtE c n (tkE c n s.1)) F9 v3 v1 999) (hrv s) 1)
      apply Ev.put dX4_readCollar_53 fX4_94
      · repeat (first | assumption | (refine gt_upI ?_; (repeat (first | exact In_of (gt_nw (by assumption)) | (apply In_of; assumption) | refine In_up ?_ | refine In_nw ?_)); done) | refine gt_rd (by first | assumption | (apply Ne.symm; assumption) | (exact hj _ _ (by omega) (by omega) (by omega)) | omega) ?_ | exact gt_nw (by assumption) | refine gt_odr (by first | assumption | (apply Ne.symm; assumption) | omega) ?_)
      · rfl
      · rfl
      · rfl
      refine Ev.vret dX4_readCollar_56 rfl ?_
      have z1 : gt (up (up (up (up X a (tk b c n (xtE c n (tkE c n s.1)) v3 F9 (hrv s) 1)) h (bk r w s.2.2.1 0 (rfv s) v1 (hiv s))) a (tk b c n (xtE c n (xtE c n (tkE c n s.1))) v5 (fW c n (xtE c n (tkE c n s.1)) F9 v3 v1 999) (hrv s) 1)) h (bk r w s.2.2.1 0 (rfv s) v1 v3)) h = some (bk r w s.2.2.1 0 (rfv s) v1 v3) := gt_up q7
      have z2 : gt (up (up (up (up X a (tk b c n (xtE c n (tkE c n s.1)) v3 F9 (hrv s) 1)) h (bk r w s.2.2.1 0 (rfv s) v1 (hiv s))) a (tk b c n (xtE c n (xtE c n (tkE c n s.1))) v5 (fW c n (xtE c n (tkE c n s.1)) F9 v3 v1 999) (hrv s) 1)) h (bk r w s.2.2.1 0 (rfv s) v1 v3)) a = some (tk b c n (xtE c n (xtE c n (tkE c n s.1))) v5 (fW c n (xtE c n (tkE c n s.1)) F9 v3 v1 999) (hrv s) 1) := gt_rd H.nh.symm (gt_up q4)
      have z3 : gt (up (up (up (up X a (tk b c n (xtE c n (tkE c n s.1)) v3 F9 (hrv s) 1)) h (bk r w s.2.2.1 0 (rfv s) v1 (hiv s))) a (tk b c n (xtE c n (xtE c n (tkE c n s.1))) v5 (fW c n (xtE c n (tkE c n s.1)) F9 v3 v1 999) (hrv s) 1)) h (bk r w s.2.2.1 0 (rfv s) v1 v3)) r = some (ia 0 328 f2) := gt_rd H.1.2.2.2.1.symm (gt_rd H.nr (gt_rd H.1.2.2.2.1.symm (gt_rd H.nr g2)))
      have z4 : Fr [a, h, r] M (up (up (up (up X a (tk b c n (xtE c n (tkE c n s.1)) v3 F9 (hrv s) 1)) h (bk r w s.2.2.1 0 (rfv s) v1 (hiv s))) a (tk b c n (xtE c n (xtE c n (tkE c n s.1))) v5 (fW c n (xtE c n (tkE c n s.1)) F9 v3 v1 999) (hrv s) 1)) h (bk r w s.2.2.1 0 (rfv s) v1 v3)) := (hF3.pt (by simp)).pt (by simp)
      show none = none ∧ Rsl a b h r w n c M _ (up (up (up (up X a (tk b c n (xtE c n (tkE c n s.1)) v3 F9 (hrv s) 1)) h (bk r w s.2.2.1 0 (rfv s) v1 (hiv s))) a (tk b c n (xtE c n (xtE c n (tkE c n s.1))) v5 (fW c n (xtE c n (tkE c n s.1)) F9 v3 v1 999) (hrv s) 1)) h (bk r w s.2.2.1 0 (rfv s) v1 v3))
      refine ⟨rfl, ?_⟩
      generalize up (up (up (up X a (tk b c n (xtE c n (tkE c n s.1)) v3 F9 (hrv s) 1)) h (bk r w s.2.2.1 0 (rfv s) v1 (hiv s))) a (tk b c n (xtE c n (xtE c n (tkE c n s.1))) v5 (fW c n (xtE c n (tkE c n s.1)) F9 v3 v1 999) (hrv s) 1)) h (bk r w s.2.2.1 0 (rfv s) v1 v3) = Z at *
      rcases nmb_fW hv1 hn hE1.2 (lo := 1) (hi := 999) (by omega) (by omega) with ⟨x, n1, n2, n3, n4, n5, n6⟩ | ⟨g, n1, n2, n3, n4⟩
      · subst n3
        rw [n1]
        have n2' : fW c n (tkE c n s.1) 0 (nI x) 1 999 = 0 := n2
        have e9 : F9 = 0 := by omega
        subst e9
        rw [n4] at hv3 hv5 z2 hX3
        show Rsl a b h r w n c M (cln2 c n s (tkE c n (tkE c n s.1)) x) Z
        rw [cln2]
        rcases nmb_fW hv3 hn hX3.2 (lo := x) (hi := 999) (by omega) (by omega) with ⟨x2, m1, m2, m3, m4, m5, m6⟩ | ⟨g, m1, m2, m3, m4⟩
        · subst m3
          rw [m1]
          have m2' : fW c n (tkE c n (tkE c n s.1)) 0 (nI x2) (nI x) 999 = 0 := m2
          rw [m4, m2'] at z2
          rw [m4] at hv5
          refine ⟨v5, z4, (tkE_le hX3.2).2, hv5, ?_, hN4, f2, ?_, z3, g3⟩
          · have e1 : hcv (tkE c n (tkE c n (tkE c n s.1)), s.2.1, s.2.2.1, s.2.2.2.1, x, x2) = 1 := if_pos (show 0 < x by omega)
            rw [e1]
            exact z2
          · have e1 : lov (tkE c n (tkE c n (tkE c n s.1)), s.2.1, s.2.2.1, s.2.2.2.1, x, x2) = nI x := if_pos (show 0 < x by omega)
            have e2 : hiv (tkE c n (tkE c n (tkE c n s.1)), s.2.1, s.2.2.1, s.2.2.2.1, x, x2) = nI x2 := if_pos (show 0 < x by omega)
            rw [e1, e2]
            exact z1
        · rw [m1]
          have m2' : fW c n (tkE c n (tkE c n s.1)) 0 v3 (nI x) 999 = g := m2
          rw [m2'] at z2
          exact ⟨m3, m4, z4, _, v5, _, _, (xtE_le hX3.2).2, z2, _, _, _, _, _, f2, z1, z3⟩
      · rw [n1]
        have n2' : fW c n (tkE c n s.1) 0 v1 1 999 = g := n2
        have e9 : F9 = g := by omega
        subst e9
        rw [fW, if_neg n3] at z2
        exact ⟨n3, n4, z4, _, v5, _, _, (xtE_le hX3.2).2, z2, _, _, _, _, _, f2, z1, z3⟩
    · exact bad (Or.inr (by
        by_cases z : s.2.2.1 = 0
        · exact absurd (n0.mpr z) c11
        · omega))
set_option maxRecDepth 20000 in
theorem t_readLine (H : HCt a b h r n c t M) (hO : OnP a b h r w n c M X s s.1 v) : CtV G mX4_readLine [.ref a, .ref h] X 0 0 (fun M' => Rsl a b h r w n c M (lin c n s) M') := by
  have hO0 := hO
  obtain ⟨hF, hp, hv, hA, hN4, f2, g1, g2, g3⟩ := hO
  have hn := H.2.1
  have hT := H.2.2.2
  have hb := H.gb hF
  have hA1 := tkA_le (c := c) hp
  have t4 : ∀ {W}, iwb c n s.1 W = true → tkT c n s.1 ≠ 4 := fun z => by have := (iwb_i.mp z).1; omega
  show Ct _ _ _ _ _ _ (QR a b h r w n c M (lin c n s))
  refine Ct.of (ls := [some (.ref a), some (.ref h)]) (by decide) (by decide) rfl rfl rfl ?_
  refine Ev.ald0 dX4_readLine_0 ?_
  refine Ev.ldcs 0 (by decide) rfl dX4_readLine_1 ?_
  refine Ev.cvI (Yc := mX4_is) (ci := 4) dX4_readLine_3 lX4_63 vX4_is rfl (t_is tw_re hA hb hn hp hT) ?_ rfl rfl rfl rfl ?_
  · apply Exists.intro; repeat (first | assumption | (refine gt_upI ?_; (repeat (first | exact In_of (gt_nw (by assumption)) | (apply In_of; assumption) | refine In_up ?_ | refine In_nw ?_)); done) | refine gt_rd (by first | assumption | (apply Ne.symm; assumption) | (exact hj _ _ (by omega) (by omega) (by omega)) | omega) ?_ | exact gt_nw (by assumption) | refine gt_odr (by first | assumption | (apply Ne.symm; assumption) | omega) ?_)
  rintro y1 M1 ⟨hy1, rfl⟩
  refine Ev.if_eq (tgt := 17) dX4_readLine_6 (by decide) (fun c6 => ?_) (fun c6 => ?_)
  · have f1 := if1_f hy1 c6
    refine Ev.ald0 dX4_readLine_17 ?_
    refine Ev.ldcs 1 (by decide) rfl dX4_readLine_18 ?_
    refine Ev.cvI (Yc := mX4_is) (ci := 4) dX4_readLine_20 lX4_63 vX4_is rfl (t_is tw_co hA hb hn hp hT) ?_ rfl rfl rfl rfl ?_
    · apply Exists.intro; repeat (first | assumption | (refine gt_upI ?_; (repeat (first | exact In_of (gt_nw (by assumption)) | (apply In_of; assumption) | refine In_up ?_ | refine In_nw ?_)); done) | refine gt_rd (by first | assumption | (apply Ne.symm; assumption) | (exact hj _ _ (by omega) (by omega) (by omega)) | omega) ?_ | exact gt_nw (by assumption) | refine gt_odr (by first | assumption | (apply Ne.symm; assumption) | omega) ?_)
    rintro y2 M1 ⟨hy2, rfl⟩
    refine Ev.if_eq (tgt := 34) dX4_readLine_23 (by decide) (fun c23 => ?_) (fun c23 => ?_)
    · have f2' := if1_f hy2 c23
      refine Ev.ald0 dX4_readLine_34 ?_
      refine Ev.ldcs 2 (by decide) rfl dX4_readLine_35 ?_
      refine Ev.cvI (Yc := mX4_is) (ci := 4) dX4_readLine_37 lX4_63 vX4_is rfl (t_is tw_bu hA hb hn hp hT) ?_ rfl rfl rfl rfl ?_
      · apply Exists.intro; repeat (first | assumption | (refine gt_upI ?_; (repeat (first | exact In_of (gt_nw (by assumption)) | (apply In_of; assumption) | refine In_up ?_ | refine In_nw ?_)); done) | refine gt_rd (by first | assumption | (apply Ne.symm; assumption) | (exact hj _ _ (by omega) (by omega) (by omega)) | omega) ?_ | exact gt_nw (by assumption) | refine gt_odr (by first | assumption | (apply Ne.symm; assumption) | omega) ?_)
      rintro y3 M1 ⟨hy3, rfl⟩
      refine Ev.if_eq (tgt := 52) dX4_readLine_40 (by decide) (fun c40 => ?_) (fun c40 => ?_)
      · have f3 := if1_f hy3 c40
        refine Ev.ald0 dX4_readLine_52 ?_
        refine Ev.ldcs 12 (by decide) rfl dX4_readLine_53 ?_
        refine Ev.cvI (Yc := mX4_is) (ci := 4) dX4_readLine_55 lX4_63 vX4_is rfl (t_is tw_se hA hb hn hp hT) ?_ rfl rfl rfl rfl ?_
        · apply Exists.intro; repeat (first | assumption | (refine gt_upI ?_; (repeat (first | exact In_of (gt_nw (by assumption)) | (apply In_of; assumption) | refine In_up ?_ | refine In_nw ?_)); done) | refine gt_rd (by first | assumption | (apply Ne.symm; assumption) | (exact hj _ _ (by omega) (by omega) (by omega)) | omega) ?_ | exact gt_nw (by assumption) | refine gt_odr (by first | assumption | (apply Ne.symm; assumption) | omega) ?_)
        rintro y4 M1 ⟨hy4, rfl⟩
        refine Ev.if_eq (tgt := 70) dX4_readLine_58 (by decide) (fun c58 => ?_) (fun c58 => ?_)
        · have f4 := if1_f hy4 c58
          rw [lin, if_neg f1, if_neg f2', if_neg f3, if_neg f4]
          refine Ev.ald0 dX4_readLine_70 ?_
          refine Ev.iconst (v := 1) dX4_readLine_71 (by decide) ?_
          refine Ev.cvV (Yc := mX4_fail) (ci := 4) dX4_readLine_72 lX4_57 vX4_fail rfl (t_fail 1 rfl (by omega) (by omega) hn hp (by omega) hA) ?_ rfl rfl rfl rfl ?_
          · apply Exists.intro; repeat (first | assumption | (refine gt_upI ?_; (repeat (first | exact In_of (gt_nw (by assumption)) | (apply In_of; assumption) | refine In_up ?_ | refine In_nw ?_)); done) | refine gt_rd (by first | assumption | (apply Ne.symm; assumption) | (exact hj _ _ (by omega) (by omega) (by omega)) | omega) ?_ | exact gt_nw (by assumption) | refine gt_odr (by first | assumption | (apply Ne.symm; assumption) | omega) ?_)
          rintro M2 rfl
          rw [if_pos rfl]
          refine Ev.vret dX4_readLine_75 rfl ?_
          exact ⟨rfl, hO0.bad H hp (by omega) (by omega)⟩
        · have f4 := if1_t hy4 c58
          rw [lin, if_neg f1, if_neg f2', if_neg f3, if_pos f4]
          refine Ev.ald0 dX4_readLine_61 ?_
          refine Ev.ald1 dX4_readLine_62 ?_
          refine Ev.iconst (v := 1) dX4_readLine_63 (by decide) ?_
          refine Ev.cvV (Yc := mX4_readOrder) (ci := 4) dX4_readLine_64 lX4_77 vX4_readOrder rfl (t_readOrder (sd := 1) H hO0 (t4 f4)) ?_ rfl rfl rfl rfl ?_
          · apply Exists.intro; repeat (first | assumption | (refine gt_upI ?_; (repeat (first | exact In_of (gt_nw (by assumption)) | (apply In_of; assumption) | refine In_up ?_ | refine In_nw ?_)); done) | refine gt_rd (by first | assumption | (apply Ne.symm; assumption) | (exact hj _ _ (by omega) (by omega) (by omega)) | omega) ?_ | exact gt_nw (by assumption) | refine gt_odr (by first | assumption | (apply Ne.symm; assumption) | omega) ?_)
          rintro M2 hR
          refine Ev.goto (tgt := 75) dX4_readLine_67 (by decide) ?_
          refine Ev.vret dX4_readLine_75 rfl ?_
          exact ⟨rfl, hR⟩
      · have f3 := if1_t hy3 c40
        rw [lin, if_neg f1, if_neg f2', if_pos f3]
        refine Ev.ald0 dX4_readLine_43 ?_
        refine Ev.ald1 dX4_readLine_44 ?_
        refine Ev.iconst (v := 0) dX4_readLine_45 (by decide) ?_
        refine Ev.cvV (Yc := mX4_readOrder) (ci := 4) dX4_readLine_46 lX4_77 vX4_readOrder rfl (t_readOrder (sd := 0) H hO0 (t4 f3)) ?_ rfl rfl rfl rfl ?_
        · apply Exists.intro; repeat (first | assumption | (refine gt_upI ?_; (repeat (first | exact In_of (gt_nw (by assumption)) | (apply In_of; assumption) | refine In_up ?_ | refine In_nw ?_)); done) | refine gt_rd (by first | assumption | (apply Ne.symm; assumption) | (exact hj _ _ (by omega) (by omega) (by omega)) | omega) ?_ | exact gt_nw (by assumption) | refine gt_odr (by first | assumption | (apply Ne.symm; assumption) | omega) ?_)
        rintro M2 hR
        refine Ev.goto (tgt := 75) dX4_readLine_49 (by decide) ?_
        refine Ev.vret dX4_readLine_75 rfl ?_
        exact ⟨rfl, hR⟩
    · have f2' := if1_t hy2 c23
      rw [lin, if_neg f1, if_pos f2']
      refine Ev.ald0 dX4_readLine_26 ?_
      refine Ev.ald1 dX4_readLine_27 ?_
      refine Ev.cvV (Yc := mX4_readCollar) (ci := 4) dX4_readLine_28 lX4_72 vX4_readCollar rfl (t_readCollar H hO0 (t4 f2')) ?_ rfl rfl rfl rfl ?_
      · apply Exists.intro; repeat (first | assumption | (refine gt_upI ?_; (repeat (first | exact In_of (gt_nw (by assumption)) | (apply In_of; assumption) | refine In_up ?_ | refine In_nw ?_)); done) | refine gt_rd (by first | assumption | (apply Ne.symm; assumption) | (exact hj _ _ (by omega) (by omega) (by omega)) | omega) ?_ | exact gt_nw (by assumption) | refine gt_odr (by first | assumption | (apply Ne.symm; assumption) | omega) ?_)
      rintro M2 hR
      refine Ev.goto (tgt := 75) dX4_readLine_31 (by decide) ?_
      refine Ev.vret dX4_readLine_75 rfl ?_
      exact ⟨rfl, hR⟩
  · have f1 := if1_t hy1 c6
    rw [lin, if_pos f1]
    refine Ev.ald0 dX4_readLine_9 ?_
    refine Ev.ald1 dX4_readLine_10 ?_
    refine Ev.cvV (Yc := mX4_readReference) (ci := 4) dX4_readLine_11 lX4_67 vX4_readReference rfl (t_readReference H hO0 (t4 f1)) ?_ rfl rfl rfl rfl ?_
    · apply Exists.intro; repeat (first | assumption | (refine gt_upI ?_; (repeat (first | exact In_of (gt_nw (by assumption)) | (apply In_of; assumption) | refine In_up ?_ | refine In_nw ?_)); done) | refine gt_rd (by first | assumption | (apply Ne.symm; assumption) | (exact hj _ _ (by omega) (by omega) (by omega)) | omega) ?_ | exact gt_nw (by assumption) | refine gt_odr (by first | assumption | (apply Ne.symm; assumption) | omega) ?_)
    rintro M2 hR
    refine Ev.goto (tgt := 75) dX4_readLine_14 (by decide) ?_
    refine Ev.vret dX4_readLine_75 rfl ?_
    exact ⟨rfl, hR⟩
end RLN
