theorem n8 (n : Nat) : nI n * 8 = nI (8 * n) := by
  have := pk_mul n 8
  rw [show nI 8 = 8 from rfl, Nat.mul_comm] at this
  exact this
theorem cp8 {n m : Nat} (h : 8 * n ≤ m) (hm : m ≤ 100000) : ¬ nI (8 * n) < 0 ∧ (nI (8 * n)).toNatClampNeg = 8 * n := ⟨nI_pos (by omega), nI_clamp (by omega)⟩
section BKF
variable {G : GP} {M : Wd} {h r w n : Nat} {fs : List Value} {f : Nat → Int32} {ph rf lo hi : Int32}
set_option maxRecDepth 20000 in
theorem c_become {h2 r2 w2 n2 : Nat} {f2 : Nat → Int32} {ph2 rf2 lo2 hi2 : Int32} (hB : gt M h = some (bk r w n ph rf lo hi)) (hr : gt M r = some (ia 0 328 f)) (hB2 : gt M h2 = some (bk r2 w2 n2 ph2 rf2 lo2 hi2)) (hr2 : gt M r2 = some (ia 0 328 f2)) (hn : n2 ≤ 41) (e1 : h ≠ r) (e2 : h ≠ h2) (e3 : h ≠ r2) (e4 : h2 ≠ r) (e5 : h2 ≠ r2) (e6 : r ≠ r2) : CtV G mX2_become [.ref h, .ref h2] M 0 0 (fun M' => M' = up (up M h (bk r w n2 ph2 rf2 lo2 hi2)) r (ia 0 328 (va_cpy f2 f 0 0 (8 * n2)))) := by
  refine Ct.of (ls := [some (.ref h), some (.ref h2)]) (by decide) (by decide) rfl rfl rfl ?_
  refine Ev.ald0 dX2_become_0 ?_
  refine Ev.ald1 dX2_become_1 ?_
  apply Ev.getf dX2_become_2 fX2_18
  · repeat (first | assumption | (refine gt_upI ?_; (repeat (first | refine In_up ?_ | refine In_nw ?_)); apply In_of; assumption) | refine gt_rd (by first | assumption | (apply Ne.symm; assumption) | (exact hj _ _ (by omega) (by omega) (by omega)) | omega) ?_ | exact gt_nw (by assumption) | refine gt_odr (by first | assumption | (apply Ne.symm; assumption) | omega) ?_)
  · first | rfl | assumption
  apply Ev.put dX2_become_5 fX2_18
  · repeat (first | assumption | (refine gt_upI ?_; (repeat (first | refine In_up ?_ | refine In_nw ?_)); apply In_of; assumption) | refine gt_rd (by first | assumption | (apply Ne.symm; assumption) | (exact hj _ _ (by omega) (by omega) (by omega)) | omega) ?_ | exact gt_nw (by assumption) | refine gt_odr (by first | assumption | (apply Ne.symm; assumption) | omega) ?_)
  · rfl
  · rfl
  · rfl
  refine Ev.ald0 dX2_become_8 ?_
  refine Ev.ald1 dX2_become_9 ?_
  apply Ev.getf dX2_become_10 fX2_22
  · repeat (first | assumption | (refine gt_upI ?_; (repeat (first | refine In_up ?_ | refine In_nw ?_)); apply In_of; assumption) | refine gt_rd (by first | assumption | (apply Ne.symm; assumption) | (exact hj _ _ (by omega) (by omega) (by omega)) | omega) ?_ | exact gt_nw (by assumption) | refine gt_odr (by first | assumption | (apply Ne.symm; assumption) | omega) ?_)
  · first | rfl | assumption
  apply Ev.put dX2_become_13 fX2_22
  · repeat (first | assumption | (refine gt_upI ?_; (repeat (first | refine In_up ?_ | refine In_nw ?_)); apply In_of; assumption) | refine gt_rd (by first | assumption | (apply Ne.symm; assumption) | (exact hj _ _ (by omega) (by omega) (by omega)) | omega) ?_ | exact gt_nw (by assumption) | refine gt_odr (by first | assumption | (apply Ne.symm; assumption) | omega) ?_)
  · rfl
  · rfl
  · rfl
  refine Ev.ald0 dX2_become_16 ?_
  refine Ev.ald1 dX2_become_17 ?_
  apply Ev.getf dX2_become_18 fX2_25
  · repeat (first | assumption | (refine gt_upI ?_; (repeat (first | refine In_up ?_ | refine In_nw ?_)); apply In_of; assumption) | refine gt_rd (by first | assumption | (apply Ne.symm; assumption) | (exact hj _ _ (by omega) (by omega) (by omega)) | omega) ?_ | exact gt_nw (by assumption) | refine gt_odr (by first | assumption | (apply Ne.symm; assumption) | omega) ?_)
  · first | rfl | assumption
  apply Ev.put dX2_become_21 fX2_25
  · repeat (first | assumption | (refine gt_upI ?_; (repeat (first | refine In_up ?_ | refine In_nw ?_)); apply In_of; assumption) | refine gt_rd (by first | assumption | (apply Ne.symm; assumption) | (exact hj _ _ (by omega) (by omega) (by omega)) | omega) ?_ | exact gt_nw (by assumption) | refine gt_odr (by first | assumption | (apply Ne.symm; assumption) | omega) ?_)
  · rfl
  · rfl
  · rfl
  refine Ev.ald0 dX2_become_24 ?_
  refine Ev.ald1 dX2_become_25 ?_
  apply Ev.getf dX2_become_26 fX2_28
  · repeat (first | assumption | (refine gt_upI ?_; (repeat (first | refine In_up ?_ | refine In_nw ?_)); apply In_of; assumption) | refine gt_rd (by first | assumption | (apply Ne.symm; assumption) | (exact hj _ _ (by omega) (by omega) (by omega)) | omega) ?_ | exact gt_nw (by assumption) | refine gt_odr (by first | assumption | (apply Ne.symm; assumption) | omega) ?_)
  · first | rfl | assumption
  apply Ev.put dX2_become_29 fX2_28
  · repeat (first | assumption | (refine gt_upI ?_; (repeat (first | refine In_up ?_ | refine In_nw ?_)); apply In_of; assumption) | refine gt_rd (by first | assumption | (apply Ne.symm; assumption) | (exact hj _ _ (by omega) (by omega) (by omega)) | omega) ?_ | exact gt_nw (by assumption) | refine gt_odr (by first | assumption | (apply Ne.symm; assumption) | omega) ?_)
  · rfl
  · rfl
  · rfl
  refine Ev.ald0 dX2_become_32 ?_
  refine Ev.ald1 dX2_become_33 ?_
  apply Ev.getf dX2_become_34 fX2_31
  · repeat (first | assumption | (refine gt_upI ?_; (repeat (first | refine In_up ?_ | refine In_nw ?_)); apply In_of; assumption) | refine gt_rd (by first | assumption | (apply Ne.symm; assumption) | (exact hj _ _ (by omega) (by omega) (by omega)) | omega) ?_ | exact gt_nw (by assumption) | refine gt_odr (by first | assumption | (apply Ne.symm; assumption) | omega) ?_)
  · first | rfl | assumption
  apply Ev.put dX2_become_37 fX2_31
  · repeat (first | assumption | (refine gt_upI ?_; (repeat (first | refine In_up ?_ | refine In_nw ?_)); apply In_of; assumption) | refine gt_rd (by first | assumption | (apply Ne.symm; assumption) | (exact hj _ _ (by omega) (by omega) (by omega)) | omega) ?_ | exact gt_nw (by assumption) | refine gt_odr (by first | assumption | (apply Ne.symm; assumption) | omega) ?_)
  · rfl
  · rfl
  · rfl
  refine Ev.ald1 dX2_become_40 ?_
  apply Ev.getf dX2_become_41 fX2_9
  · repeat (first | assumption | (refine gt_upI ?_; (repeat (first | refine In_up ?_ | refine In_nw ?_)); apply In_of; assumption) | refine gt_rd (by first | assumption | (apply Ne.symm; assumption) | (exact hj _ _ (by omega) (by omega) (by omega)) | omega) ?_ | exact gt_nw (by assumption) | refine gt_odr (by first | assumption | (apply Ne.symm; assumption) | omega) ?_)
  · first | rfl | assumption
  refine Ev.iconst (v := 0) dX2_become_44 (by decide) ?_
  refine Ev.ald0 dX2_become_45 ?_
  apply Ev.getf dX2_become_46 fX2_9
  · repeat (first | assumption | (refine gt_upI ?_; (repeat (first | refine In_up ?_ | refine In_nw ?_)); apply In_of; assumption) | refine gt_rd (by first | assumption | (apply Ne.symm; assumption) | (exact hj _ _ (by omega) (by omega) (by omega)) | omega) ?_ | exact gt_nw (by assumption) | refine gt_odr (by first | assumption | (apply Ne.symm; assumption) | omega) ?_)
  · first | rfl | assumption
  refine Ev.iconst (v := 0) dX2_become_49 (by decide) ?_
  refine Ev.ald0 dX2_become_50 ?_
  apply Ev.getf dX2_become_51 fX2_18
  · repeat (first | assumption | (refine gt_upI ?_; (repeat (first | refine In_up ?_ | refine In_nw ?_)); apply In_of; assumption) | refine gt_rd (by first | assumption | (apply Ne.symm; assumption) | (exact hj _ _ (by omega) (by omega) (by omega)) | omega) ?_ | exact gt_nw (by assumption) | refine gt_odr (by first | assumption | (apply Ne.symm; assumption) | omega) ?_)
  · first | rfl | assumption
  refine Ev.bipush (v := 8) dX2_become_54 (by decide) ?_
  refine Ev.imul dX2_become_56 ?_
  have z := cp8 (n := n2) (m := 328) (by omega) (by omega)
  rw [n8]
  refine Ev.copy (f := f2) (g := f) (n0 := 328) (n1 := 328) dX2_become_57 lX2_34 (fun _ => trivial) ?_ ?_ (by decide) (by decide) z.1 (by rw [z.2]; show 0 + _ ≤ _; omega) (by rw [z.2]; show 0 + _ ≤ _; omega) rfl rfl ?_
  · repeat (first | assumption | (refine gt_upI ?_; (repeat (first | refine In_up ?_ | refine In_nw ?_)); apply In_of; assumption) | refine gt_rd (by first | assumption | (apply Ne.symm; assumption) | (exact hj _ _ (by omega) (by omega) (by omega)) | omega) ?_ | exact gt_nw (by assumption) | refine gt_odr (by first | assumption | (apply Ne.symm; assumption) | omega) ?_)
  · repeat (first | assumption | (refine gt_upI ?_; (repeat (first | refine In_up ?_ | refine In_nw ?_)); apply In_of; assumption) | refine gt_rd (by first | assumption | (apply Ne.symm; assumption) | (exact hj _ _ (by omega) (by omega) (by omega)) | omega) ?_ | exact gt_nw (by assumption) | refine gt_odr (by first | assumption | (apply Ne.symm; assumption) | omega) ?_)
  refine Ev.vret dX2_become_60 rfl ?_
  refine ⟨rfl, ?_⟩
  rw [up_up, up_up, up_up, up_up, z.2]
  rfl
set_option maxRecDepth 20000 in
theorem c_add {a0 a1 a2 a3 a4 a5 a6 : Int32} (hB : gt M h = some (bk r w n ph rf lo hi)) (hr : gt M r = some (ia 0 328 f)) (hn : n < 41) (hne : h ≠ r) : CtI G mX2_add [.ref h, .int a0, .int a1, .int a2, .int a3, .int a4, .int a5, .int a6] M 0 0 (fun x M' => x = nI n ∧ M' = up (up M h (bk r w (n + 1) ph rf lo hi)) r (ia 0 328 (add8 f n a0 a1 a2 a3 a4 a5 a6))) := by
  have hsz : ¬ (41 : Int32) ≤ nI n := nI_ge (b := 41) (by omega) (by omega)
  have J3 : ∀ g : Nat → Int32, Ev G mX2_add 86 [some (.ref h), some (.int a0), some (.int a1), some (.int a2), some (.int a3), some (.int a4), some (.int a5), some (.int a6), some (.int (nI n))] [] (up (up M h (bk r w (n + 1) ph rf lo hi)) r (ia 0 328 g)) 0 0 (fun v M' => ∃ x, v = some (.int x) ∧ x = nI n ∧ M' = up (up M h (bk r w (n + 1) ph rf lo hi)) r (ia 0 328 (upd (upd (upd g (8 * n + 5) a5) (8 * n + 6) a6) (8 * n + 7) 0))) := by
    intro g
    have q1 : gt (up (up M h (bk r w (n + 1) ph rf lo hi)) r (ia 0 328 g)) h = some (bk r w (n + 1) ph rf lo hi) := gt_rd hne (gt_up hB)
    have q2 : gt (up (up M h (bk r w (n + 1) ph rf lo hi)) r (ia 0 328 g)) r = some (ia 0 328 g) := gt_up (gt_rd hne.symm hr)
    refine Ev.ald0 dX2_add_86 ?_
    refine Ev.ild8 dX2_add_87 ?_
    refine Ev.iconst (v := 5) dX2_add_89 (by decide) ?_
    refine Ev.ild6 dX2_add_90 ?_
    refine Ev.cvV (Yc := mX2_set) (ci := 2) dX2_add_92 lX2_48 vX2_set rfl (c_set n 5 rfl rfl q1 q2 (by omega) (by omega)) ?_ rfl rfl rfl rfl ?_
    · apply Exists.intro; repeat (first | assumption | (refine gt_upI ?_; (repeat (first | refine In_up ?_ | refine In_nw ?_)); apply In_of; assumption) | refine gt_rd (by first | assumption | (apply Ne.symm; assumption) | (exact hj _ _ (by omega) (by omega) (by omega)) | omega) ?_ | exact gt_nw (by assumption) | refine gt_odr (by first | assumption | (apply Ne.symm; assumption) | omega) ?_)
    rintro M' rfl
    refine Ev.ald0 dX2_add_95 ?_
    refine Ev.ild8 dX2_add_96 ?_
    refine Ev.bipush (v := 6) dX2_add_98 (by decide) ?_
    refine Ev.ild7 dX2_add_100 ?_
    refine Ev.cvV (Yc := mX2_set) (ci := 2) dX2_add_102 lX2_48 vX2_set rfl (c_set n 6 rfl rfl (gt_rd hne q1) (gt_up q2) (by omega) (by omega)) ?_ rfl rfl rfl rfl ?_
    · apply Exists.intro; repeat (first | assumption | (refine gt_upI ?_; (repeat (first | refine In_up ?_ | refine In_nw ?_)); apply In_of; assumption) | refine gt_rd (by first | assumption | (apply Ne.symm; assumption) | (exact hj _ _ (by omega) (by omega) (by omega)) | omega) ?_ | exact gt_nw (by assumption) | refine gt_odr (by first | assumption | (apply Ne.symm; assumption) | omega) ?_)
    rintro M' rfl
    refine Ev.ald0 dX2_add_105 ?_
    refine Ev.ild8 dX2_add_106 ?_
    refine Ev.bipush (v := 7) dX2_add_108 (by decide) ?_
    refine Ev.iconst (v := 0) dX2_add_110 (by decide) ?_
    refine Ev.cvV (Yc := mX2_set) (ci := 2) dX2_add_111 lX2_48 vX2_set rfl (c_set n 7 rfl rfl (gt_rd hne (gt_rd hne q1)) (gt_up (gt_up q2)) (by omega) (by omega)) ?_ rfl rfl rfl rfl ?_
    · apply Exists.intro; repeat (first | assumption | (refine gt_upI ?_; (repeat (first | refine In_up ?_ | refine In_nw ?_)); apply In_of; assumption) | refine gt_rd (by first | assumption | (apply Ne.symm; assumption) | (exact hj _ _ (by omega) (by omega) (by omega)) | omega) ?_ | exact gt_nw (by assumption) | refine gt_odr (by first | assumption | (apply Ne.symm; assumption) | omega) ?_)
    rintro M' rfl
    refine Ev.ild8 dX2_add_114 ?_
    refine Ev.iret dX2_add_116 rfl rfl ?_
    exact ⟨_, rfl, rfl, by rw [up_up, up_up, up_up]⟩
  have J2 : ∀ (g : Nat → Int32) (v : Int32), Ev G mX2_add 83 [some (.ref h), some (.int a0), some (.int a1), some (.int a2), some (.int a3), some (.int a4), some (.int a5), some (.int a6), some (.int (nI n))] [.int v, .int 4, .int (nI n), .ref h] (up (up M h (bk r w (n + 1) ph rf lo hi)) r (ia 0 328 g)) 0 0 (fun u M' => ∃ x, u = some (.int x) ∧ x = nI n ∧ M' = up (up M h (bk r w (n + 1) ph rf lo hi)) r (ia 0 328 (upd (upd (upd (upd g (8 * n + 4) v) (8 * n + 5) a5) (8 * n + 6) a6) (8 * n + 7) 0))) := by
    intro g v
    have q1 : gt (up (up M h (bk r w (n + 1) ph rf lo hi)) r (ia 0 328 g)) h = some (bk r w (n + 1) ph rf lo hi) := gt_rd hne (gt_up hB)
    have q2 : gt (up (up M h (bk r w (n + 1) ph rf lo hi)) r (ia 0 328 g)) r = some (ia 0 328 g) := gt_up (gt_rd hne.symm hr)
    refine Ev.cvV (Yc := mX2_set) (ci := 2) dX2_add_83 lX2_48 vX2_set rfl (c_set n 4 rfl rfl q1 q2 (by omega) (by omega)) ?_ rfl rfl rfl rfl ?_
    · apply Exists.intro; repeat (first | assumption | (refine gt_upI ?_; (repeat (first | refine In_up ?_ | refine In_nw ?_)); apply In_of; assumption) | refine gt_rd (by first | assumption | (apply Ne.symm; assumption) | (exact hj _ _ (by omega) (by omega) (by omega)) | omega) ?_ | exact gt_nw (by assumption) | refine gt_odr (by first | assumption | (apply Ne.symm; assumption) | omega) ?_)
    rintro M' rfl
    rw [up_up]
    exact J3 _
  have J1 : ∀ (g : Nat → Int32) (v : Int32), Ev G mX2_add 65 [some (.ref h), some (.int a0), some (.int a1), some (.int a2), some (.int a3), some (.int a4), some (.int a5), some (.int a6), some (.int (nI n))] [.int v, .int 3, .int (nI n), .ref h] (up (up M h (bk r w (n + 1) ph rf lo hi)) r (ia 0 328 g)) 0 0 (fun u M' => ∃ x, u = some (.int x) ∧ x = nI n ∧ M' = up (up M h (bk r w (n + 1) ph rf lo hi)) r (ia 0 328 (upd (upd (upd (upd (upd g (8 * n + 3) v) (8 * n + 4) (if a1 = 3 then a4 else 0)) (8 * n + 5) a5) (8 * n + 6) a6) (8 * n + 7) 0))) := by
    intro g v
    have q1 : gt (up (up M h (bk r w (n + 1) ph rf lo hi)) r (ia 0 328 g)) h = some (bk r w (n + 1) ph rf lo hi) := gt_rd hne (gt_up hB)
    have q2 : gt (up (up M h (bk r w (n + 1) ph rf lo hi)) r (ia 0 328 g)) r = some (ia 0 328 g) := gt_up (gt_rd hne.symm hr)
    refine Ev.cvV (Yc := mX2_set) (ci := 2) dX2_add_65 lX2_48 vX2_set rfl (c_set n 3 rfl rfl q1 q2 (by omega) (by omega)) ?_ rfl rfl rfl rfl ?_
    · apply Exists.intro; repeat (first | assumption | (refine gt_upI ?_; (repeat (first | refine In_up ?_ | refine In_nw ?_)); apply In_of; assumption) | refine gt_rd (by first | assumption | (apply Ne.symm; assumption) | (exact hj _ _ (by omega) (by omega) (by omega)) | omega) ?_ | exact gt_nw (by assumption) | refine gt_odr (by first | assumption | (apply Ne.symm; assumption) | omega) ?_)
    rintro M' rfl
    rw [up_up]
    refine Ev.ald0 dX2_add_68 ?_
    refine Ev.ild8 dX2_add_69 ?_
    refine Ev.iconst (v := 4) dX2_add_71 (by decide) ?_
    refine Ev.ild2 dX2_add_72 ?_
    refine Ev.iconst (v := 3) dX2_add_73 (by decide) ?_
    refine Ev.icmp_ne (tgt := 82) dX2_add_74 (by decide) (fun c1 => ?_) (fun c1 => ?_)
    · refine Ev.iconst (v := 0) dX2_add_82 (by decide) ?_
      rw [if_neg c1]
      exact J2 _ _
    · refine Ev.ild5 dX2_add_77 ?_
      refine Ev.goto (tgt := 83) dX2_add_79 (by decide) ?_
      rw [if_pos c1]
      exact J2 _ _
  refine Ct.of (ls := [some (.ref h), some (.int a0), some (.int a1), some (.int a2), some (.int a3), some (.int a4), some (.int a5), some (.int a6), none]) (by decide) (by decide) rfl rfl rfl ?_
  refine Ev.ald0 dX2_add_0 ?_
  apply Ev.getf dX2_add_1 fX2_18
  · repeat (first | assumption | (refine gt_upI ?_; (repeat (first | refine In_up ?_ | refine In_nw ?_)); apply In_of; assumption) | refine gt_rd (by first | assumption | (apply Ne.symm; assumption) | (exact hj _ _ (by omega) (by omega) (by omega)) | omega) ?_ | exact gt_nw (by assumption) | refine gt_odr (by first | assumption | (apply Ne.symm; assumption) | omega) ?_)
  · first | rfl | assumption
  refine Ev.bipush (v := 41) dX2_add_4 (by decide) ?_
  refine Ev.icmp_lt (tgt := 11) dX2_add_6 (by decide) (fun c1 => ?_) (fun c1 => absurd (Int32.not_lt.mp c1) hsz)
  have q0 : gt (up M h (bk r w (n + 1) ph rf lo hi)) h = some (bk r w (n + 1) ph rf lo hi) := gt_up hB
  have q3 : gt (up M h (bk r w (n + 1) ph rf lo hi)) r = some (ia 0 328 f) := gt_rd hne.symm hr
  refine Ev.ald0 dX2_add_11 ?_
  apply Ev.getf dX2_add_12 fX2_18
  · repeat (first | assumption | (refine gt_upI ?_; (repeat (first | refine In_up ?_ | refine In_nw ?_)); apply In_of; assumption) | refine gt_rd (by first | assumption | (apply Ne.symm; assumption) | (exact hj _ _ (by omega) (by omega) (by omega)) | omega) ?_ | exact gt_nw (by assumption) | refine gt_odr (by first | assumption | (apply Ne.symm; assumption) | omega) ?_)
  · first | rfl | assumption
  refine Ev.ist8 dX2_add_15 rfl rfl ?_
  refine Ev.ald0 dX2_add_17 ?_
  refine Ev.dup dX2_add_18 rfl ?_
  apply Ev.getf dX2_add_19 fX2_18
  · repeat (first | assumption | (refine gt_upI ?_; (repeat (first | refine In_up ?_ | refine In_nw ?_)); apply In_of; assumption) | refine gt_rd (by first | assumption | (apply Ne.symm; assumption) | (exact hj _ _ (by omega) (by omega) (by omega)) | omega) ?_ | exact gt_nw (by assumption) | refine gt_odr (by first | assumption | (apply Ne.symm; assumption) | omega) ?_)
  · first | rfl | assumption
  refine Ev.iconst (v := 1) dX2_add_22 (by decide) ?_
  refine Ev.iadd dX2_add_23 ?_
  rw [show nI n + 1 = nI (n + 1) from nI_1 n]
  apply Ev.put dX2_add_24 fX2_18
  · repeat (first | assumption | (refine gt_upI ?_; (repeat (first | refine In_up ?_ | refine In_nw ?_)); apply In_of; assumption) | refine gt_rd (by first | assumption | (apply Ne.symm; assumption) | (exact hj _ _ (by omega) (by omega) (by omega)) | omega) ?_ | exact gt_nw (by assumption) | refine gt_odr (by first | assumption | (apply Ne.symm; assumption) | omega) ?_)
  · rfl
  · rfl
  · rfl
  refine Ev.ald0 dX2_add_27 ?_
  refine Ev.ild8 dX2_add_28 ?_
  refine Ev.iconst (v := 0) dX2_add_30 (by decide) ?_
  refine Ev.ild1 dX2_add_31 ?_
  refine Ev.cvV (Yc := mX2_set) (ci := 2) dX2_add_32 lX2_48 vX2_set rfl (c_set n 0 rfl rfl q0 q3 (by omega) (by omega)) ?_ rfl rfl rfl rfl ?_
  · apply Exists.intro; repeat (first | assumption | (refine gt_upI ?_; (repeat (first | refine In_up ?_ | refine In_nw ?_)); apply In_of; assumption) | refine gt_rd (by first | assumption | (apply Ne.symm; assumption) | (exact hj _ _ (by omega) (by omega) (by omega)) | omega) ?_ | exact gt_nw (by assumption) | refine gt_odr (by first | assumption | (apply Ne.symm; assumption) | omega) ?_)
  rintro M' rfl
  refine Ev.ald0 dX2_add_35 ?_
  refine Ev.ild8 dX2_add_36 ?_
  refine Ev.iconst (v := 1) dX2_add_38 (by decide) ?_
  refine Ev.ild2 dX2_add_39 ?_
  refine Ev.cvV (Yc := mX2_set) (ci := 2) dX2_add_40 lX2_48 vX2_set rfl (c_set n 1 rfl rfl (gt_rd hne q0) (gt_up q3) (by omega) (by omega)) ?_ rfl rfl rfl rfl ?_
  · apply Exists.intro; repeat (first | assumption | (refine gt_upI ?_; (repeat (first | refine In_up ?_ | refine In_nw ?_)); apply In_of; assumption) | refine gt_rd (by first | assumption | (apply Ne.symm; assumption) | (exact hj _ _ (by omega) (by omega) (by omega)) | omega) ?_ | exact gt_nw (by assumption) | refine gt_odr (by first | assumption | (apply Ne.symm; assumption) | omega) ?_)
  rintro M' rfl
  rw [up_up]
  refine Ev.ald0 dX2_add_43 ?_
  refine Ev.ild8 dX2_add_44 ?_
  refine Ev.iconst (v := 2) dX2_add_46 (by decide) ?_
  refine Ev.ild3 dX2_add_47 ?_
  refine Ev.cvV (Yc := mX2_set) (ci := 2) dX2_add_48 lX2_48 vX2_set rfl (c_set n 2 rfl rfl (gt_rd hne q0) (gt_up q3) (by omega) (by omega)) ?_ rfl rfl rfl rfl ?_
  · apply Exists.intro; repeat (first | assumption | (refine gt_upI ?_; (repeat (first | refine In_up ?_ | refine In_nw ?_)); apply In_of; assumption) | refine gt_rd (by first | assumption | (apply Ne.symm; assumption) | (exact hj _ _ (by omega) (by omega) (by omega)) | omega) ?_ | exact gt_nw (by assumption) | refine gt_odr (by first | assumption | (apply Ne.symm; assumption) | omega) ?_)
  rintro M' rfl
  rw [up_up]
  refine Ev.ald0 dX2_add_51 ?_
  refine Ev.ild8 dX2_add_52 ?_
  refine Ev.iconst (v := 3) dX2_add_54 (by decide) ?_
  refine Ev.ild2 dX2_add_55 ?_
  refine Ev.if_ne (tgt := 63) dX2_add_56 (by decide) (fun c56 => ?_) (fun c56 => ?_)
  · refine Ev.ild4 dX2_add_63 ?_
    refine Ev.post (J1 _ _) ?_
    rintro v M' ⟨x, h1, h2, h3⟩
    refine ⟨x, h1, h2, ?_⟩
    rw [h3]
    simp [add8, c56]
  · refine Ev.iconst (v := 0) dX2_add_59 (by decide) ?_
    refine Ev.goto (tgt := 65) dX2_add_60 (by decide) ?_
    refine Ev.post (J1 _ _) ?_
    rintro v M' ⟨x, h1, h2, h3⟩
    refine ⟨x, h1, h2, ?_⟩
    rw [h3]
    simp [add8, c56]
end BKF
