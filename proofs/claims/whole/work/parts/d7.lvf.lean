/-! what is left behind a cross -/
/-- one order's row -/
noncomputable def lv2 (f fl sa : Nat → Int32) (k : Nat) : Nat → Int32 :=
  if sa k = 2 then upd (if f (8 * k + 7) = 0 then upd (lv1 f k (fl k)) (8 * k + 5) 0 else f) (8 * k + 7) 1 else (if f (8 * k + 7) = 0 then upd (lv1 f k (fl k)) (8 * k + 5) 0 else f)
noncomputable def lvf (f fl sa : Nat → Int32) : Nat → (Nat → Int32)
  | 0 => f
  | k + 1 => lv2 (lvf f fl sa k) fl sa k
section LVF
variable {G : GP} {M : Wd} {h r w n : Nat} {f fl sa : Nat → Int32} {ph rf lo hi : Int32}
set_option maxRecDepth 20000 in
theorem c_leaveOf {ha rr hf hs z : Nat} {fs : List Value} {f2 : Nat → Int32} (hB : gt M h = some (bk r w n ph rf lo hi)) (hr : gt M r = some (ia 0 328 f)) (hA : gt M ha = some (ob 0 fs)) (f14 : fs[14]? = some (.ref rr)) (f02 : fs[2]? = some (.ref hf)) (f07 : fs[7]? = some (.ref hs)) (hrr : gt M rr = some (ia 0 z f2)) (hz : 8 * n ≤ z) (hz2 : z ≤ 100000) (hfl : gt M hf = some (ia 0 41 fl)) (hsa : gt M hs = some (ia 0 41 sa)) (hn : n ≤ 40) (e1 : h ≠ r) (e2 : ha ≠ r) (e4 : hf ≠ r) (e5 : hs ≠ r) : CtV G mX2_leaveOf [.ref h, .ref ha] M 0 0 (fun M' => M' = up M r (ia 0 328 (lvf (va_cpy f2 f 0 0 (8 * n)) fl sa n))) := by
  have L : ∀ d k, k + d = n → Ev G mX2_leaveOf 22 [some (.ref h), some (.ref ha), some (.int (nI k))] [] (up M r (ia 0 328 (lvf (va_cpy f2 f 0 0 (8 * n)) fl sa k))) 0 0 (fun v M' => v = none ∧ M' = up M r (ia 0 328 (lvf (va_cpy f2 f 0 0 (8 * n)) fl sa n))) := by
    intro d
    induction d with
    | zero =>
      intro k hk
      refine Ev.ild2 dX2_leaveOf_22 ?_
      refine Ev.ald0 dX2_leaveOf_23 ?_
      apply Ev.getf dX2_leaveOf_24 fX2_18
      · repeat (first | assumption | (refine gt_upI ?_; (repeat (first | exact In_of (gt_nw (by assumption)) | (apply In_of; assumption) | refine In_up ?_ | refine In_nw ?_)); done) | refine gt_rd (by first | assumption | (apply Ne.symm; assumption) | (exact hj _ _ (by omega) (by omega) (by omega)) | omega) ?_ | exact gt_nw (by assumption) | refine gt_odr (by first | assumption | (apply Ne.symm; assumption) | omega) ?_)
      · first | rfl | assumption
      refine Ev.icmp_ge (tgt := 78) dX2_leaveOf_27 (by decide) (fun c9 => ?_) (fun c9 => absurd (nI_le (by omega) (by omega)) c9)
      refine Ev.vret dX2_leaveOf_78 rfl ?_
      exact ⟨rfl, by rw [show k = n by omega]⟩
    | succ d ih =>
      intro k hk
      have ih' := ih (k + 1) (by omega)
      rw [lvf, lv2] at ih'
      generalize lvf (va_cpy f2 f 0 0 (8 * n)) fl sa k = g at ih' ⊢
      have q1 : gt (up M r (ia 0 328 g)) h = some (bk r w n ph rf lo hi) := gt_rd e1 hB
      have q2 : gt (up M r (ia 0 328 g)) r = some (ia 0 328 g) := gt_up hr
      have q3 : gt (up M r (ia 0 328 g)) ha = some (ob 0 fs) := gt_rd e2 hA
      have q4 : gt (up M r (ia 0 328 g)) hf = some (ia 0 41 fl) := gt_rd e4 hfl
      have q5 : gt (up M r (ia 0 328 g)) hs = some (ia 0 41 sa) := gt_rd e5 hsa
      have tail : ∀ g1 : Nat → Int32, g1 = (if g (8 * k + 7) = 0 then upd (lv1 g k (fl k)) (8 * k + 5) 0 else g) → Ev G mX2_leaveOf 56 [some (.ref h), some (.ref ha), some (.int (nI k))] [] (up M r (ia 0 328 g1)) 0 0 (fun v M' => v = none ∧ M' = up M r (ia 0 328 (lvf (va_cpy f2 f 0 0 (8 * n)) fl sa n))) := by
        intro g1 hg1
        have p1 : gt (up M r (ia 0 328 g1)) h = some (bk r w n ph rf lo hi) := gt_rd e1 hB
        have p2 : gt (up M r (ia 0 328 g1)) r = some (ia 0 328 g1) := gt_up hr
        have p3 : gt (up M r (ia 0 328 g1)) ha = some (ob 0 fs) := gt_rd e2 hA
        have p5 : gt (up M r (ia 0 328 g1)) hs = some (ia 0 41 sa) := gt_rd e5 hsa
        refine Ev.ald1 dX2_leaveOf_56 ?_
        refine Ev.ild2 dX2_leaveOf_57 ?_
        refine Ev.cvI (Yc := mX0_isOut) (ci := 0) dX2_leaveOf_58 lX2_73 vX0_isOut rfl (a_isOut k rfl p3 f07 p5 (by omega) (by omega)) ?_ rfl rfl rfl rfl ?_
        · apply Exists.intro; repeat (first | assumption | (refine gt_upI ?_; (repeat (first | exact In_of (gt_nw (by assumption)) | (apply In_of; assumption) | refine In_up ?_ | refine In_nw ?_)); done) | refine gt_rd (by first | assumption | (apply Ne.symm; assumption) | (exact hj _ _ (by omega) (by omega) (by omega)) | omega) ?_ | exact gt_nw (by assumption) | refine gt_odr (by first | assumption | (apply Ne.symm; assumption) | omega) ?_)
        rintro y M' ⟨hy, rfl⟩
        refine Ev.if_eq (tgt := 72) dX2_leaveOf_61 (by decide) (fun c61 => ?_) (fun c61 => ?_)
        · apply Ev.iinc2 dX2_leaveOf_72 rfl rfl
          · first | exact nI_inc _ | rfl
          refine Ev.goto (tgt := 22) dX2_leaveOf_75 (by decide) ?_
          rw [if_neg (if1_f hy c61), ← hg1] at ih'
          exact ih'
        · refine Ev.ald0 dX2_leaveOf_64 ?_
          refine Ev.ild2 dX2_leaveOf_65 ?_
          refine Ev.bipush (v := 7) dX2_leaveOf_66 (by decide) ?_
          refine Ev.iconst (v := 1) dX2_leaveOf_68 (by decide) ?_
          refine Ev.cvV (Yc := mX2_set) (ci := 2) dX2_leaveOf_69 lX2_48 vX2_set rfl (c_set k 7 rfl rfl p1 p2 (by omega) (by omega)) ?_ rfl rfl rfl rfl ?_
          · apply Exists.intro; repeat (first | assumption | (refine gt_upI ?_; (repeat (first | exact In_of (gt_nw (by assumption)) | (apply In_of; assumption) | refine In_up ?_ | refine In_nw ?_)); done) | refine gt_rd (by first | assumption | (apply Ne.symm; assumption) | (exact hj _ _ (by omega) (by omega) (by omega)) | omega) ?_ | exact gt_nw (by assumption) | refine gt_odr (by first | assumption | (apply Ne.symm; assumption) | omega) ?_)
          rintro M' rfl
          rw [up_up]
          apply Ev.iinc2 dX2_leaveOf_72 rfl rfl
          · first | exact nI_inc _ | rfl
          refine Ev.goto (tgt := 22) dX2_leaveOf_75 (by decide) ?_
          rw [if_pos (if1_t hy c61), ← hg1] at ih'
          exact ih'
      refine Ev.ild2 dX2_leaveOf_22 ?_
      refine Ev.ald0 dX2_leaveOf_23 ?_
      apply Ev.getf dX2_leaveOf_24 fX2_18
      · repeat (first | assumption | (refine gt_upI ?_; (repeat (first | exact In_of (gt_nw (by assumption)) | (apply In_of; assumption) | refine In_up ?_ | refine In_nw ?_)); done) | refine gt_rd (by first | assumption | (apply Ne.symm; assumption) | (exact hj _ _ (by omega) (by omega) (by omega)) | omega) ?_ | exact gt_nw (by assumption) | refine gt_odr (by first | assumption | (apply Ne.symm; assumption) | omega) ?_)
      · first | rfl | assumption
      refine Ev.icmp_ge (tgt := 78) dX2_leaveOf_27 (by decide) (fun c9 => absurd c9 (nI_ge (by omega) (by omega))) (fun c9 => ?_)
      refine Ev.ald0 dX2_leaveOf_30 ?_
      refine Ev.ild2 dX2_leaveOf_31 ?_
      refine Ev.cvI (Yc := mX2_stands) (ci := 2) dX2_leaveOf_32 lX2_57 vX2_stands rfl (c_standsN k rfl (by omega) q1 q2 (by omega)) ?_ rfl rfl rfl rfl ?_
      · apply Exists.intro; repeat (first | assumption | (refine gt_upI ?_; (repeat (first | exact In_of (gt_nw (by assumption)) | (apply In_of; assumption) | refine In_up ?_ | refine In_nw ?_)); done) | refine gt_rd (by first | assumption | (apply Ne.symm; assumption) | (exact hj _ _ (by omega) (by omega) (by omega)) | omega) ?_ | exact gt_nw (by assumption) | refine gt_odr (by first | assumption | (apply Ne.symm; assumption) | omega) ?_)
      rintro y M' ⟨hy, rfl⟩
      refine Ev.if_eq (tgt := 56) dX2_leaveOf_35 (by decide) (fun c35 => ?_) (fun c35 => ?_)
      · exact tail g (by rw [if_neg (if1_f hy c35)])
      · refine Ev.ald0 dX2_leaveOf_38 ?_
        refine Ev.ild2 dX2_leaveOf_39 ?_
        refine Ev.ald1 dX2_leaveOf_40 ?_
        apply Ev.getr dX2_leaveOf_41 fX2_70
        · repeat (first | assumption | (refine gt_upI ?_; (repeat (first | exact In_of (gt_nw (by assumption)) | (apply In_of; assumption) | refine In_up ?_ | refine In_nw ?_)); done) | refine gt_rd (by first | assumption | (apply Ne.symm; assumption) | (exact hj _ _ (by omega) (by omega) (by omega)) | omega) ?_ | exact gt_nw (by assumption) | refine gt_odr (by first | assumption | (apply Ne.symm; assumption) | omega) ?_)
        · first | rfl | assumption
        refine Ev.ild2 dX2_leaveOf_44 ?_
        apply Ev.iald dX2_leaveOf_45
        · repeat (first | assumption | (refine gt_upI ?_; (repeat (first | exact In_of (gt_nw (by assumption)) | (apply In_of; assumption) | refine In_up ?_ | refine In_nw ?_)); done) | refine gt_rd (by first | assumption | (apply Ne.symm; assumption) | (exact hj _ _ (by omega) (by omega) (by omega)) | omega) ?_ | exact gt_nw (by assumption) | refine gt_odr (by first | assumption | (apply Ne.symm; assumption) | omega) ?_)
        · exact vp_in_nI (by omega) (by omega)
        rw [nI_clamp (by omega)]
        refine Ev.cvV (Yc := mX2_leaveOne) (ci := 2) dX2_leaveOf_46 lX2_60 vX2_leaveOne rfl (c_leaveOne k rfl (by omega) e1 q1 q2) ?_ rfl rfl rfl rfl ?_
        · apply Exists.intro; repeat (first | assumption | (refine gt_upI ?_; (repeat (first | exact In_of (gt_nw (by assumption)) | (apply In_of; assumption) | refine In_up ?_ | refine In_nw ?_)); done) | refine gt_rd (by first | assumption | (apply Ne.symm; assumption) | (exact hj _ _ (by omega) (by omega) (by omega)) | omega) ?_ | exact gt_nw (by assumption) | refine gt_odr (by first | assumption | (apply Ne.symm; assumption) | omega) ?_)
        rintro M' rfl
        rw [up_up]
        have p1 : gt (up M r (ia 0 328 (lv1 g k (fl k)))) h = some (bk r w n ph rf lo hi) := gt_rd e1 hB
        have p2 : gt (up M r (ia 0 328 (lv1 g k (fl k)))) r = some (ia 0 328 (lv1 g k (fl k))) := gt_up hr
        refine Ev.ald0 dX2_leaveOf_49 ?_
        refine Ev.ild2 dX2_leaveOf_50 ?_
        refine Ev.iconst (v := 5) dX2_leaveOf_51 (by decide) ?_
        refine Ev.iconst (v := 0) dX2_leaveOf_52 (by decide) ?_
        refine Ev.cvV (Yc := mX2_set) (ci := 2) dX2_leaveOf_53 lX2_48 vX2_set rfl (c_set k 5 rfl rfl p1 p2 (by omega) (by omega)) ?_ rfl rfl rfl rfl ?_
        · apply Exists.intro; repeat (first | assumption | (refine gt_upI ?_; (repeat (first | exact In_of (gt_nw (by assumption)) | (apply In_of; assumption) | refine In_up ?_ | refine In_nw ?_)); done) | refine gt_rd (by first | assumption | (apply Ne.symm; assumption) | (exact hj _ _ (by omega) (by omega) (by omega)) | omega) ?_ | exact gt_nw (by assumption) | refine gt_odr (by first | assumption | (apply Ne.symm; assumption) | omega) ?_)
        rintro M' rfl
        rw [up_up]
        exact tail _ (by rw [if_pos (if1_t hy c35)])
  refine Ct.of (ls := [some (.ref h), some (.ref ha), none]) (by decide) (by decide) rfl rfl rfl ?_
  refine Ev.ald1 dX2_leaveOf_0 ?_
  apply Ev.getN dX2_leaveOf_1 fX2_67
  · repeat (first | assumption | (refine gt_upI ?_; (repeat (first | exact In_of (gt_nw (by assumption)) | (apply In_of; assumption) | refine In_up ?_ | refine In_nw ?_)); done) | refine gt_rd (by first | assumption | (apply Ne.symm; assumption) | (exact hj _ _ (by omega) (by omega) (by omega)) | omega) ?_ | exact gt_nw (by assumption) | refine gt_odr (by first | assumption | (apply Ne.symm; assumption) | omega) ?_)
  · first | rfl | assumption
  refine Ev.iconst (v := 0) dX2_leaveOf_4 (by decide) ?_
  refine Ev.ald0 dX2_leaveOf_5 ?_
  apply Ev.getf dX2_leaveOf_6 fX2_9
  · repeat (first | assumption | (refine gt_upI ?_; (repeat (first | exact In_of (gt_nw (by assumption)) | (apply In_of; assumption) | refine In_up ?_ | refine In_nw ?_)); done) | refine gt_rd (by first | assumption | (apply Ne.symm; assumption) | (exact hj _ _ (by omega) (by omega) (by omega)) | omega) ?_ | exact gt_nw (by assumption) | refine gt_odr (by first | assumption | (apply Ne.symm; assumption) | omega) ?_)
  · first | rfl | assumption
  refine Ev.iconst (v := 0) dX2_leaveOf_9 (by decide) ?_
  refine Ev.ald0 dX2_leaveOf_10 ?_
  apply Ev.getf dX2_leaveOf_11 fX2_18
  · repeat (first | assumption | (refine gt_upI ?_; (repeat (first | exact In_of (gt_nw (by assumption)) | (apply In_of; assumption) | refine In_up ?_ | refine In_nw ?_)); done) | refine gt_rd (by first | assumption | (apply Ne.symm; assumption) | (exact hj _ _ (by omega) (by omega) (by omega)) | omega) ?_ | exact gt_nw (by assumption) | refine gt_odr (by first | assumption | (apply Ne.symm; assumption) | omega) ?_)
  · first | rfl | assumption
  refine Ev.bipush (v := 8) dX2_leaveOf_14 (by decide) ?_
  refine Ev.imul dX2_leaveOf_16 ?_
  have z9 := cp8 (n := n) (m := 328) (by omega) (by omega)
  rw [n8]
  refine Ev.copy (f := f2) (g := f) (n0 := z) (n1 := 328) dX2_leaveOf_17 lX2_34 (fun _ => trivial) hrr hr (by decide) (by decide) z9.1 (by rw [z9.2]; show 0 + _ ≤ _; omega) (by rw [z9.2]; show 0 + _ ≤ _; omega) rfl rfl ?_
  rw [z9.2]
  refine Ev.iconst (v := 0) dX2_leaveOf_20 (by decide) ?_
  refine Ev.ist2 dX2_leaveOf_21 rfl rfl ?_
  exact L n 0 (by omega)
end LVF
theorem lv1_o {f : Nat → Int32} {k j : Nat} {x : Int32} (h : j < 8 * k ∨ 8 * k + 8 ≤ j) : lv1 f k x j = f j := by
  rw [lv1, low]
  split
  · rw [pk_un (by omega), pk_un (by omega), pk_un (by omega), pk_un (by omega)]
  · rw [pk_un (by omega), pk_un (by omega), pk_un (by omega)]
theorem lv2_o {f fl sa : Nat → Int32} {k j : Nat} (h : j < 8 * k ∨ 8 * k + 8 ≤ j) : lv2 f fl sa k j = f j := by
  rw [lv2]
  split
  · rw [pk_un (by omega)]
    split
    · rw [pk_un (by omega), lv1_o h]
    · rfl
  · split
    · rw [pk_un (by omega), lv1_o h]
    · rfl
/-- a row as it is left: side, kind, quantity, price, shows, least, owner, gone -/
theorem lv2_at {f fl sa : Nat → Int32} {k : Nat} : lv2 f fl sa k (8 * k + 0) = f (8 * k + 0) ∧ lv2 f fl sa k (8 * k + 1) = f (8 * k + 1) ∧ lv2 f fl sa k (8 * k + 3) = f (8 * k + 3) ∧ lv2 f fl sa k (8 * k + 6) = f (8 * k + 6) ∧ (f (8 * k + 7) = 0 → lv2 f fl sa k (8 * k + 2) = f (8 * k + 2) - fl k ∧ lv2 f fl sa k (8 * k + 4) = mn (f (8 * k + 4)) (f (8 * k + 2) - fl k) ∧ lv2 f fl sa k (8 * k + 5) = 0 ∧ lv2 f fl sa k (8 * k + 7) = (if sa k = 2 ∨ f (8 * k + 2) - fl k = 0 ∨ f (8 * k + 1) = 0 ∨ f (8 * k + 1) = 4 then 1 else 0)) ∧ (¬ f (8 * k + 7) = 0 → lv2 f fl sa k (8 * k + 2) = f (8 * k + 2) ∧ lv2 f fl sa k (8 * k + 4) = f (8 * k + 4) ∧ lv2 f fl sa k (8 * k + 5) = f (8 * k + 5) ∧ lv2 f fl sa k (8 * k + 7) = (if sa k = 2 then 1 else f (8 * k + 7))) := by
  have low_at : ∀ x, low f k x (8 * k + 0) = f (8 * k + 0) ∧ low f k x (8 * k + 1) = f (8 * k + 1) ∧ low f k x (8 * k + 2) = x ∧ low f k x (8 * k + 3) = f (8 * k + 3) ∧ low f k x (8 * k + 4) = mn (f (8 * k + 4)) x ∧ low f k x (8 * k + 6) = f (8 * k + 6) ∧ low f k x (8 * k + 7) = f (8 * k + 7) := by
    intro x
    rw [low]
    refine ⟨?_, ?_, ?_, ?_, ?_, ?_, ?_⟩
    · rw [pk_un (by omega), pk_un (by omega), pk_un (by omega)]
    · rw [pk_un (by omega), pk_un (by omega), pk_un (by omega)]
    · rw [pk_un (by omega), pk_un (by omega), pk_us]
    · rw [pk_un (by omega), pk_un (by omega), pk_un (by omega)]
    · rw [pk_un (by omega), pk_us]
    · rw [pk_un (by omega), pk_un (by omega), pk_un (by omega)]
    · rw [pk_un (by omega), pk_un (by omega), pk_un (by omega)]
  obtain ⟨w0, w1, w2, w3, w4, w6, w7⟩ := low_at (f (8 * k + 2) - fl k)
  have l1 : ∀ i, i < 7 → lv1 f k (fl k) (8 * k + i) = low f k (f (8 * k + 2) - fl k) (8 * k + i) := by
    intro i hi
    rw [lv1]
    split
    · rw [pk_un (by omega)]
    · rfl
  have l7 : lv1 f k (fl k) (8 * k + 7) = if f (8 * k + 2) - fl k = 0 ∨ f (8 * k + 1) = 0 ∨ f (8 * k + 1) = 4 then 1 else f (8 * k + 7) := by
    rw [lv1]
    split
    · rw [pk_us]
    · exact w7
  have s7 : ∀ i, i < 7 → lv2 f fl sa k (8 * k + i) = (if f (8 * k + 7) = 0 then upd (lv1 f k (fl k)) (8 * k + 5) 0 else f) (8 * k + i) := by
    intro i hi
    rw [lv2]
    split
    · rw [pk_un (by omega)]
    · rfl
  have g7 : lv2 f fl sa k (8 * k + 7) = if sa k = 2 then 1 else (if f (8 * k + 7) = 0 then upd (lv1 f k (fl k)) (8 * k + 5) 0 else f) (8 * k + 7) := by
    rw [lv2]
    split
    · rw [pk_us]
    · rfl
  by_cases c : f (8 * k + 7) = 0
  · rw [s7 0 (by decide), s7 1 (by decide), s7 2 (by decide), s7 3 (by decide), s7 4 (by decide), s7 5 (by decide), s7 6 (by decide), g7, if_pos c]
    rw [pk_un (show 8 * k + 0 ≠ 8 * k + 5 by omega), pk_un (show 8 * k + 1 ≠ 8 * k + 5 by omega), pk_un (show 8 * k + 2 ≠ 8 * k + 5 by omega), pk_un (show 8 * k + 3 ≠ 8 * k + 5 by omega), pk_un (show 8 * k + 4 ≠ 8 * k + 5 by omega), pk_un (show 8 * k + 6 ≠ 8 * k + 5 by omega), pk_un (show 8 * k + 7 ≠ 8 * k + 5 by omega), pk_us, l7, l1 0 (by decide), l1 1 (by decide), l1 2 (by decide), l1 3 (by decide), l1 4 (by decide), l1 6 (by decide), w0, w1, w2, w3, w4, w6, c]
    refine ⟨rfl, rfl, rfl, rfl, fun _ => ⟨rfl, rfl, rfl, ?_⟩, fun z => absurd rfl z⟩
    by_cases a : sa k = 2
    · rw [if_pos a, if_pos (Or.inl a)]
    · rw [if_neg a]
      by_cases d : f (8 * k + 2) - fl k = 0 ∨ f (8 * k + 1) = 0 ∨ f (8 * k + 1) = 4
      · rw [if_pos d, if_pos (Or.inr d)]
      · rw [if_neg d, if_neg (fun z => z.elim a d)]
  · rw [s7 0 (by decide), s7 1 (by decide), s7 2 (by decide), s7 3 (by decide), s7 4 (by decide), s7 5 (by decide), s7 6 (by decide), g7, if_neg c]
    exact ⟨rfl, rfl, rfl, rfl, fun z => absurd z c, fun _ => ⟨rfl, rfl, rfl, rfl⟩⟩
theorem lv2_cm {f g fl fl' sa sa' : Nat → Int32} {k : Nat} (h : ∀ i, i < 8 → f (8 * k + i) = g (8 * k + i)) (hl : fl k = fl' k) (hs : sa k = 2 ↔ sa' k = 2) : ∀ i, i < 8 → lv2 f fl sa k (8 * k + i) = lv2 g fl' sa' k (8 * k + i) := by
  intro i hi
  obtain ⟨a0, a1, a3, a6, aT, aF⟩ := lv2_at (f := f) (fl := fl) (sa := sa) (k := k)
  obtain ⟨b0, b1, b3, b6, bT, bF⟩ := lv2_at (f := g) (fl := fl') (sa := sa') (k := k)
  rw [← h 7 (by decide), ← h 2 (by decide), ← h 4 (by decide), ← h 1 (by decide), ← hl] at bT
  rw [← h 7 (by decide), ← h 2 (by decide), ← h 4 (by decide), ← h 5 (by decide)] at bF
  simp only [← hs] at bT bF
  have e : i = 0 ∨ i = 1 ∨ i = 2 ∨ i = 3 ∨ i = 4 ∨ i = 5 ∨ i = 6 ∨ i = 7 := by omega
  by_cases c : f (8 * k + 7) = 0
  · obtain ⟨t2, t4, t5, t7⟩ := aT c
    obtain ⟨u2, u4, u5, u7⟩ := bT c
    rcases e with rfl | rfl | rfl | rfl | rfl | rfl | rfl | rfl
    · rw [a0, b0]; exact h 0 (by decide)
    · rw [a1, b1]; exact h 1 (by decide)
    · rw [t2, u2]
    · rw [a3, b3]; exact h 3 (by decide)
    · rw [t4, u4]
    · rw [t5, u5]
    · rw [a6, b6]; exact h 6 (by decide)
    · rw [t7, u7]
  · obtain ⟨t2, t4, t5, t7⟩ := aF c
    obtain ⟨u2, u4, u5, u7⟩ := bF c
    rcases e with rfl | rfl | rfl | rfl | rfl | rfl | rfl | rfl
    · rw [a0, b0]; exact h 0 (by decide)
    · rw [a1, b1]; exact h 1 (by decide)
    · rw [t2, u2]
    · rw [a3, b3]; exact h 3 (by decide)
    · rw [t4, u4]
    · rw [t5, u5]
    · rw [a6, b6]; exact h 6 (by decide)
    · rw [t7, u7]
theorem lvf_hi {f fl sa : Nat → Int32} : ∀ i j, 8 * i ≤ j → lvf f fl sa i j = f j
  | 0, _, _ => rfl
  | i + 1, j, h => by rw [lvf, lv2_o (Or.inr (by omega)), lvf_hi i j (by omega)]
theorem lvf_row {f fl sa : Nat → Int32} {k : Nat} : ∀ i, k < i → ∀ j, j < 8 → lvf f fl sa i (8 * k + j) = lv2 f fl sa k (8 * k + j)
  | 0, h, _, _ => absurd h (by omega)
  | i + 1, h, j, hj => by
    rw [lvf]
    by_cases e : k = i
    · subst e
      exact lv2_cm (fun a ha => lvf_hi k _ (by omega)) rfl Iff.rfl j hj
    · rw [lv2_o (Or.inl (by omega)), lvf_row i (by omega) j hj]
theorem lvf_cm {f g fl fl' sa sa' : Nat → Int32} {n : Nat} (h : Ar n f g) (hl : ∀ k, k < n → fl k = fl' k) (hs : ∀ k, k < n → (sa k = 2 ↔ sa' k = 2)) : Ar n (lvf f fl sa n) (lvf g fl' sa' n) := by
  intro j hj
  have e : j = 8 * (j / 8) + j % 8 := by omega
  have k1 : j / 8 < n := by omega
  rw [e, lvf_row n k1 _ (by omega), lvf_row n k1 _ (by omega)]
  exact lv2_cm (fun i hi => h.at k1 hi) (hl _ k1) (hs _ k1) _ (by omega)
