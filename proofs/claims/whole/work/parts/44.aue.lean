/-! fills, parts, the least that is wanted -/
theorem v01_t {v : Int32} {p : Prop} {d : Decidable p} (hv : v = @ite _ p d 1 0) (h : ¬ v = 0) : p := by
  by_cases q : p
  · exact q
  · rw [if_neg q] at hv
    exact absurd hv h
theorem v01_f {v : Int32} {p : Prop} {d : Decidable p} (hv : v = @ite _ p d 1 0) (h : v = 0) : ¬ p := fun q => by
  rw [if_pos q] at hv
  rw [hv] at h
  exact absurd h (by decide)
theorem v10_t {v : Int32} {p : Prop} {d : Decidable p} (hv : v = @ite _ p d 0 1) (h : v = 0) : p := by
  by_cases q : p
  · exact q
  · rw [if_neg q] at hv
    rw [hv] at h
    exact absurd h (by decide)
theorem v10_f {v : Int32} {p : Prop} {d : Decidable p} (hv : v = @ite _ p d 0 1) (h : ¬ v = 0) : ¬ p := fun q => by
  rw [if_pos q] at hv
  exact absurd hv h
def fl0 (f : Nat → Int32) (v : Int32) : Nat → (Nat → Int32)
  | 0 => f
  | k + 1 => upd (fl0 f v k) k v
theorem fl0_at (f : Nat → Int32) (v : Int32) : ∀ (k j : Nat), fl0 f v k j = if j < k then v else f j
  | 0, j => by simp [fl0]
  | k + 1, j => by
    rw [fl0]
    by_cases h : j = k
    · subst h
      rw [pk_us, if_pos (by omega)]
    · rw [pk_un h, fl0_at f v k j]
      by_cases h2 : j < k
      · rw [if_pos h2, if_pos (by omega)]
      · rw [if_neg h2, if_neg (by omega)]
noncomputable def lus (f fl : Nat → Int32) : Nat → Int32
  | 0 => -1
  | k + 1 => if 0 < fl k ∧ fl k < f (8 * k + 5) then nI k else lus f fl k
/-- one slice's part -/
noncomputable def prt (f sa : Nat → Int32) (op pr key : Int32) : Int32 :=
  if 0 < op ∧ sa (nb key) = 0 ∧ (f (8 * nb key + 1) = 0 ∨ (f (8 * nb key + 0) = 0 ∧ pr ≤ f (8 * nb key + 3) ∨ f (8 * nb key + 0) ≠ 0 ∧ f (8 * nb key + 3) ≤ pr))
  then mn op (if f (8 * nb key + 1) = 3 then (if key &&& 64 = 0 then f (8 * nb key + 4) else f (8 * nb key + 2) - f (8 * nb key + 4)) else f (8 * nb key + 2)) else 0
theorem prt_f {f sa : Nat → Int32} {op pr key : Int32} {o : Nat} (he : nb key = o) (h : ¬ (0 < op ∧ sa o = 0 ∧ (f (8 * o + 1) = 0 ∨ (f (8 * o + 0) = 0 ∧ pr ≤ f (8 * o + 3) ∨ f (8 * o + 0) ≠ 0 ∧ f (8 * o + 3) ≤ pr)))) : 0 = prt f sa op pr key := by
  subst he
  exact (if_neg h).symm
theorem prt_t {f sa : Nat → Int32} {op pr key y : Int32} {o : Nat} (he : nb key = o) (h : 0 < op ∧ sa o = 0 ∧ (f (8 * o + 1) = 0 ∨ (f (8 * o + 0) = 0 ∧ pr ≤ f (8 * o + 3) ∨ f (8 * o + 0) ≠ 0 ∧ f (8 * o + 3) ≤ pr))) (hy : y = (if f (8 * o + 1) = 3 then (if key &&& 64 = 0 then f (8 * o + 4) else f (8 * o + 2) - f (8 * o + 4)) else f (8 * o + 2))) : (if y < op then y else op) = prt f sa op pr key := by
  subst he
  rw [prt, if_pos h, ← hy]
  rfl
/-- shared so far: what is still to give, parts, fills -/
noncomputable def shr (f sa s : Nat → Int32) (pr v : Int32) (p0 fl : Nat → Int32) : Nat → Int32 × (Nat → Int32) × (Nat → Int32)
  | 0 => (v, p0, fl)
  | i + 1 => ((shr f sa s pr v p0 fl i).1 - prt f sa (shr f sa s pr v p0 fl i).1 pr (s i), upd (shr f sa s pr v p0 fl i).2.1 i (prt f sa (shr f sa s pr v p0 fl i).1 pr (s i)), upd (shr f sa s pr v p0 fl i).2.2 (nb (s i)) ((shr f sa s pr v p0 fl i).2.2 (nb (s i)) + prt f sa (shr f sa s pr v p0 fl i).1 pr (s i)))
section AUE
variable {G : GP} {M : Wd} {ad : Nat → Nat} {so po : Nat → Option Nat} {z n r w tc : Nat} {f sa fl cn s p g : Nat → Int32} {i1 i2 i3 i4 ph rf lo hi : Int32}
set_option maxRecDepth 20000 in
theorem j_fill {a m : Nat} {v : Int32} (hM : gt M a = some (ia 0 m f)) (hm : m ≤ 100000) : CtV G mJ7_fill [.ref a, .int v] M 0 0 (fun M' => M' = up M a (ia 0 m (fl0 f v m))) := by
  have L : ∀ d k, k + d = m → Ev G mJ7_fill 5 [some (.ref a), some (.int v), some (.int (nI k)), some (.int (nI m))] [] (up M a (ia 0 m (fl0 f v k))) 0 0 (fun u M' => u = none ∧ M' = up M a (ia 0 m (fl0 f v m))) := by
    intro d
    induction d with
    | zero =>
      intro k hk
      refine Ev.ild2 dJ7_fill_5 ?_
      refine Ev.ild3 dJ7_fill_6 ?_
      refine Ev.icmp_ge (tgt := 20) dJ7_fill_7 (by decide) (fun c9 => ?_) (fun c9 => absurd (nI_le (by omega) (by omega)) c9)
      refine Ev.vret dJ7_fill_20 rfl ?_
      exact ⟨rfl, by rw [show k = m by omega]⟩
    | succ d ih =>
      intro k hk
      have e := nI_clamp (n := k) (by omega)
      have b : vp_in (nI k) m := vp_in_nI (by omega) (by omega)
      refine Ev.ild2 dJ7_fill_5 ?_
      refine Ev.ild3 dJ7_fill_6 ?_
      refine Ev.icmp_ge (tgt := 20) dJ7_fill_7 (by decide) (fun c9 => absurd c9 (nI_ge (by omega) (by omega))) (fun c9 => ?_)
      refine Ev.ald0 dJ7_fill_10 ?_
      refine Ev.ild2 dJ7_fill_11 ?_
      refine Ev.ild1 dJ7_fill_12 ?_
      apply Ev.iast dJ7_fill_13
      · repeat (first | assumption | (refine gt_upI ?_; (repeat (first | refine In_up ?_ | refine In_nw ?_)); apply In_of; assumption) | refine gt_rd (by first | assumption | (apply Ne.symm; assumption) | (exact hj _ _ (by omega) (by omega) (by omega)) | omega) ?_ | exact gt_nw (by assumption) | refine gt_odr (by first | assumption | (apply Ne.symm; assumption) | omega) ?_)
      · assumption
      apply Ev.iinc2 dJ7_fill_14 rfl rfl
      · first | exact nI_inc _ | rfl
      refine Ev.goto (tgt := 5) dJ7_fill_17 (by decide) ?_
      rw [up_up, e]
      exact ih (k + 1) (by omega)
  refine Ct.of (ls := [some (.ref a), some (.int v), none, none]) (by decide) (by decide) rfl rfl rfl ?_
  refine Ev.iconst (v := 0) dJ7_fill_0 (by decide) ?_
  refine Ev.ist2 dJ7_fill_1 rfl rfl ?_
  refine Ev.ald0 dJ7_fill_2 ?_
  apply Ev.alen dJ7_fill_3
  · repeat (first | assumption | (refine gt_upI ?_; (repeat (first | refine In_up ?_ | refine In_nw ?_)); apply In_of; assumption) | refine gt_rd (by first | assumption | (apply Ne.symm; assumption) | (exact hj _ _ (by omega) (by omega) (by omega)) | omega) ?_ | exact gt_nw (by assumption) | refine gt_odr (by first | assumption | (apply Ne.symm; assumption) | omega) ?_)
  refine Ev.ist3 dJ7_fill_4 rfl rfl ?_
  exact Ev.cgM rfl (up_id hM).symm (L m 0 (by omega))
set_option maxRecDepth 20000 in
theorem a_lastUnserved (h3 : gt M (ad 3) = some (auc ad i1 i2 i3 i4)) (h2 : gt M (ad 2) = some (ia 0 41 fl)) (h13 : gt M (ad 13) = some (bk r w n ph rf lo hi)) (h14 : gt M (ad 14) = some (ia 0 z f)) (hn : n ≤ 41) (hz : 8 * n ≤ z) (hz2 : z ≤ 100000) : CtI G mX0_lastUnserved [.ref (ad 3)] M 0 0 (fun x M' => x = lus f fl n ∧ M' = M) := by
  have L : ∀ d, d ≤ n → lus f fl n = lus f fl d → Ev G mX0_lastUnserved 10 [some (.ref (ad 3)), some (.int (nI d - 1))] [] M 0 0 (fun v M' => ∃ x, v = some (.int x) ∧ x = lus f fl n ∧ M' = M) := by
    intro d
    induction d with
    | zero =>
      intro hd he
      refine Ev.ild1 dX0_lastUnserved_10 ?_
      refine Ev.if_lt (tgt := 46) dX0_lastUnserved_11 (by decide) (fun c9 => ?_) (fun c9 => absurd (by decide) c9)
      refine Ev.iconst (v := -1) dX0_lastUnserved_46 (by decide) ?_
      refine Ev.iret dX0_lastUnserved_47 rfl rfl ?_
      exact ⟨_, rfl, by rw [he]; rfl, rfl⟩
    | succ d ih =>
      intro hd he
      rw [nI_pred]
      have e := nI_clamp (n := d) (by omega)
      have b : vp_in (nI d) 41 := vp_in_nI (by omega) (by omega)
      refine Ev.ild1 dX0_lastUnserved_10 ?_
      refine Ev.if_lt (tgt := 46) dX0_lastUnserved_11 (by decide) (fun c9 => absurd c9 (nI_pos (by omega))) (fun c9 => ?_)
      have T : ¬ (0 < fl d ∧ fl d < f (8 * d + 5)) → Ev G mX0_lastUnserved 40 [some (.ref (ad 3)), some (.int (nI d))] [] M 0 0 (fun v M' => ∃ x, v = some (.int x) ∧ x = lus f fl n ∧ M' = M) := by
        intro hq
        refine Ev.iinc1 (v := nI d - 1) dX0_lastUnserved_40 rfl rfl (by rw [show Int32.ofInt (-1) = -1 from rfl]; exact (Int32.sub_eq_add_neg _ _).symm) ?_
        refine Ev.goto (tgt := 10) dX0_lastUnserved_43 (by decide) ?_
        exact ih (by omega) (by rw [he, lus, if_neg hq])
      refine Ev.ald0 dX0_lastUnserved_14 ?_
      apply Ev.getf dX0_lastUnserved_15 fX0_25
      · repeat (first | assumption | (refine gt_upI ?_; (repeat (first | refine In_up ?_ | refine In_nw ?_)); apply In_of; assumption) | refine gt_rd (by first | assumption | (apply Ne.symm; assumption) | (exact hj _ _ (by omega) (by omega) (by omega)) | omega) ?_ | exact gt_nw (by assumption) | refine gt_odr (by first | assumption | (apply Ne.symm; assumption) | omega) ?_)
      · first | rfl | assumption
      refine Ev.ild1 dX0_lastUnserved_18 ?_
      apply Ev.iald dX0_lastUnserved_19
      · repeat (first | assumption | (refine gt_upI ?_; (repeat (first | refine In_up ?_ | refine In_nw ?_)); apply In_of; assumption) | refine gt_rd (by first | assumption | (apply Ne.symm; assumption) | (exact hj _ _ (by omega) (by omega) (by omega)) | omega) ?_ | exact gt_nw (by assumption) | refine gt_odr (by first | assumption | (apply Ne.symm; assumption) | omega) ?_)
      · assumption
      rw [e]
      refine Ev.if_le (tgt := 40) dX0_lastUnserved_20 (by decide) (fun c20 => ?_) (fun c20 => ?_)
      · first | exact T (fun q => absurd q.1 (Int32.not_lt.mpr c20)) | exact T (fun q => absurd q.2 (Int32.not_lt.mpr c35))
      · refine Ev.ald0 dX0_lastUnserved_23 ?_
        apply Ev.getf dX0_lastUnserved_24 fX0_25
        · repeat (first | assumption | (refine gt_upI ?_; (repeat (first | refine In_up ?_ | refine In_nw ?_)); apply In_of; assumption) | refine gt_rd (by first | assumption | (apply Ne.symm; assumption) | (exact hj _ _ (by omega) (by omega) (by omega)) | omega) ?_ | exact gt_nw (by assumption) | refine gt_odr (by first | assumption | (apply Ne.symm; assumption) | omega) ?_)
        · first | rfl | assumption
        refine Ev.ild1 dX0_lastUnserved_27 ?_
        apply Ev.iald dX0_lastUnserved_28
        · repeat (first | assumption | (refine gt_upI ?_; (repeat (first | refine In_up ?_ | refine In_nw ?_)); apply In_of; assumption) | refine gt_rd (by first | assumption | (apply Ne.symm; assumption) | (exact hj _ _ (by omega) (by omega) (by omega)) | omega) ?_ | exact gt_nw (by assumption) | refine gt_odr (by first | assumption | (apply Ne.symm; assumption) | omega) ?_)
        · assumption
        rw [e]
        refine Ev.ald0 dX0_lastUnserved_29 ?_
        refine Ev.ild1 dX0_lastUnserved_30 ?_
        refine Ev.iconst (v := 5) dX0_lastUnserved_31 (by decide) ?_
        refine Ev.cvI (Yc := mX0_get) (ci := 0) dX0_lastUnserved_32 lX0_86 vX0_get rfl (a_get d 5 rfl rfl h3 rfl h14 (by omega) hz2) ?_ rfl rfl rfl rfl ?_
        · apply Exists.intro; repeat (first | assumption | (refine gt_upI ?_; (repeat (first | refine In_up ?_ | refine In_nw ?_)); apply In_of; assumption) | refine gt_rd (by first | assumption | (apply Ne.symm; assumption) | (exact hj _ _ (by omega) (by omega) (by omega)) | omega) ?_ | exact gt_nw (by assumption) | refine gt_odr (by first | assumption | (apply Ne.symm; assumption) | omega) ?_)
        rintro y M' ⟨hy, rfl⟩
        subst hy
        refine Ev.icmp_ge (tgt := 40) dX0_lastUnserved_35 (by decide) (fun c35 => ?_) (fun c35 => ?_)
        · first | exact T (fun q => absurd q.1 (Int32.not_lt.mpr c20)) | exact T (fun q => absurd q.2 (Int32.not_lt.mpr c35))
        · refine Ev.ild1 dX0_lastUnserved_38 ?_
          refine Ev.iret dX0_lastUnserved_39 rfl rfl ?_
          exact ⟨_, rfl, by rw [he, lus, if_pos ⟨Int32.not_le.mp c20, Int32.not_le.mp c35⟩], rfl⟩
  refine Ct.of (ls := [some (.ref (ad 3)), none]) (by decide) (by decide) rfl rfl rfl ?_
  refine Ev.ald0 dX0_lastUnserved_0 ?_
  apply Ev.getf dX0_lastUnserved_1 fX0_62
  · repeat (first | assumption | (refine gt_upI ?_; (repeat (first | refine In_up ?_ | refine In_nw ?_)); apply In_of; assumption) | refine gt_rd (by first | assumption | (apply Ne.symm; assumption) | (exact hj _ _ (by omega) (by omega) (by omega)) | omega) ?_ | exact gt_nw (by assumption) | refine gt_odr (by first | assumption | (apply Ne.symm; assumption) | omega) ?_)
  · first | rfl | assumption
  apply Ev.getf dX0_lastUnserved_4 fX0_72
  · repeat (first | assumption | (refine gt_upI ?_; (repeat (first | refine In_up ?_ | refine In_nw ?_)); apply In_of; assumption) | refine gt_rd (by first | assumption | (apply Ne.symm; assumption) | (exact hj _ _ (by omega) (by omega) (by omega)) | omega) ?_ | exact gt_nw (by assumption) | refine gt_odr (by first | assumption | (apply Ne.symm; assumption) | omega) ?_)
  · first | rfl | assumption
  refine Ev.iconst (v := 1) dX0_lastUnserved_7 (by decide) ?_
  refine Ev.isub dX0_lastUnserved_8 ?_
  refine Ev.ist1 dX0_lastUnserved_9 rfl rfl ?_
  exact L n (Nat.le_refl _) rfl
set_option maxRecDepth 20000 in
theorem a_share {sd : Int32} {j c : Nat} (hsd : sd = nI j) (hj2 : j < 2) (hj : Inj ad) (h3 : gt M (ad 3) = some (auc ad i1 i2 i3 i4)) (h1 : gt M (ad 1) = some (cc g)) (h2 : gt M (ad 2) = some (ia 0 41 fl)) (h7 : gt M (ad 7) = some (ia 0 41 sa)) (h8 : gt M (ad 8) = some (ra 4 2 so)) (h9 : gt M (ad 9) = some (ra 4 2 po)) (h10 : gt M (ad 10) = some (ia 0 2 cn)) (h14 : gt M (ad 14) = some (ia 0 z f)) (hs : gt M (ad (15 + j)) = some (ia 0 82 s)) (hp : gt M (ad (17 + j)) = some (ia 0 82 p)) (s0 : so j = some (ad (15 + j))) (p0 : po j = some (ad (17 + j))) (hc : cn j = nI c) (hc2 : c ≤ 82) (hn : n ≤ 41) (hz : 8 * n ≤ z) (hz2 : z ≤ 100000) (hks : ∀ i, i < c → ∃ o, o < n ∧ s i &&& 63 = nI o) :
    CtV G mX0_share [.ref (ad 3), .int sd] M 0 0 (fun M' => M' = up (up M (ad (17 + j)) (ia 0 82 (shr f sa s (g 0) (g 1) p fl c).2.1)) (ad 2) (ia 0 41 (shr f sa s (g 0) (g 1) p fl c).2.2)) := by
  subst hsd
  have ej := nI_clamp (n := j) (by omega)
  have bj : vp_in (nI j) 2 := vp_in_nI (by omega) (by omega)
  have qs : so (nI j).toNatClampNeg = some (ad (15 + j)) := by rw [ej]; exact s0
  have qp : po (nI j).toNatClampNeg = some (ad (17 + j)) := by rw [ej]; exact p0
  have n2 : ad (17 + j) ≠ ad 2 := hj _ _ (by omega) (by omega) (by omega)
  have key : ∀ (pp ff : Nat → Int32), ∀ X, X = up (up M (ad (17 + j)) (ia 0 82 pp)) (ad 2) (ia 0 41 ff) → gt X (ad 3) = some (auc ad i1 i2 i3 i4) ∧ gt X (ad 1) = some (cc g) ∧ gt X (ad 2) = some (ia 0 41 ff) ∧ gt X (ad 7) = some (ia 0 41 sa) ∧ gt X (ad 8) = some (ra 4 2 so) ∧ gt X (ad 9) = some (ra 4 2 po) ∧ gt X (ad 10) = some (ia 0 2 cn) ∧ gt X (ad 14) = some (ia 0 z f) ∧ gt X (ad (15 + j)) = some (ia 0 82 s) ∧ gt X (ad (17 + j)) = some (ia 0 82 pp) := by
    rintro pp ff X rfl
    have N : ∀ i, i < 20 → i ≠ 17 + j → i ≠ 2 → ∀ e, gt M (ad i) = some e → gt (up (up M (ad (17 + j)) (ia 0 82 pp)) (ad 2) (ia 0 41 ff)) (ad i) = some e := fun i h1 h2 h3 e h => gt_rd (hj _ _ h1 (by omega) h3) (gt_rd (hj _ _ h1 (by omega) h2) h)
    exact ⟨N 3 (by omega) (by omega) (by omega) _ h3, N 1 (by omega) (by omega) (by omega) _ h1, gt_upI (In_up (In_of h2)), N 7 (by omega) (by omega) (by omega) _ h7, N 8 (by omega) (by omega) (by omega) _ h8, N 9 (by omega) (by omega) (by omega) _ h9, N 10 (by omega) (by omega) (by omega) _ h10, N 14 (by omega) (by omega) (by omega) _ h14, N (15 + j) (by omega) (by omega) (by omega) _ hs, gt_rd n2 (gt_up hp)⟩
  have L : ∀ d i a4 a5 a6 a7, i + d = c → Ev G mX0_share 10 [some (.ref (ad 3)), some (.int (nI j)), some (.int (shr f sa s (g 0) (g 1) p fl i).1), some (.int (nI i)), a4, a5, a6, a7] [] (up (up M (ad (17 + j)) (ia 0 82 (shr f sa s (g 0) (g 1) p fl i).2.1)) (ad 2) (ia 0 41 (shr f sa s (g 0) (g 1) p fl i).2.2)) 0 0 (fun v M' => v = none ∧ M' = up (up M (ad (17 + j)) (ia 0 82 (shr f sa s (g 0) (g 1) p fl c).2.1)) (ad 2) (ia 0 41 (shr f sa s (g 0) (g 1) p fl c).2.2)) := by
    intro d
    induction d with
    | zero =>
      intro i a4 a5 a6 a7 hi
      obtain ⟨q3, q1, q2, q7, q8, q9, q10, q14, q15, q17⟩ := key _ _ _ (rfl : up (up M (ad (17 + j)) (ia 0 82 (shr f sa s (g 0) (g 1) p fl i).2.1)) (ad 2) (ia 0 41 (shr f sa s (g 0) (g 1) p fl i).2.2) = _)
      refine Ev.ild3 dX0_share_10 ?_
      refine Ev.ald0 dX0_share_11 ?_
      apply Ev.getf dX0_share_12 fX0_53
      · repeat (first | assumption | (refine gt_upI ?_; (repeat (first | refine In_up ?_ | refine In_nw ?_)); apply In_of; assumption) | refine gt_rd (by first | assumption | (apply Ne.symm; assumption) | (exact hj _ _ (by omega) (by omega) (by omega)) | omega) ?_ | exact gt_nw (by assumption) | refine gt_odr (by first | assumption | (apply Ne.symm; assumption) | omega) ?_)
      · first | rfl | assumption
      refine Ev.ild1 dX0_share_15 ?_
      apply Ev.iald dX0_share_16
      · repeat (first | assumption | (refine gt_upI ?_; (repeat (first | refine In_up ?_ | refine In_nw ?_)); apply In_of; assumption) | refine gt_rd (by first | assumption | (apply Ne.symm; assumption) | (exact hj _ _ (by omega) (by omega) (by omega)) | omega) ?_ | exact gt_nw (by assumption) | refine gt_odr (by first | assumption | (apply Ne.symm; assumption) | omega) ?_)
      · assumption
      rw [ej, hc]
      refine Ev.icmp_ge (tgt := 128) dX0_share_17 (by decide) (fun c9 => ?_) (fun c9 => absurd (nI_le (by omega) (by omega)) c9)
      refine Ev.vret dX0_share_128 rfl ?_
      exact ⟨rfl, by rw [show i = c by omega]⟩
    | succ d ih =>
      intro i a4 a5 a6 a7 hi
      obtain ⟨q3, q1, q2, q7, q8, q9, q10, q14, q15, q17⟩ := key _ _ _ (rfl : up (up M (ad (17 + j)) (ia 0 82 (shr f sa s (g 0) (g 1) p fl i).2.1)) (ad 2) (ia 0 41 (shr f sa s (g 0) (g 1) p fl i).2.2) = _)
      obtain ⟨o, ho, hno⟩ := hks i (by omega)
      have enb : nb (s i) = o := by rw [nb, hno]; exact nI_clamp (by omega)
      have e := nI_clamp (n := i) (by omega)
      have eo := nI_clamp (n := o) (by omega)
      have b : vp_in (nI i) 82 := vp_in_nI (by omega) (by omega)
      have bo : vp_in (nI o) 41 := vp_in_nI (by omega) (by omega)
      generalize hX : up (up M (ad (17 + j)) (ia 0 82 (shr f sa s (g 0) (g 1) p fl i).2.1)) (ad 2) (ia 0 41 (shr f sa s (g 0) (g 1) p fl i).2.2) = X at *
      generalize hop : (shr f sa s (g 0) (g 1) p fl i).1 = op at *
      have J3 : ∀ x a6, x = prt f sa op (g 0) (s i) → Ev G mX0_share 93 [some (.ref (ad 3)), some (.int (nI j)), some (.int op), some (.int (nI i)), some (.int (s i)), some (.int (nI o)), some (.int a6), a7] [.int x] X 0 0 (fun v M' => v = none ∧ M' = up (up M (ad (17 + j)) (ia 0 82 (shr f sa s (g 0) (g 1) p fl c).2.1)) (ad 2) (ia 0 41 (shr f sa s (g 0) (g 1) p fl c).2.2)) := by
        intro x a6 hx
        refine Ev.ist7 dX0_share_93 rfl rfl ?_
        refine Ev.ald0 dX0_share_95 ?_
        apply Ev.getf dX0_share_96 fX0_50
        · repeat (first | assumption | (refine gt_upI ?_; (repeat (first | refine In_up ?_ | refine In_nw ?_)); apply In_of; assumption) | refine gt_rd (by first | assumption | (apply Ne.symm; assumption) | (exact hj _ _ (by omega) (by omega) (by omega)) | omega) ?_ | exact gt_nw (by assumption) | refine gt_odr (by first | assumption | (apply Ne.symm; assumption) | omega) ?_)
        · first | rfl | assumption
        refine Ev.ild1 dX0_share_99 ?_
        apply Ev.arld dX0_share_100
        · repeat (first | assumption | (refine gt_upI ?_; (repeat (first | refine In_up ?_ | refine In_nw ?_)); apply In_of; assumption) | refine gt_rd (by first | assumption | (apply Ne.symm; assumption) | (exact hj _ _ (by omega) (by omega) (by omega)) | omega) ?_ | exact gt_nw (by assumption) | refine gt_odr (by first | assumption | (apply Ne.symm; assumption) | omega) ?_)
        · assumption
        · assumption
        refine Ev.ild3 dX0_share_101 ?_
        refine Ev.ild7 dX0_share_102 ?_
        apply Ev.iast dX0_share_104
        · repeat (first | assumption | (refine gt_upI ?_; (repeat (first | refine In_up ?_ | refine In_nw ?_)); apply In_of; assumption) | refine gt_rd (by first | assumption | (apply Ne.symm; assumption) | (exact hj _ _ (by omega) (by omega) (by omega)) | omega) ?_ | exact gt_nw (by assumption) | refine gt_odr (by first | assumption | (apply Ne.symm; assumption) | omega) ?_)
        · assumption
        refine Ev.ald0 dX0_share_105 ?_
        apply Ev.getf dX0_share_106 fX0_25
        · repeat (first | assumption | (refine gt_upI ?_; (repeat (first | refine In_up ?_ | refine In_nw ?_)); apply In_of; assumption) | refine gt_rd (by first | assumption | (apply Ne.symm; assumption) | (exact hj _ _ (by omega) (by omega) (by omega)) | omega) ?_ | exact gt_nw (by assumption) | refine gt_odr (by first | assumption | (apply Ne.symm; assumption) | omega) ?_)
        · first | rfl | assumption
        refine Ev.ild5 dX0_share_109 ?_
        refine Ev.dup2 dX0_share_111 rfl rfl ?_
        apply Ev.iald dX0_share_112
        · repeat (first | assumption | (refine gt_upI ?_; (repeat (first | refine In_up ?_ | refine In_nw ?_)); apply In_of; assumption) | refine gt_rd (by first | assumption | (apply Ne.symm; assumption) | (exact hj _ _ (by omega) (by omega) (by omega)) | omega) ?_ | exact gt_nw (by assumption) | refine gt_odr (by first | assumption | (apply Ne.symm; assumption) | omega) ?_)
        · assumption
        refine Ev.ild7 dX0_share_113 ?_
        refine Ev.iadd dX0_share_115 ?_
        apply Ev.iast dX0_share_116
        · repeat (first | assumption | (refine gt_upI ?_; (repeat (first | refine In_up ?_ | refine In_nw ?_)); apply In_of; assumption) | refine gt_rd (by first | assumption | (apply Ne.symm; assumption) | (exact hj _ _ (by omega) (by omega) (by omega)) | omega) ?_ | exact gt_nw (by assumption) | refine gt_odr (by first | assumption | (apply Ne.symm; assumption) | omega) ?_)
        · assumption
        rw [e, eo]
        refine Ev.ild2 dX0_share_117 ?_
        refine Ev.ild7 dX0_share_118 ?_
        refine Ev.isub dX0_share_120 ?_
        refine Ev.ist2 dX0_share_121 rfl rfl ?_
        apply Ev.iinc3 dX0_share_122 rfl rfl
        · first | exact nI_inc _ | rfl
        refine Ev.goto (tgt := 10) dX0_share_125 (by decide) ?_
        refine Ev.cgM ?_ ?_ (ih (i + 1) (some (.int (s i))) (some (.int (nI o))) (some (.int a6)) (some (.int x)) (by omega))
        · rw [shr, hop, ← hx]
        · rw [shr, hop, ← hx, ← hX, enb, up_sw n2.symm, up_up, up_up]
      have J2 : ∀ v : Int32, v = (if 0 < op ∧ sa o = 0 ∧ (f (8 * o + 1) = 0 ∨ (f (8 * o + 0) = 0 ∧ g 0 ≤ f (8 * o + 3) ∨ f (8 * o + 0) ≠ 0 ∧ f (8 * o + 3) ≤ g 0)) then 1 else 0) → Ev G mX0_share 72 [some (.ref (ad 3)), some (.int (nI j)), some (.int op), some (.int (nI i)), some (.int (s i)), some (.int (nI o)), a6, a7] [.int v] X 0 0 (fun v M' => v = none ∧ M' = up (up M (ad (17 + j)) (ia 0 82 (shr f sa s (g 0) (g 1) p fl c).2.1)) (ad 2) (ia 0 41 (shr f sa s (g 0) (g 1) p fl c).2.2)) := by
        intro v hv
        refine Ev.ist6 dX0_share_72 rfl rfl ?_
        refine Ev.ild6 dX0_share_74 ?_
        refine Ev.if_eq (tgt := 92) dX0_share_76 (by decide) (fun c76 => ?_) (fun c76 => ?_)
        · refine Ev.iconst (v := 0) dX0_share_92 (by decide) ?_
          first | exact J3 _ _ (prt_f enb (v01_f hv c76)) | exact J3 _ _ (prt_t enb (v01_t hv c76) hy)
        · refine Ev.ild2 dX0_share_79 ?_
          refine Ev.ald0 dX0_share_80 ?_
          refine Ev.ild4 dX0_share_81 ?_
          refine Ev.cvI (Yc := mX0_sizeOf) (ci := 0) dX0_share_83 lX0_177 vX0_sizeOf rfl (a_sizeOf o hno q3 rfl q14 (by omega) hz2) ?_ rfl rfl rfl rfl ?_
          · apply Exists.intro; repeat (first | assumption | (refine gt_upI ?_; (repeat (first | refine In_up ?_ | refine In_nw ?_)); apply In_of; assumption) | refine gt_rd (by first | assumption | (apply Ne.symm; assumption) | (exact hj _ _ (by omega) (by omega) (by omega)) | omega) ?_ | exact gt_nw (by assumption) | refine gt_odr (by first | assumption | (apply Ne.symm; assumption) | omega) ?_)
          rintro y M' ⟨hy, rfl⟩
          refine Ev.min dX0_share_86 lX0_149 rfl rfl ?_
          refine Ev.goto (tgt := 93) dX0_share_89 (by decide) ?_
          first | exact J3 _ _ (prt_f enb (v01_f hv c76)) | exact J3 _ _ (prt_t enb (v01_t hv c76) hy)
      refine Ev.ild3 dX0_share_10 ?_
      refine Ev.ald0 dX0_share_11 ?_
      apply Ev.getf dX0_share_12 fX0_53
      · repeat (first | assumption | (refine gt_upI ?_; (repeat (first | refine In_up ?_ | refine In_nw ?_)); apply In_of; assumption) | refine gt_rd (by first | assumption | (apply Ne.symm; assumption) | (exact hj _ _ (by omega) (by omega) (by omega)) | omega) ?_ | exact gt_nw (by assumption) | refine gt_odr (by first | assumption | (apply Ne.symm; assumption) | omega) ?_)
      · first | rfl | assumption
      refine Ev.ild1 dX0_share_15 ?_
      apply Ev.iald dX0_share_16
      · repeat (first | assumption | (refine gt_upI ?_; (repeat (first | refine In_up ?_ | refine In_nw ?_)); apply In_of; assumption) | refine gt_rd (by first | assumption | (apply Ne.symm; assumption) | (exact hj _ _ (by omega) (by omega) (by omega)) | omega) ?_ | exact gt_nw (by assumption) | refine gt_odr (by first | assumption | (apply Ne.symm; assumption) | omega) ?_)
      · assumption
      rw [ej, hc]
      refine Ev.icmp_ge (tgt := 128) dX0_share_17 (by decide) (fun c9 => absurd c9 (nI_ge (by omega) (by omega))) (fun c9 => ?_)
      refine Ev.ald0 dX0_share_20 ?_
      apply Ev.getf dX0_share_21 fX0_47
      · repeat (first | assumption | (refine gt_upI ?_; (repeat (first | refine In_up ?_ | refine In_nw ?_)); apply In_of; assumption) | refine gt_rd (by first | assumption | (apply Ne.symm; assumption) | (exact hj _ _ (by omega) (by omega) (by omega)) | omega) ?_ | exact gt_nw (by assumption) | refine gt_odr (by first | assumption | (apply Ne.symm; assumption) | omega) ?_)
      · first | rfl | assumption
      refine Ev.ild1 dX0_share_24 ?_
      apply Ev.arld dX0_share_25
      · repeat (first | assumption | (refine gt_upI ?_; (repeat (first | refine In_up ?_ | refine In_nw ?_)); apply In_of; assumption) | refine gt_rd (by first | assumption | (apply Ne.symm; assumption) | (exact hj _ _ (by omega) (by omega) (by omega)) | omega) ?_ | exact gt_nw (by assumption) | refine gt_odr (by first | assumption | (apply Ne.symm; assumption) | omega) ?_)
      · assumption
      · assumption
      refine Ev.ild3 dX0_share_26 ?_
      apply Ev.iald dX0_share_27
      · repeat (first | assumption | (refine gt_upI ?_; (repeat (first | refine In_up ?_ | refine In_nw ?_)); apply In_of; assumption) | refine gt_rd (by first | assumption | (apply Ne.symm; assumption) | (exact hj _ _ (by omega) (by omega) (by omega)) | omega) ?_ | exact gt_nw (by assumption) | refine gt_odr (by first | assumption | (apply Ne.symm; assumption) | omega) ?_)
      · assumption
      rw [e]
      refine Ev.ist4 dX0_share_28 rfl rfl ?_
      refine Ev.ild4 dX0_share_30 ?_
      refine Ev.csI (Yc := mX0_numberOf) dX0_share_32 lX0_104 vX0_numberOf rfl a_numberOf rfl rfl rfl ?_
      rintro x M' ⟨hx, rfl⟩
      rw [hno] at hx; subst hx
      refine Ev.ist5 dX0_share_35 rfl rfl ?_
      refine Ev.ild2 dX0_share_37 ?_
      refine Ev.if_le (tgt := 71) dX0_share_38 (by decide) (fun c38 => ?_) (fun c38 => ?_)
      · refine Ev.iconst (v := 0) dX0_share_71 (by decide) ?_
        first | exact J2 0 (if_neg (fun q => absurd q.1 (Int32.not_lt.mpr c38))).symm | exact J2 0 (if_neg (fun q => c48 q.2.1)).symm | exact J2 0 (if_neg (fun q => v01_f hy c64 q.2.2)).symm | exact J2 1 (if_pos ⟨Int32.not_le.mp c38, c48, v01_t hy c64⟩).symm
      · refine Ev.ald0 dX0_share_41 ?_
        apply Ev.getf dX0_share_42 fX0_42
        · repeat (first | assumption | (refine gt_upI ?_; (repeat (first | refine In_up ?_ | refine In_nw ?_)); apply In_of; assumption) | refine gt_rd (by first | assumption | (apply Ne.symm; assumption) | (exact hj _ _ (by omega) (by omega) (by omega)) | omega) ?_ | exact gt_nw (by assumption) | refine gt_odr (by first | assumption | (apply Ne.symm; assumption) | omega) ?_)
        · first | rfl | assumption
        refine Ev.ild5 dX0_share_45 ?_
        apply Ev.iald dX0_share_47
        · repeat (first | assumption | (refine gt_upI ?_; (repeat (first | refine In_up ?_ | refine In_nw ?_)); apply In_of; assumption) | refine gt_rd (by first | assumption | (apply Ne.symm; assumption) | (exact hj _ _ (by omega) (by omega) (by omega)) | omega) ?_ | exact gt_nw (by assumption) | refine gt_odr (by first | assumption | (apply Ne.symm; assumption) | omega) ?_)
        · assumption
        rw [eo]
        refine Ev.if_ne (tgt := 71) dX0_share_48 (by decide) (fun c48 => ?_) (fun c48 => ?_)
        · refine Ev.iconst (v := 0) dX0_share_71 (by decide) ?_
          first | exact J2 0 (if_neg (fun q => absurd q.1 (Int32.not_lt.mpr c38))).symm | exact J2 0 (if_neg (fun q => c48 q.2.1)).symm | exact J2 0 (if_neg (fun q => v01_f hy c64 q.2.2)).symm | exact J2 1 (if_pos ⟨Int32.not_le.mp c38, c48, v01_t hy c64⟩).symm
        · refine Ev.ald0 dX0_share_51 ?_
          refine Ev.ild5 dX0_share_52 ?_
          refine Ev.ald0 dX0_share_54 ?_
          apply Ev.getf dX0_share_55 fX0_21
          · repeat (first | assumption | (refine gt_upI ?_; (repeat (first | refine In_up ?_ | refine In_nw ?_)); apply In_of; assumption) | refine gt_rd (by first | assumption | (apply Ne.symm; assumption) | (exact hj _ _ (by omega) (by omega) (by omega)) | omega) ?_ | exact gt_nw (by assumption) | refine gt_odr (by first | assumption | (apply Ne.symm; assumption) | omega) ?_)
          · first | rfl | assumption
          apply Ev.getf dX0_share_58 fX0_174
          · repeat (first | assumption | (refine gt_upI ?_; (repeat (first | refine In_up ?_ | refine In_nw ?_)); apply In_of; assumption) | refine gt_rd (by first | assumption | (apply Ne.symm; assumption) | (exact hj _ _ (by omega) (by omega) (by omega)) | omega) ?_ | exact gt_nw (by assumption) | refine gt_odr (by first | assumption | (apply Ne.symm; assumption) | omega) ?_)
          · first | rfl | assumption
          refine Ev.cvI (Yc := mX0_isWilling) (ci := 0) dX0_share_61 lX0_112 vX0_isWilling rfl (a_isWilling o rfl q3 rfl q14 (by omega) hz2) ?_ rfl rfl rfl rfl ?_
          · apply Exists.intro; repeat (first | assumption | (refine gt_upI ?_; (repeat (first | refine In_up ?_ | refine In_nw ?_)); apply In_of; assumption) | refine gt_rd (by first | assumption | (apply Ne.symm; assumption) | (exact hj _ _ (by omega) (by omega) (by omega)) | omega) ?_ | exact gt_nw (by assumption) | refine gt_odr (by first | assumption | (apply Ne.symm; assumption) | omega) ?_)
          rintro y M' ⟨hy, rfl⟩
          refine Ev.if_eq (tgt := 71) dX0_share_64 (by decide) (fun c64 => ?_) (fun c64 => ?_)
          · refine Ev.iconst (v := 0) dX0_share_71 (by decide) ?_
            first | exact J2 0 (if_neg (fun q => absurd q.1 (Int32.not_lt.mpr c38))).symm | exact J2 0 (if_neg (fun q => c48 q.2.1)).symm | exact J2 0 (if_neg (fun q => v01_f hy c64 q.2.2)).symm | exact J2 1 (if_pos ⟨Int32.not_le.mp c38, c48, v01_t hy c64⟩).symm
          · refine Ev.iconst (v := 1) dX0_share_67 (by decide) ?_
            refine Ev.goto (tgt := 72) dX0_share_68 (by decide) ?_
            first | exact J2 0 (if_neg (fun q => absurd q.1 (Int32.not_lt.mpr c38))).symm | exact J2 0 (if_neg (fun q => c48 q.2.1)).symm | exact J2 0 (if_neg (fun q => v01_f hy c64 q.2.2)).symm | exact J2 1 (if_pos ⟨Int32.not_le.mp c38, c48, v01_t hy c64⟩).symm
  refine Ct.of (ls := [some (.ref (ad 3)), some (.int (nI j)), none, none, none, none, none, none]) (by decide) (by decide) rfl rfl rfl ?_
  refine Ev.ald0 dX0_share_0 ?_
  apply Ev.getf dX0_share_1 fX0_21
  · repeat (first | assumption | (refine gt_upI ?_; (repeat (first | refine In_up ?_ | refine In_nw ?_)); apply In_of; assumption) | refine gt_rd (by first | assumption | (apply Ne.symm; assumption) | (exact hj _ _ (by omega) (by omega) (by omega)) | omega) ?_ | exact gt_nw (by assumption) | refine gt_odr (by first | assumption | (apply Ne.symm; assumption) | omega) ?_)
  · first | rfl | assumption
  apply Ev.getf dX0_share_4 fX0_171
  · repeat (first | assumption | (refine gt_upI ?_; (repeat (first | refine In_up ?_ | refine In_nw ?_)); apply In_of; assumption) | refine gt_rd (by first | assumption | (apply Ne.symm; assumption) | (exact hj _ _ (by omega) (by omega) (by omega)) | omega) ?_ | exact gt_nw (by assumption) | refine gt_odr (by first | assumption | (apply Ne.symm; assumption) | omega) ?_)
  · first | rfl | assumption
  refine Ev.ist2 dX0_share_7 rfl rfl ?_
  refine Ev.iconst (v := 0) dX0_share_8 (by decide) ?_
  refine Ev.ist3 dX0_share_9 rfl rfl ?_
  refine Ev.cgM rfl ?_ (L c 0 _ _ _ _ (by omega))
  rw [shr, up_id hp, up_id h2]
end AUE
