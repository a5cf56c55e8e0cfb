/-! the class's reader: words, numbers, faults -/
abbrev tk (b : Nat) (c : Nat → Nat) (n p : Nat) (v : Int32) (F : Nat) (hr hc : Int32) : En := tc b 0 (nI n) (nI (tkA c n p)) (nI (xtE c n p)) (nI (tkT c n p)) v (nI F) hr hc
def Vp (c : Nat → Nat) (n p : Nat) (v : Int32) : Prop := tkT c n p = 2 → v = nI (tkV c n p)
/-- text i is the word W -/
def Tw (i : Nat) (W : List Nat) : Prop := i < 16 ∧ lenS.getD i 0 = W.length ∧ W.length ≤ 9 ∧ ∀ k, k < W.length → (bytS.getD i []).getD k 0 = nI (wf W k) ∧ wf W k < 128
theorem tw_re : Tw 0 Wre := ⟨by decide, rfl, by decide, by decide⟩
theorem tw_co : Tw 1 Wco := ⟨by decide, rfl, by decide, by decide⟩
theorem tw_bu : Tw 2 Wbu := ⟨by decide, rfl, by decide, by decide⟩
theorem tw_ma : Tw 3 Wma := ⟨by decide, rfl, by decide, by decide⟩
theorem tw_li : Tw 4 Wli := ⟨by decide, rfl, by decide, by decide⟩
theorem tw_hi : Tw 5 Whi := ⟨by decide, rfl, by decide, by decide⟩
theorem tw_ic : Tw 6 Wic := ⟨by decide, rfl, by decide, by decide⟩
theorem tw_ev : Tw 7 Wev := ⟨by decide, rfl, by decide, by decide⟩
theorem tw_at : Tw 8 Wat := ⟨by decide, rfl, by decide, by decide⟩
theorem tw_sh : Tw 9 Wsh := ⟨by decide, rfl, by decide, by decide⟩
theorem tw_le : Tw 10 Wle := ⟨by decide, rfl, by decide, by decide⟩
theorem tw_by : Tw 11 Wby := ⟨by decide, rfl, by decide, by decide⟩
theorem tw_se : Tw 12 Wse := ⟨by decide, rfl, by decide, by decide⟩
theorem tkT_le4 {c : Nat → Nat} {n p : Nat} : tkT c n p ≤ 4 := by
  rw [tkT]
  split
  · omega
  · split
    · split <;> omega
    · split
      · split <;> omega
      · split <;> omega
section RDW
variable {G : GP} {M : Wd} {a b n p F : Nat} {c : Nat → Nat} {t : Nat → Int32} {v hr hc : Int32}
set_option maxRecDepth 20000 in
theorem t_is {i : Nat} {W : List Nat} (hW : Tw i W) (hA : gt M a = some (tk b c n p v F hr hc)) (hB : gt M b = some (ia 1 800 t)) (hn : n ≤ 800) (hp : p ≤ n) (hT : Bt t n c) : CtI G mX4_is [.ref a, .ref (gC G (100 + i))] M 0 0 (fun y M' => y = (if iwb c n p W = true then 1 else 0) ∧ M' = M) := by
  obtain ⟨hi, hlen, h9, hw⟩ := hW
  have h4 := tkT_le4 (c := c) (n := n) (p := p)
  have hA1 := tkA_le (c := c) hp
  have hE1 := tkE_le (c := c) hp
  have hX1 := xtE_le (c := c) hp
  have n1 : nI (tkT c n p) = 1 ↔ tkT c n p = 1 := nI_eq (b := 1) (by omega) (by omega)
  have no : ∀ a2, ¬ iw c n p W → Ev G mX4_is 24 [some (.ref a), some (.ref (gC G (100 + i))), a2] [] M 0 0 (fun v M' => ∃ x : Int32, v = some (.int x) ∧ x = (if iwb c n p W = true then 1 else 0) ∧ M' = M) := by
    intro a2 hno
    refine Ev.iconst (v := 0) dX4_is_24 (by decide) ?_
    refine Ev.iret dX4_is_25 rfl rfl ?_
    exact ⟨_, rfl, by rw [if_neg (fun z => hno (iwb_i.mp z))], rfl⟩
  refine Ct.of (ls := [some (.ref a), some (.ref (gC G (100 + i))), none]) (by decide) (by decide) rfl rfl rfl ?_
  refine Ev.ald0 dX4_is_0 ?_
  apply Ev.getf dX4_is_1 fX4_28
  · repeat (first | assumption | (refine gt_upI ?_; (repeat (first | exact In_of (gt_nw (by assumption)) | (apply In_of; assumption) | refine In_up ?_ | refine In_nw ?_)); done) | refine gt_rd (by first | assumption | (apply Ne.symm; assumption) | (exact hj _ _ (by omega) (by omega) (by omega)) | omega) ?_ | exact gt_nw (by assumption) | refine gt_odr (by first | assumption | (apply Ne.symm; assumption) | omega) ?_)
  · first | rfl | assumption
  refine Ev.iconst (v := 1) dX4_is_4 (by decide) ?_
  refine Ev.icmp_ne (tgt := 24) dX4_is_5 (by decide) (fun c5 => ?_) (fun c5 => ?_)
  · exact no _ (fun z => c5 (n1.mpr z.1))
  · have t1 : tkT c n p = 1 := n1.mp c5
    have eE : xtE c n p = tkE c n p := xtE_E (by omega)
    have es : nI (xtE c n p) - nI (tkA c n p) = nI (tkE c n p - tkA c n p) := by rw [eE]; exact nI_subI hE1.1
    refine Ev.ald0 dX4_is_8 ?_
    apply Ev.getf dX4_is_9 fX4_25
    · repeat (first | assumption | (refine gt_upI ?_; (repeat (first | exact In_of (gt_nw (by assumption)) | (apply In_of; assumption) | refine In_up ?_ | refine In_nw ?_)); done) | refine gt_rd (by first | assumption | (apply Ne.symm; assumption) | (exact hj _ _ (by omega) (by omega) (by omega)) | omega) ?_ | exact gt_nw (by assumption) | refine gt_odr (by first | assumption | (apply Ne.symm; assumption) | omega) ?_)
    · first | rfl | assumption
    refine Ev.ald0 dX4_is_12 ?_
    apply Ev.getf dX4_is_13 fX4_22
    · repeat (first | assumption | (refine gt_upI ?_; (repeat (first | exact In_of (gt_nw (by assumption)) | (apply In_of; assumption) | refine In_up ?_ | refine In_nw ?_)); done) | refine gt_rd (by first | assumption | (apply Ne.symm; assumption) | (exact hj _ _ (by omega) (by omega) (by omega)) | omega) ?_ | exact gt_nw (by assumption) | refine gt_odr (by first | assumption | (apply Ne.symm; assumption) | omega) ?_)
    · first | rfl | assumption
    refine Ev.isub dX4_is_16 ?_
    refine Ev.ald1 dX4_is_17 ?_
    rw [es]
    refine Ev.cvS (Yc := mJ0_le) (As := []) hi dX4_is_18 lX4_130 vJ0_le rfl rfl (j_le hi) rfl rfl rfl ?_
    rintro z M' ⟨rfl, rfl⟩
    rw [hlen]
    refine Ev.icmp_eq (tgt := 26) dX4_is_21 (by decide) (fun c21 => ?_) (fun c21 => ?_)
    · have hL : tkE c n p - tkA c n p = W.length := (nI_eq (by omega) (by omega)).mp c21
      have LL : ∀ d k, k + d = W.length → (∀ j, j < k → c (tkA c n p + j) = wf W j) → Ev G mX4_is 28 [some (.ref a), some (.ref (gC G (100 + i))), some (.int (nI k))] [] M' 0 0 (fun v M'' => ∃ x : Int32, v = some (.int x) ∧ x = (if iwb c n p W = true then 1 else 0) ∧ M'' = M') := by
        intro d
        induction d with
        | zero =>
          intro k hk hj
          refine Ev.ild2 dX4_is_28 ?_
          refine Ev.ald1 dX4_is_29 ?_
          refine Ev.cvS (Yc := mJ0_le) (As := []) hi dX4_is_30 lX4_130 vJ0_le rfl rfl (j_le hi) rfl rfl rfl ?_
          rintro z M'' ⟨rfl, rfl⟩
          rw [hlen]
          refine Ev.icmp_ge (tgt := 63) dX4_is_33 (by decide) (fun c9 => ?_) (fun c9 => absurd (nI_le (by omega) (by omega)) c9)
          refine Ev.iconst (v := 1) dX4_is_63 (by decide) ?_
          refine Ev.iret dX4_is_64 rfl rfl ?_
          exact ⟨_, rfl, by rw [if_pos (iwb_i.mpr ⟨t1, hL, fun j hj2 => hj j (by omega)⟩)], rfl⟩
        | succ d ih =>
          intro k hk hj
          obtain ⟨w1, w2⟩ := hw k (by omega)
          have hq := hT.eq (j := tkA c n p + k) (show tkA c n p + k < n by omega) w2
          refine Ev.ild2 dX4_is_28 ?_
          refine Ev.ald1 dX4_is_29 ?_
          refine Ev.cvS (Yc := mJ0_le) (As := []) hi dX4_is_30 lX4_130 vJ0_le rfl rfl (j_le hi) rfl rfl rfl ?_
          rintro z M'' ⟨rfl, rfl⟩
          rw [hlen]
          refine Ev.icmp_ge (tgt := 63) dX4_is_33 (by decide) (fun c9 => absurd c9 (nI_ge (by omega) (by omega))) (fun c9 => ?_)
          refine Ev.ald0 dX4_is_36 ?_
          apply Ev.getf dX4_is_37 fX4_15
          · repeat (first | assumption | (refine gt_upI ?_; (repeat (first | exact In_of (gt_nw (by assumption)) | (apply In_of; assumption) | refine In_up ?_ | refine In_nw ?_)); done) | refine gt_rd (by first | assumption | (apply Ne.symm; assumption) | (exact hj _ _ (by omega) (by omega) (by omega)) | omega) ?_ | exact gt_nw (by assumption) | refine gt_odr (by first | assumption | (apply Ne.symm; assumption) | omega) ?_)
          · first | rfl | assumption
          refine Ev.ald0 dX4_is_40 ?_
          apply Ev.getf dX4_is_41 fX4_22
          · repeat (first | assumption | (refine gt_upI ?_; (repeat (first | exact In_of (gt_nw (by assumption)) | (apply In_of; assumption) | refine In_up ?_ | refine In_nw ?_)); done) | refine gt_rd (by first | assumption | (apply Ne.symm; assumption) | (exact hj _ _ (by omega) (by omega) (by omega)) | omega) ?_ | exact gt_nw (by assumption) | refine gt_odr (by first | assumption | (apply Ne.symm; assumption) | omega) ?_)
          · first | rfl | assumption
          refine Ev.ild2 dX4_is_44 ?_
          refine Ev.iadd dX4_is_45 ?_
          rw [nI_add]
          apply Ev.bald dX4_is_46
          · repeat (first | assumption | (refine gt_upI ?_; (repeat (first | exact In_of (gt_nw (by assumption)) | (apply In_of; assumption) | refine In_up ?_ | refine In_nw ?_)); done) | refine gt_rd (by first | assumption | (apply Ne.symm; assumption) | (exact hj _ _ (by omega) (by omega) (by omega)) | omega) ?_ | exact gt_nw (by assumption) | refine gt_odr (by first | assumption | (apply Ne.symm; assumption) | omega) ?_)
          · exact vp_in_nI (by omega) (by omega)
          refine Ev.ald1 dX4_is_47 ?_
          refine Ev.ild2 dX4_is_48 ?_
          rw [nI_clamp (by omega)]
          refine Ev.cvS (Yc := mJ0_ca) (As := [.int (nI k)]) hi dX4_is_49 lX4_135 vJ0_ca rfl rfl (j_ca hi (by omega)) rfl rfl rfl ?_
          rintro z M'' ⟨rfl, rfl⟩
          rw [w1]
          refine Ev.icmp_eq (tgt := 57) dX4_is_52 (by decide) (fun c52 => ?_) (fun c52 => ?_)
          · apply Ev.iinc2 dX4_is_57 rfl rfl
            · first | exact nI_inc _ | rfl
            refine Ev.goto (tgt := 28) dX4_is_60 (by decide) ?_
            exact ih (k + 1) (by omega) (fun j hj2 => by
              by_cases e : j = k
              · rw [e]; exact hq.mp c52
              · exact hj j (by omega))
          · refine Ev.iconst (v := 0) dX4_is_55 (by decide) ?_
            refine Ev.iret dX4_is_56 rfl rfl ?_
            exact ⟨_, rfl, by rw [if_neg (fun z => c52 (hq.mpr ((iwb_i.mp z).2.2 k (by omega))))], rfl⟩
      refine Ev.iconst (v := 0) dX4_is_26 (by decide) ?_
      refine Ev.ist2 dX4_is_27 rfl rfl ?_
      exact LL W.length 0 (by omega) (fun j hj => by omega)
    · exact no _ (fun z => c21 (by rw [z.2.1]))
set_option maxRecDepth 20000 in
theorem t_fail {x : Int32} (k : Nat) (hx : x = nI k) (hk : 1 ≤ k) (hk2 : k ≤ 4) (hn : n ≤ 800) (hp : p ≤ n) (hF : F < 100000) (hA : gt M a = some (tk b c n p v F hr hc)) : CtV G mX4_fail [.ref a, .int x] M 0 0 (fun M' => M' = up M a (tk b c n p v (if F = 0 then 8 * tkA c n p + k else F) hr hc)) := by
  have hA1 := tkA_le (c := c) hp
  have n0 : nI F = 0 ↔ F = 0 := nI_eq (b := 0) (by omega) (by omega)
  refine Ct.of (ls := [some (.ref a), some (.int x)]) (by decide) (by decide) rfl rfl rfl ?_
  refine Ev.ald0 dX4_fail_0 ?_
  apply Ev.getf dX4_fail_1 fX4_34
  · repeat (first | assumption | (refine gt_upI ?_; (repeat (first | exact In_of (gt_nw (by assumption)) | (apply In_of; assumption) | refine In_up ?_ | refine In_nw ?_)); done) | refine gt_rd (by first | assumption | (apply Ne.symm; assumption) | (exact hj _ _ (by omega) (by omega) (by omega)) | omega) ?_ | exact gt_nw (by assumption) | refine gt_odr (by first | assumption | (apply Ne.symm; assumption) | omega) ?_)
  · first | rfl | assumption
  refine Ev.if_ne (tgt := 20) dX4_fail_4 (by decide) (fun c4 => ?_) (fun c4 => ?_)
  · refine Ev.vret dX4_fail_20 rfl ?_
    exact ⟨rfl, by rw [if_neg (fun z => c4 (n0.mpr z))]; exact (up_id hA).symm⟩
  · refine Ev.ald0 dX4_fail_7 ?_
    refine Ev.bipush (v := 8) dX4_fail_8 (by decide) ?_
    refine Ev.ald0 dX4_fail_10 ?_
    apply Ev.getf dX4_fail_11 fX4_22
    · repeat (first | assumption | (refine gt_upI ?_; (repeat (first | exact In_of (gt_nw (by assumption)) | (apply In_of; assumption) | refine In_up ?_ | refine In_nw ?_)); done) | refine gt_rd (by first | assumption | (apply Ne.symm; assumption) | (exact hj _ _ (by omega) (by omega) (by omega)) | omega) ?_ | exact gt_nw (by assumption) | refine gt_odr (by first | assumption | (apply Ne.symm; assumption) | omega) ?_)
    · first | rfl | assumption
    refine Ev.imul dX4_fail_14 ?_
    refine Ev.ild1 dX4_fail_15 ?_
    refine Ev.iadd dX4_fail_16 ?_
    apply Ev.put dX4_fail_17 fX4_34
    · repeat (first | assumption | (refine gt_upI ?_; (repeat (first | exact In_of (gt_nw (by assumption)) | (apply In_of; assumption) | refine In_up ?_ | refine In_nw ?_)); done) | refine gt_rd (by first | assumption | (apply Ne.symm; assumption) | (exact hj _ _ (by omega) (by omega) (by omega)) | omega) ?_ | exact gt_nw (by assumption) | refine gt_odr (by first | assumption | (apply Ne.symm; assumption) | omega) ?_)
    · rfl
    · rfl
    · rfl
    refine Ev.vret dX4_fail_20 rfl ?_
    have e : (8 : Int32) * nI (tkA c n p) + x = nI (8 * tkA c n p + k) := by
      rw [hx]
      have := pk_mul 8 (tkA c n p)
      rw [show nI 8 = 8 from rfl] at this
      rw [this, nI_add]
    refine ⟨rfl, ?_⟩
    rw [if_pos (n0.mp c4), e]
    rfl
/-- the fault behind a number -/
noncomputable def fW (c : Nat → Nat) (n p F : Nat) (v lo hi : Int32) : Nat := if F = 0 then (if tkT c n p = 2 then (if lo ≤ v ∧ v ≤ hi then 0 else 8 * tkA c n p + 2) else 8 * tkA c n p + 1) else F
set_option maxRecDepth 20000 in
theorem t_readWhole {lo hi : Int32} (hA : gt M a = some (tk b c n p v F hr hc)) (hB : gt M b = some (ia 1 800 t)) (hab : a ≠ b) (hn : n ≤ 800) (hp : p ≤ n) (hT : Bt t n c) (hF : F < 100000) : CtI G mX4_readWhole [.ref a, .int lo, .int hi] M 0 0 (fun y M' => y = v ∧ ∃ v' : Int32, Vp c n (xtE c n p) v' ∧ M' = up M a (tk b c n (xtE c n p) v' (fW c n p F v lo hi) hr hc)) := by
  have h4 := tkT_le4 (c := c) (n := n) (p := p)
  have hX1 := xtE_le (c := c) hp
  have n2 : nI (tkT c n p) = 2 ↔ tkT c n p = 2 := nI_eq (b := 2) (by omega) (by omega)
  have tail : ∀ (a3 : Option Value) (F' : Nat) (X : Wd), X = up M a (tk b c n p v F' hr hc) → F' = fW c n p F v lo hi → Ev G mX4_readWhole 33 [some (.ref a), some (.int lo), some (.int hi), a3] [] X 0 0 (fun u M' => ∃ y : Int32, u = some (.int y) ∧ y = v ∧ ∃ v' : Int32, Vp c n (xtE c n p) v' ∧ M' = up M a (tk b c n (xtE c n p) v' (fW c n p F v lo hi) hr hc)) := by
    intro a3 F' X hX hF'
    have q1 : gt X a = some (tk b c n p v F' hr hc) := by rw [hX]; exact gt_up hA
    have q2 : gt X b = some (ia 1 800 t) := by rw [hX]; exact gt_rd hab.symm hB
    refine Ev.ald0 dX4_readWhole_33 ?_
    apply Ev.getf dX4_readWhole_34 fX4_31
    · repeat (first | assumption | (refine gt_upI ?_; (repeat (first | exact In_of (gt_nw (by assumption)) | (apply In_of; assumption) | refine In_up ?_ | refine In_nw ?_)); done) | refine gt_rd (by first | assumption | (apply Ne.symm; assumption) | (exact hj _ _ (by omega) (by omega) (by omega)) | omega) ?_ | exact gt_nw (by assumption) | refine gt_odr (by first | assumption | (apply Ne.symm; assumption) | omega) ?_)
    · first | rfl | assumption
    refine Ev.ist3 dX4_readWhole_37 rfl rfl ?_
    refine Ev.ald0 dX4_readWhole_38 ?_
    refine Ev.cvV (Yc := mX4_next) (ci := 4) dX4_readWhole_39 lX4_50 vX4_next rfl (t_next q1 q2 hab hn hX1.2 hT) ?_ rfl rfl rfl rfl ?_
    · apply Exists.intro; repeat (first | assumption | (refine gt_upI ?_; (repeat (first | exact In_of (gt_nw (by assumption)) | (apply In_of; assumption) | refine In_up ?_ | refine In_nw ?_)); done) | refine gt_rd (by first | assumption | (apply Ne.symm; assumption) | (exact hj _ _ (by omega) (by omega) (by omega)) | omega) ?_ | exact gt_nw (by assumption) | refine gt_odr (by first | assumption | (apply Ne.symm; assumption) | omega) ?_)
    rintro M' ⟨v', hv', rfl⟩
    refine Ev.ild3 dX4_readWhole_42 ?_
    refine Ev.iret dX4_readWhole_43 rfl rfl ?_
    exact ⟨_, rfl, rfl, v', hv', by rw [hX, up_up, hF']⟩
  refine Ct.of (ls := [some (.ref a), some (.int lo), some (.int hi), none]) (by decide) (by decide) rfl rfl rfl ?_
  refine Ev.ald0 dX4_readWhole_0 ?_
  apply Ev.getf dX4_readWhole_1 fX4_28
  · repeat (first | assumption | (refine gt_upI ?_; (repeat (first | exact In_of (gt_nw (by assumption)) | (apply In_of; assumption) | refine In_up ?_ | refine In_nw ?_)); done) | refine gt_rd (by first | assumption | (apply Ne.symm; assumption) | (exact hj _ _ (by omega) (by omega) (by omega)) | omega) ?_ | exact gt_nw (by assumption) | refine gt_odr (by first | assumption | (apply Ne.symm; assumption) | omega) ?_)
  · first | rfl | assumption
  refine Ev.iconst (v := 2) dX4_readWhole_4 (by decide) ?_
  refine Ev.icmp_eq (tgt := 16) dX4_readWhole_5 (by decide) (fun c5 => ?_) (fun c5 => ?_)
  · have t2 := n2.mp c5
    refine Ev.ald0 dX4_readWhole_16 ?_
    apply Ev.getf dX4_readWhole_17 fX4_31
    · repeat (first | assumption | (refine gt_upI ?_; (repeat (first | exact In_of (gt_nw (by assumption)) | (apply In_of; assumption) | refine In_up ?_ | refine In_nw ?_)); done) | refine gt_rd (by first | assumption | (apply Ne.symm; assumption) | (exact hj _ _ (by omega) (by omega) (by omega)) | omega) ?_ | exact gt_nw (by assumption) | refine gt_odr (by first | assumption | (apply Ne.symm; assumption) | omega) ?_)
    · first | rfl | assumption
    refine Ev.ild1 dX4_readWhole_20 ?_
    refine Ev.ild2 dX4_readWhole_21 ?_
    refine Ev.csNI (Yc := mX5_within) dX4_readWhole_22 lX4_126 vX5_within rfl k_within rfl rfl rfl ?_
    rintro y M' ⟨hy, rfl⟩
    refine Ev.if_ne (tgt := 33) dX4_readWhole_25 (by decide) (fun c25 => ?_) (fun c25 => ?_)
    · have t3 := if1_t hy c25
      refine tail _ F _ (up_id hA).symm ?_
      rw [fW, if_pos t2, if_pos t3]
      split
      · assumption
      · rfl
    · have t3 := if1_f hy c25
      refine Ev.ald0 dX4_readWhole_28 ?_
      refine Ev.iconst (v := 2) dX4_readWhole_29 (by decide) ?_
      refine Ev.cvV (Yc := mX4_fail) (ci := 4) dX4_readWhole_30 lX4_57 vX4_fail rfl (t_fail 2 rfl (by omega) (by omega) hn hp hF hA) ?_ rfl rfl rfl rfl ?_
      · apply Exists.intro; repeat (first | assumption | (refine gt_upI ?_; (repeat (first | exact In_of (gt_nw (by assumption)) | (apply In_of; assumption) | refine In_up ?_ | refine In_nw ?_)); done) | refine gt_rd (by first | assumption | (apply Ne.symm; assumption) | (exact hj _ _ (by omega) (by omega) (by omega)) | omega) ?_ | exact gt_nw (by assumption) | refine gt_odr (by first | assumption | (apply Ne.symm; assumption) | omega) ?_)
      rintro M' rfl
      refine tail _ _ _ rfl ?_
      rw [fW, if_pos t2, if_neg t3]
  · have t2 : ¬ tkT c n p = 2 := fun z => c5 (n2.mpr z)
    refine Ev.ald0 dX4_readWhole_8 ?_
    refine Ev.iconst (v := 1) dX4_readWhole_9 (by decide) ?_
    refine Ev.cvV (Yc := mX4_fail) (ci := 4) dX4_readWhole_10 lX4_57 vX4_fail rfl (t_fail 1 rfl (by omega) (by omega) hn hp hF hA) ?_ rfl rfl rfl rfl ?_
    · apply Exists.intro; repeat (first | assumption | (refine gt_upI ?_; (repeat (first | exact In_of (gt_nw (by assumption)) | (apply In_of; assumption) | refine In_up ?_ | refine In_nw ?_)); done) | refine gt_rd (by first | assumption | (apply Ne.symm; assumption) | (exact hj _ _ (by omega) (by omega) (by omega)) | omega) ?_ | exact gt_nw (by assumption) | refine gt_odr (by first | assumption | (apply Ne.symm; assumption) | omega) ?_)
    rintro M' rfl
    refine Ev.goto (tgt := 33) dX4_readWhole_13 (by decide) ?_
    refine tail _ _ _ rfl ?_
    rw [fW, if_neg t2]
set_option maxRecDepth 20000 in
theorem t_passes {i : Nat} {W : List Nat} (hW : Tw i W) (hA : gt M a = some (tk b c n p v F hr hc)) (hB : gt M b = some (ia 1 800 t)) (hab : a ≠ b) (hn : n ≤ 800) (hp : p ≤ n) (hT : Bt t n c) (hF : F < 100000) : CtI G mX4_passes [.ref a, .ref (gC G (100 + i))] M 0 0 (fun y M' => iwb c n p W = true ∧ y = 1 ∧ (∃ v' : Int32, Vp c n (tkE c n p) v' ∧ M' = up M a (tk b c n (tkE c n p) v' F hr hc)) ∨ ¬ iwb c n p W = true ∧ y = 0 ∧ M' = up M a (tk b c n p v (if F = 0 then 8 * tkA c n p + 1 else F) hr hc)) := by
  have hX1 := xtE_le (c := c) hp
  refine Ct.of (ls := [some (.ref a), some (.ref (gC G (100 + i)))]) (by decide) (by decide) rfl rfl rfl ?_
  refine Ev.ald0 dX4_passes_0 ?_
  refine Ev.ald1 dX4_passes_1 ?_
  refine Ev.cvI (Yc := mX4_is) (ci := 4) dX4_passes_2 lX4_63 vX4_is rfl (t_is hW hA hB hn hp hT) ?_ rfl rfl rfl rfl ?_
  · apply Exists.intro; repeat (first | assumption | (refine gt_upI ?_; (repeat (first | exact In_of (gt_nw (by assumption)) | (apply In_of; assumption) | refine In_up ?_ | refine In_nw ?_)); done) | refine gt_rd (by first | assumption | (apply Ne.symm; assumption) | (exact hj _ _ (by omega) (by omega) (by omega)) | omega) ?_ | exact gt_nw (by assumption) | refine gt_odr (by first | assumption | (apply Ne.symm; assumption) | omega) ?_)
  rintro y M' ⟨hy, rfl⟩
  refine Ev.if_ne (tgt := 15) dX4_passes_5 (by decide) (fun c5 => ?_) (fun c5 => ?_)
  · have t1 := if1_t hy c5
    have eE : xtE c n p = tkE c n p := xtE_E (by have := (iwb_i.mp t1).1; omega)
    refine Ev.ald0 dX4_passes_15 ?_
    refine Ev.cvV (Yc := mX4_next) (ci := 4) dX4_passes_16 lX4_50 vX4_next rfl (t_next hA hB hab hn hX1.2 hT) ?_ rfl rfl rfl rfl ?_
    · apply Exists.intro; repeat (first | assumption | (refine gt_upI ?_; (repeat (first | exact In_of (gt_nw (by assumption)) | (apply In_of; assumption) | refine In_up ?_ | refine In_nw ?_)); done) | refine gt_rd (by first | assumption | (apply Ne.symm; assumption) | (exact hj _ _ (by omega) (by omega) (by omega)) | omega) ?_ | exact gt_nw (by assumption) | refine gt_odr (by first | assumption | (apply Ne.symm; assumption) | omega) ?_)
    rintro M' ⟨v', hv', rfl⟩
    refine Ev.iconst (v := 1) dX4_passes_19 (by decide) ?_
    refine Ev.iret dX4_passes_20 rfl rfl ?_
    rw [eE] at hv'
    exact ⟨_, rfl, Or.inl ⟨t1, rfl, v', hv', by rw [eE]⟩⟩
  · have t1 := if1_f hy c5
    refine Ev.ald0 dX4_passes_8 ?_
    refine Ev.iconst (v := 1) dX4_passes_9 (by decide) ?_
    refine Ev.cvV (Yc := mX4_fail) (ci := 4) dX4_passes_10 lX4_57 vX4_fail rfl (t_fail 1 rfl (by omega) (by omega) hn hp hF hA) ?_ rfl rfl rfl rfl ?_
    · apply Exists.intro; repeat (first | assumption | (refine gt_upI ?_; (repeat (first | exact In_of (gt_nw (by assumption)) | (apply In_of; assumption) | refine In_up ?_ | refine In_nw ?_)); done) | refine gt_rd (by first | assumption | (apply Ne.symm; assumption) | (exact hj _ _ (by omega) (by omega) (by omega)) | omega) ?_ | exact gt_nw (by assumption) | refine gt_odr (by first | assumption | (apply Ne.symm; assumption) | omega) ?_)
    rintro M' rfl
    refine Ev.iconst (v := 0) dX4_passes_13 (by decide) ?_
    refine Ev.iret dX4_passes_14 rfl rfl ?_
    exact ⟨_, rfl, Or.inr ⟨t1, rfl, rfl⟩⟩
set_option maxRecDepth 20000 in
theorem t_readKind (hA : gt M a = some (tk b c n p v F hr hc)) (hB : gt M b = some (ia 1 800 t)) (hab : a ≠ b) (hn : n ≤ 800) (hp : p ≤ n) (hT : Bt t n c) (hF : F < 100000) : CtI G mX4_readKind [.ref a] M 0 0 (fun y M' => (∃ kd, kdh c n p = some kd ∧ kd ≤ 4 ∧ y = nI kd ∧ ∃ v' : Int32, Vp c n (tkE c n p) v' ∧ M' = up M a (tk b c n (tkE c n p) v' F hr hc)) ∨ kdh c n p = none ∧ y = -1 ∧ M' = up M a (tk b c n p v (if F = 0 then 8 * tkA c n p + 1 else F) hr hc)) := by
  have hX1 := xtE_le (c := c) hp
  have hit : ∀ kd, kd ≤ 4 → kdh c n p = some kd → tkT c n p ≠ 4 → Ev G mX4_readKind 66 [some (.ref a), none] [.int (nI kd)] M 0 0 (fun u M' => ∃ y : Int32, u = some (.int y) ∧ ((∃ kd, kdh c n p = some kd ∧ kd ≤ 4 ∧ y = nI kd ∧ ∃ v' : Int32, Vp c n (tkE c n p) v' ∧ M' = up M a (tk b c n (tkE c n p) v' F hr hc)) ∨ kdh c n p = none ∧ y = -1 ∧ M' = up M a (tk b c n p v (if F = 0 then 8 * tkA c n p + 1 else F) hr hc))) := by
    intro kd hkd hk t4
    have eE : xtE c n p = tkE c n p := xtE_E t4
    refine Ev.ist1 dX4_readKind_66 rfl rfl ?_
    refine Ev.ild1 dX4_readKind_67 ?_
    refine Ev.iconst (v := -1) dX4_readKind_68 (by decide) ?_
    refine Ev.icmp_ne (tgt := 80) dX4_readKind_69 (by decide) (fun _ => ?_) (fun c9 => absurd c9 (nI_n1 (by omega)))
    refine Ev.ald0 dX4_readKind_80 ?_
    refine Ev.cvV (Yc := mX4_next) (ci := 4) dX4_readKind_81 lX4_50 vX4_next rfl (t_next hA hB hab hn hX1.2 hT) ?_ rfl rfl rfl rfl ?_
    · apply Exists.intro; repeat (first | assumption | (refine gt_upI ?_; (repeat (first | exact In_of (gt_nw (by assumption)) | (apply In_of; assumption) | refine In_up ?_ | refine In_nw ?_)); done) | refine gt_rd (by first | assumption | (apply Ne.symm; assumption) | (exact hj _ _ (by omega) (by omega) (by omega)) | omega) ?_ | exact gt_nw (by assumption) | refine gt_odr (by first | assumption | (apply Ne.symm; assumption) | omega) ?_)
    rintro M' ⟨v', hv', rfl⟩
    refine Ev.ild1 dX4_readKind_84 ?_
    refine Ev.iret dX4_readKind_85 rfl rfl ?_
    rw [eE] at hv'
    exact ⟨_, rfl, Or.inl ⟨kd, hk, hkd, rfl, v', hv', by rw [eE]⟩⟩
  have t4 : ∀ {W}, iwb c n p W = true → tkT c n p ≠ 4 := fun z => by have := (iwb_i.mp z).1; omega
  refine Ct.of (ls := [some (.ref a), none]) (by decide) (by decide) rfl rfl rfl ?_
  refine Ev.ald0 dX4_readKind_0 ?_
  refine Ev.ldcs 3 (by decide) rfl dX4_readKind_1 ?_
  refine Ev.cvI (Yc := mX4_is) (ci := 4) dX4_readKind_3 lX4_63 vX4_is rfl (t_is tw_ma hA hB hn hp hT) ?_ rfl rfl rfl rfl ?_
  · apply Exists.intro; repeat (first | assumption | (refine gt_upI ?_; (repeat (first | exact In_of (gt_nw (by assumption)) | (apply In_of; assumption) | refine In_up ?_ | refine In_nw ?_)); done) | refine gt_rd (by first | assumption | (apply Ne.symm; assumption) | (exact hj _ _ (by omega) (by omega) (by omega)) | omega) ?_ | exact gt_nw (by assumption) | refine gt_odr (by first | assumption | (apply Ne.symm; assumption) | omega) ?_)
  rintro y1 M1 ⟨hy1, rfl⟩
  refine Ev.if_eq (tgt := 13) dX4_readKind_6 (by decide) (fun c6 => ?_) (fun c6 => ?_)
  · have f1 := if1_f hy1 c6
    refine Ev.ald0 dX4_readKind_13 ?_
    refine Ev.ldcs 4 (by decide) rfl dX4_readKind_14 ?_
    refine Ev.cvI (Yc := mX4_is) (ci := 4) dX4_readKind_16 lX4_63 vX4_is rfl (t_is tw_li hA hB hn hp hT) ?_ rfl rfl rfl rfl ?_
    · apply Exists.intro; repeat (first | assumption | (refine gt_upI ?_; (repeat (first | exact In_of (gt_nw (by assumption)) | (apply In_of; assumption) | refine In_up ?_ | refine In_nw ?_)); done) | refine gt_rd (by first | assumption | (apply Ne.symm; assumption) | (exact hj _ _ (by omega) (by omega) (by omega)) | omega) ?_ | exact gt_nw (by assumption) | refine gt_odr (by first | assumption | (apply Ne.symm; assumption) | omega) ?_)
    rintro y2 M1 ⟨hy2, rfl⟩
    refine Ev.if_eq (tgt := 26) dX4_readKind_19 (by decide) (fun c19 => ?_) (fun c19 => ?_)
    · have f2 := if1_f hy2 c19
      refine Ev.ald0 dX4_readKind_26 ?_
      refine Ev.ldcs 5 (by decide) rfl dX4_readKind_27 ?_
      refine Ev.cvI (Yc := mX4_is) (ci := 4) dX4_readKind_29 lX4_63 vX4_is rfl (t_is tw_hi hA hB hn hp hT) ?_ rfl rfl rfl rfl ?_
      · apply Exists.intro; repeat (first | assumption | (refine gt_upI ?_; (repeat (first | exact In_of (gt_nw (by assumption)) | (apply In_of; assumption) | refine In_up ?_ | refine In_nw ?_)); done) | refine gt_rd (by first | assumption | (apply Ne.symm; assumption) | (exact hj _ _ (by omega) (by omega) (by omega)) | omega) ?_ | exact gt_nw (by assumption) | refine gt_odr (by first | assumption | (apply Ne.symm; assumption) | omega) ?_)
      rintro y3 M1 ⟨hy3, rfl⟩
      refine Ev.if_eq (tgt := 39) dX4_readKind_32 (by decide) (fun c32 => ?_) (fun c32 => ?_)
      · have f3 := if1_f hy3 c32
        refine Ev.ald0 dX4_readKind_39 ?_
        refine Ev.ldcs 6 (by decide) rfl dX4_readKind_40 ?_
        refine Ev.cvI (Yc := mX4_is) (ci := 4) dX4_readKind_42 lX4_63 vX4_is rfl (t_is tw_ic hA hB hn hp hT) ?_ rfl rfl rfl rfl ?_
        · apply Exists.intro; repeat (first | assumption | (refine gt_upI ?_; (repeat (first | exact In_of (gt_nw (by assumption)) | (apply In_of; assumption) | refine In_up ?_ | refine In_nw ?_)); done) | refine gt_rd (by first | assumption | (apply Ne.symm; assumption) | (exact hj _ _ (by omega) (by omega) (by omega)) | omega) ?_ | exact gt_nw (by assumption) | refine gt_odr (by first | assumption | (apply Ne.symm; assumption) | omega) ?_)
        rintro y4 M1 ⟨hy4, rfl⟩
        refine Ev.if_eq (tgt := 52) dX4_readKind_45 (by decide) (fun c45 => ?_) (fun c45 => ?_)
        · have f4 := if1_f hy4 c45
          refine Ev.ald0 dX4_readKind_52 ?_
          refine Ev.ldcs 7 (by decide) rfl dX4_readKind_53 ?_
          refine Ev.cvI (Yc := mX4_is) (ci := 4) dX4_readKind_55 lX4_63 vX4_is rfl (t_is tw_ev hA hB hn hp hT) ?_ rfl rfl rfl rfl ?_
          · apply Exists.intro; repeat (first | assumption | (refine gt_upI ?_; (repeat (first | exact In_of (gt_nw (by assumption)) | (apply In_of; assumption) | refine In_up ?_ | refine In_nw ?_)); done) | refine gt_rd (by first | assumption | (apply Ne.symm; assumption) | (exact hj _ _ (by omega) (by omega) (by omega)) | omega) ?_ | exact gt_nw (by assumption) | refine gt_odr (by first | assumption | (apply Ne.symm; assumption) | omega) ?_)
          rintro y5 M1 ⟨hy5, rfl⟩
          refine Ev.if_eq (tgt := 65) dX4_readKind_58 (by decide) (fun c58 => ?_) (fun c58 => ?_)
          · have f5 := if1_f hy5 c58
            have hk : kdh c n p = none := by rw [kdh, if_neg f1, if_neg f2, if_neg f3, if_neg f4, if_neg f5]
            refine Ev.iconst (v := -1) dX4_readKind_65 (by decide) ?_
            refine Ev.ist1 dX4_readKind_66 rfl rfl ?_
            refine Ev.ild1 dX4_readKind_67 ?_
            refine Ev.iconst (v := -1) dX4_readKind_68 (by decide) ?_
            refine Ev.icmp_ne (tgt := 80) dX4_readKind_69 (by decide) (fun c9 => absurd rfl c9) (fun _ => ?_)
            refine Ev.ald0 dX4_readKind_72 ?_
            refine Ev.iconst (v := 1) dX4_readKind_73 (by decide) ?_
            refine Ev.cvV (Yc := mX4_fail) (ci := 4) dX4_readKind_74 lX4_57 vX4_fail rfl (t_fail 1 rfl (by omega) (by omega) hn hp hF hA) ?_ rfl rfl rfl rfl ?_
            · apply Exists.intro; repeat (first | assumption | (refine gt_upI ?_; (repeat (first | exact In_of (gt_nw (by assumption)) | (apply In_of; assumption) | refine In_up ?_ | refine In_nw ?_)); done) | refine gt_rd (by first | assumption | (apply Ne.symm; assumption) | (exact hj _ _ (by omega) (by omega) (by omega)) | omega) ?_ | exact gt_nw (by assumption) | refine gt_odr (by first | assumption | (apply Ne.symm; assumption) | omega) ?_)
            rintro M' rfl
            refine Ev.goto (tgt := 84) dX4_readKind_77 (by decide) ?_
            refine Ev.ild1 dX4_readKind_84 ?_
            refine Ev.iret dX4_readKind_85 rfl rfl ?_
            exact ⟨_, rfl, Or.inr ⟨hk, rfl, rfl⟩⟩
          · have f5 := if1_t hy5 c58
            refine Ev.iconst (v := 4) dX4_readKind_61 (by decide) ?_
            refine Ev.goto (tgt := 66) dX4_readKind_62 (by decide) ?_
            exact hit 4 (by omega) (by rw [kdh, if_neg f1, if_neg f2, if_neg f3, if_neg f4, if_pos f5]) (t4 f5)
        · have f4 := if1_t hy4 c45
          refine Ev.iconst (v := 3) dX4_readKind_48 (by decide) ?_
          refine Ev.goto (tgt := 66) dX4_readKind_49 (by decide) ?_
          exact hit 3 (by omega) (by rw [kdh, if_neg f1, if_neg f2, if_neg f3, if_pos f4]) (t4 f4)
      · have f3 := if1_t hy3 c32
        refine Ev.iconst (v := 2) dX4_readKind_35 (by decide) ?_
        refine Ev.goto (tgt := 66) dX4_readKind_36 (by decide) ?_
        exact hit 2 (by omega) (by rw [kdh, if_neg f1, if_neg f2, if_pos f3]) (t4 f3)
    · have f2 := if1_t hy2 c19
      refine Ev.iconst (v := 1) dX4_readKind_22 (by decide) ?_
      refine Ev.goto (tgt := 66) dX4_readKind_23 (by decide) ?_
      exact hit 1 (by omega) (by rw [kdh, if_neg f1, if_pos f2]) (t4 f2)
  · have f1 := if1_t hy1 c6
    refine Ev.iconst (v := 0) dX4_readKind_9 (by decide) ?_
    refine Ev.goto (tgt := 66) dX4_readKind_10 (by decide) ?_
    exact hit 0 (by omega) (by rw [kdh, if_pos f1]) (t4 f1)
end RDW
