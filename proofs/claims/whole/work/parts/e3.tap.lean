/-! the class's tape: bytes, tokens -/
abbrev tc (b : Nat) (sz en st af ty v f hr hc : Int32) : En := ob 4 [.int sz, .ref b, .int en, .int st, .int af, .int ty, .int v, .int f, .int hr, .int hc]
/-- bytes and their codes -/
def Bt (t : Nat → Int32) (n : Nat) (c : Nat → Nat) : Prop := ∀ j, j < n → c j < 256 ∧ (c j < 128 → t j = nI (c j)) ∧ (128 ≤ c j → t j < 0)
theorem Bt.eq {t : Nat → Int32} {n j k : Nat} {c : Nat → Nat} (h : Bt t n c) (hj : j < n) (hk : k < 128) : t j = nI k ↔ c j = k := by
  obtain ⟨h0, h1, h2⟩ := h j hj
  by_cases w : c j < 128
  · rw [h1 w]
    exact nI_eq (by omega) (by omega)
  · constructor
    · intro e
      have := h2 (by omega)
      rw [e] at this
      exact absurd this (nI_pos (by omega))
    · intro e
      omega
def tyc (x : Int32) : Int32 := if 97 ≤ x ∧ x ≤ 122 then 1 else if 48 ≤ x ∧ x ≤ 57 then 2 else if x = 59 then 3 else 4
def tyN (x : Nat) : Nat := if pL x = true then 1 else if pD x = true then 2 else if x = 59 then 3 else 4
theorem Bt.neg {x : Int32} (h : x < 0) {a : Nat} (ha : a < 2 ^ 31) : ¬ nI a ≤ x := fun z => by
  have := Int32.lt_of_le_of_lt z h
  exact nI_pos ha this
theorem tyc_n {t : Nat → Int32} {n j : Nat} {c : Nat → Nat} (h : Bt t n c) (hj : j < n) : tyc (t j) = nI (tyN (c j)) := by
  have h59 := h.eq hj (k := 59) (by omega)
  obtain ⟨h0, h1, h2⟩ := h j hj
  by_cases w : c j < 128
  · have e := h1 w
    rw [tyc, tyN, e]
    by_cases l : pL (c j) = true
    · rw [if_pos ((pL_iff h0).mp l), if_pos l]
      rfl
    · rw [if_neg (fun z => l ((pL_iff h0).mpr z)), if_neg l]
      by_cases d : pD (c j) = true
      · rw [if_pos ((pD_iff h0).mp d), if_pos d]
        rfl
      · rw [if_neg (fun z => d ((pD_iff h0).mpr z)), if_neg d]
        by_cases s : c j = 59
        · rw [if_pos s, if_pos (by rw [← e]; exact h59.mpr s)]
          rfl
        · rw [if_neg s, if_neg (fun z => s (h59.mp (by rw [e]; exact z)))]
          rfl
  · have h3 := h2 (by omega)
    have nl : ¬ pL (c j) = true := fun z => by
      have := Bool.and_eq_true_iff.mp z
      have := Nat.le_of_ble_eq_true this.2
      omega
    have nd : ¬ pD (c j) = true := fun z => by
      have := Bool.and_eq_true_iff.mp z
      have := Nat.le_of_ble_eq_true this.2
      omega
    rw [tyc, tyN, if_neg nl, if_neg nd, if_neg (show ¬ c j = 59 by omega), if_neg (fun z => Bt.neg h3 (a := 97) (by omega) z.1), if_neg (fun z => Bt.neg h3 (a := 48) (by omega) z.1), if_neg (fun z => by rw [z] at h3; exact absurd h3 (by decide))]
    rfl
/-- where the class goes on behind a token -/
def xtE (c : Nat → Nat) (n p : Nat) : Nat := if n ≤ tkA c n p then tkA c n p else if tyN (c (tkA c n p)) = 4 then tkA c n p else tkE c n p
theorem xtE_le {c : Nat → Nat} {n p : Nat} (h : p ≤ n) : tkA c n p ≤ xtE c n p ∧ xtE c n p ≤ n := by
  have h1 := tkA_le (c := c) h
  have h2 := tkE_le (c := c) h
  rw [xtE]
  split
  · omega
  · split <;> omega
theorem xtE_E {c : Nat → Nat} {n p : Nat} (h : tkT c n p ≠ 4) : xtE c n p = tkE c n p := by
  rw [xtE]
  split
  · rename_i w
    rw [tkE, if_pos w]
  · rename_i w
    split
    · rename_i z
      refine absurd ?_ h
      rw [tyN] at z
      rw [tkT, if_neg w]
      by_cases l : pL (c (tkA c n p)) = true
      · rw [if_pos l] at z; omega
      · rw [if_neg l] at z ⊢
        by_cases d : pD (c (tkA c n p)) = true
        · rw [if_pos d] at z; omega
        · rw [if_neg d] at z ⊢
          by_cases s : c (tkA c n p) = 59
          · rw [if_pos s] at z; omega
          · rw [if_neg s]
    · rfl
section TAP
variable {G : GP} {M : Wd} {a b n p : Nat} {c : Nat → Nat} {t : Nat → Int32} {sz st ty v f hr hc : Int32}
set_option maxRecDepth 20000 in
theorem t_typeOf {x : Int32} : CtI G mX4_typeOf [.int x] M 0 0 (fun y M' => y = tyc x ∧ M' = M) := by
  refine Ct.of (ls := [some (.int x)]) (by decide) (by decide) rfl rfl rfl ?_
  refine Ev.ild0 dX4_typeOf_0 ?_
  refine Ev.bipush (v := 97) dX4_typeOf_1 (by decide) ?_
  refine Ev.icmp_lt (tgt := 14) dX4_typeOf_3 (by decide) (fun c3 => ?_) (fun c3 => ?_)
  · refine Ev.ild0 dX4_typeOf_14 ?_
    refine Ev.bipush (v := 48) dX4_typeOf_15 (by decide) ?_
    refine Ev.icmp_lt (tgt := 28) dX4_typeOf_17 (by decide) (fun c17 => ?_) (fun c17 => ?_)
    · refine Ev.ild0 dX4_typeOf_28 ?_
      refine Ev.bipush (v := 59) dX4_typeOf_29 (by decide) ?_
      refine Ev.icmp_ne (tgt := 38) dX4_typeOf_31 (by decide) (fun c31 => ?_) (fun c31 => ?_)
      · refine Ev.iconst (v := 4) dX4_typeOf_38 (by decide) ?_
        refine Ev.iret dX4_typeOf_39 rfl rfl ?_
        exact ⟨_, rfl, by rw [tyc]; grind, rfl⟩
      · refine Ev.iconst (v := 3) dX4_typeOf_34 (by decide) ?_
        refine Ev.goto (tgt := 39) dX4_typeOf_35 (by decide) ?_
        refine Ev.iret dX4_typeOf_39 rfl rfl ?_
        exact ⟨_, rfl, by rw [tyc]; grind, rfl⟩
    · refine Ev.ild0 dX4_typeOf_20 ?_
      refine Ev.bipush (v := 57) dX4_typeOf_21 (by decide) ?_
      refine Ev.icmp_gt (tgt := 28) dX4_typeOf_23 (by decide) (fun c23 => ?_) (fun c23 => ?_)
      · refine Ev.ild0 dX4_typeOf_28 ?_
        refine Ev.bipush (v := 59) dX4_typeOf_29 (by decide) ?_
        refine Ev.icmp_ne (tgt := 38) dX4_typeOf_31 (by decide) (fun c31 => ?_) (fun c31 => ?_)
        · refine Ev.iconst (v := 4) dX4_typeOf_38 (by decide) ?_
          refine Ev.iret dX4_typeOf_39 rfl rfl ?_
          exact ⟨_, rfl, by rw [tyc]; grind, rfl⟩
        · refine Ev.iconst (v := 3) dX4_typeOf_34 (by decide) ?_
          refine Ev.goto (tgt := 39) dX4_typeOf_35 (by decide) ?_
          refine Ev.iret dX4_typeOf_39 rfl rfl ?_
          exact ⟨_, rfl, by rw [tyc]; grind, rfl⟩
      · refine Ev.iconst (v := 2) dX4_typeOf_26 (by decide) ?_
        refine Ev.iret dX4_typeOf_27 rfl rfl ?_
        exact ⟨_, rfl, by rw [tyc]; grind, rfl⟩
  · refine Ev.ild0 dX4_typeOf_6 ?_
    refine Ev.bipush (v := 122) dX4_typeOf_7 (by decide) ?_
    refine Ev.icmp_gt (tgt := 14) dX4_typeOf_9 (by decide) (fun c9 => ?_) (fun c9 => ?_)
    · refine Ev.ild0 dX4_typeOf_14 ?_
      refine Ev.bipush (v := 48) dX4_typeOf_15 (by decide) ?_
      refine Ev.icmp_lt (tgt := 28) dX4_typeOf_17 (by decide) (fun c17 => ?_) (fun c17 => ?_)
      · refine Ev.ild0 dX4_typeOf_28 ?_
        refine Ev.bipush (v := 59) dX4_typeOf_29 (by decide) ?_
        refine Ev.icmp_ne (tgt := 38) dX4_typeOf_31 (by decide) (fun c31 => ?_) (fun c31 => ?_)
        · refine Ev.iconst (v := 4) dX4_typeOf_38 (by decide) ?_
          refine Ev.iret dX4_typeOf_39 rfl rfl ?_
          exact ⟨_, rfl, by rw [tyc]; grind, rfl⟩
        · refine Ev.iconst (v := 3) dX4_typeOf_34 (by decide) ?_
          refine Ev.goto (tgt := 39) dX4_typeOf_35 (by decide) ?_
          refine Ev.iret dX4_typeOf_39 rfl rfl ?_
          exact ⟨_, rfl, by rw [tyc]; grind, rfl⟩
      · refine Ev.ild0 dX4_typeOf_20 ?_
        refine Ev.bipush (v := 57) dX4_typeOf_21 (by decide) ?_
        refine Ev.icmp_gt (tgt := 28) dX4_typeOf_23 (by decide) (fun c23 => ?_) (fun c23 => ?_)
        · refine Ev.ild0 dX4_typeOf_28 ?_
          refine Ev.bipush (v := 59) dX4_typeOf_29 (by decide) ?_
          refine Ev.icmp_ne (tgt := 38) dX4_typeOf_31 (by decide) (fun c31 => ?_) (fun c31 => ?_)
          · refine Ev.iconst (v := 4) dX4_typeOf_38 (by decide) ?_
            refine Ev.iret dX4_typeOf_39 rfl rfl ?_
            exact ⟨_, rfl, by rw [tyc]; grind, rfl⟩
          · refine Ev.iconst (v := 3) dX4_typeOf_34 (by decide) ?_
            refine Ev.goto (tgt := 39) dX4_typeOf_35 (by decide) ?_
            refine Ev.iret dX4_typeOf_39 rfl rfl ?_
            exact ⟨_, rfl, by rw [tyc]; grind, rfl⟩
        · refine Ev.iconst (v := 2) dX4_typeOf_26 (by decide) ?_
          refine Ev.iret dX4_typeOf_27 rfl rfl ?_
          exact ⟨_, rfl, by rw [tyc]; grind, rfl⟩
    · refine Ev.iconst (v := 1) dX4_typeOf_12 (by decide) ?_
      refine Ev.iret dX4_typeOf_13 rfl rfl ?_
      exact ⟨_, rfl, by rw [tyc]; grind, rfl⟩
set_option maxRecDepth 20000 in
theorem t_next (hA : gt M a = some (tc b sz (nI n) st (nI p) ty v f hr hc)) (hB : gt M b = some (ia 1 800 t)) (hab : a ≠ b) (hn : n ≤ 800) (hp : p ≤ n) (hT : Bt t n c) : CtV G mX4_next [.ref a] M 0 0 (fun M' => ∃ v' : Int32, (tkT c n p = 2 → v' = nI (tkV c n p)) ∧ M' = up M a (tc b sz (nI n) (nI (tkA c n p)) (nI (xtE c n p)) (nI (tkT c n p)) v' f hr hc)) := by
  have L1 : ∀ (Q : Option Value → Wd → Prop) (d s : Nat), s + d = n → Ev G mX4_next 60 [some (.ref a), none] [] (up M a (tc b sz (nI n) (nI (rn pB c d s)) (nI p) ty v f hr hc)) 0 0 Q → Ev G mX4_next 8 [some (.ref a), none] [] (up M a (tc b sz (nI n) (nI s) (nI p) ty v f hr hc)) 0 0 Q := by
    intro Q d
    induction d with
    | zero =>
      intro s hs k
      have q1 : gt (up M a (tc b sz (nI n) (nI s) (nI p) ty v f hr hc)) a = some (tc b sz (nI n) (nI s) (nI p) ty v f hr hc) := gt_up hA
      refine Ev.ald0 dX4_next_8 ?_
      apply Ev.getf dX4_next_9 fX4_22
      · repeat (first | assumption | (refine gt_upI ?_; (repeat (first | exact In_of (gt_nw (by assumption)) | (apply In_of; assumption) | refine In_up ?_ | refine In_nw ?_)); done) | refine gt_rd (by first | assumption | (apply Ne.symm; assumption) | (exact hj _ _ (by omega) (by omega) (by omega)) | omega) ?_ | exact gt_nw (by assumption) | refine gt_odr (by first | assumption | (apply Ne.symm; assumption) | omega) ?_)
      · first | rfl | assumption
      refine Ev.ald0 dX4_next_12 ?_
      apply Ev.getf dX4_next_13 fX4_19
      · repeat (first | assumption | (refine gt_upI ?_; (repeat (first | exact In_of (gt_nw (by assumption)) | (apply In_of; assumption) | refine In_up ?_ | refine In_nw ?_)); done) | refine gt_rd (by first | assumption | (apply Ne.symm; assumption) | (exact hj _ _ (by omega) (by omega) (by omega)) | omega) ?_ | exact gt_nw (by assumption) | refine gt_odr (by first | assumption | (apply Ne.symm; assumption) | omega) ?_)
      · first | rfl | assumption
      refine Ev.icmp_ge (tgt := 60) dX4_next_16 (by decide) (fun c9 => ?_) (fun c9 => absurd (nI_le (by omega) (by omega)) c9)
      exact k
    | succ d ih =>
      intro s hs k
      have q1 : gt (up M a (tc b sz (nI n) (nI s) (nI p) ty v f hr hc)) a = some (tc b sz (nI n) (nI s) (nI p) ty v f hr hc) := gt_up hA
      have q2 : gt (up M a (tc b sz (nI n) (nI s) (nI p) ty v f hr hc)) b = some (ia 1 800 t) := gt_rd hab.symm hB
      have h32 := hT.eq (show s < n by omega) (k := 32) (by omega)
      have h10 := hT.eq (show s < n by omega) (k := 10) (by omega)
      have more : pB (c s) = true → Ev G mX4_next 47 [some (.ref a), none] [] (up M a (tc b sz (nI n) (nI s) (nI p) ty v f hr hc)) 0 0 Q := by
        intro hb
        rw [rn, if_pos hb] at k
        have := ih (s + 1) (by omega) k
        refine Ev.ald0 dX4_next_47 ?_
        refine Ev.dup dX4_next_48 rfl ?_
        apply Ev.getf dX4_next_49 fX4_22
        · repeat (first | assumption | (refine gt_upI ?_; (repeat (first | exact In_of (gt_nw (by assumption)) | (apply In_of; assumption) | refine In_up ?_ | refine In_nw ?_)); done) | refine gt_rd (by first | assumption | (apply Ne.symm; assumption) | (exact hj _ _ (by omega) (by omega) (by omega)) | omega) ?_ | exact gt_nw (by assumption) | refine gt_odr (by first | assumption | (apply Ne.symm; assumption) | omega) ?_)
        · first | rfl | assumption
        refine Ev.iconst (v := 1) dX4_next_52 (by decide) ?_
        refine Ev.iadd dX4_next_53 ?_
        apply Ev.put dX4_next_54 fX4_22
        · repeat (first | assumption | (refine gt_upI ?_; (repeat (first | exact In_of (gt_nw (by assumption)) | (apply In_of; assumption) | refine In_up ?_ | refine In_nw ?_)); done) | refine gt_rd (by first | assumption | (apply Ne.symm; assumption) | (exact hj _ _ (by omega) (by omega) (by omega)) | omega) ?_ | exact gt_nw (by assumption) | refine gt_odr (by first | assumption | (apply Ne.symm; assumption) | omega) ?_)
        · rfl
        · rfl
        · rfl
        refine Ev.goto (tgt := 8) dX4_next_57 (by decide) ?_
        rw [up_up, nI_1]
        exact this
      refine Ev.ald0 dX4_next_8 ?_
      apply Ev.getf dX4_next_9 fX4_22
      · repeat (first | assumption | (refine gt_upI ?_; (repeat (first | exact In_of (gt_nw (by assumption)) | (apply In_of; assumption) | refine In_up ?_ | refine In_nw ?_)); done) | refine gt_rd (by first | assumption | (apply Ne.symm; assumption) | (exact hj _ _ (by omega) (by omega) (by omega)) | omega) ?_ | exact gt_nw (by assumption) | refine gt_odr (by first | assumption | (apply Ne.symm; assumption) | omega) ?_)
      · first | rfl | assumption
      refine Ev.ald0 dX4_next_12 ?_
      apply Ev.getf dX4_next_13 fX4_19
      · repeat (first | assumption | (refine gt_upI ?_; (repeat (first | exact In_of (gt_nw (by assumption)) | (apply In_of; assumption) | refine In_up ?_ | refine In_nw ?_)); done) | refine gt_rd (by first | assumption | (apply Ne.symm; assumption) | (exact hj _ _ (by omega) (by omega) (by omega)) | omega) ?_ | exact gt_nw (by assumption) | refine gt_odr (by first | assumption | (apply Ne.symm; assumption) | omega) ?_)
      · first | rfl | assumption
      refine Ev.icmp_ge (tgt := 60) dX4_next_16 (by decide) (fun c9 => absurd c9 (nI_ge (by omega) (by omega))) (fun c9 => ?_)
      refine Ev.ald0 dX4_next_19 ?_
      apply Ev.getf dX4_next_20 fX4_15
      · repeat (first | assumption | (refine gt_upI ?_; (repeat (first | exact In_of (gt_nw (by assumption)) | (apply In_of; assumption) | refine In_up ?_ | refine In_nw ?_)); done) | refine gt_rd (by first | assumption | (apply Ne.symm; assumption) | (exact hj _ _ (by omega) (by omega) (by omega)) | omega) ?_ | exact gt_nw (by assumption) | refine gt_odr (by first | assumption | (apply Ne.symm; assumption) | omega) ?_)
      · first | rfl | assumption
      refine Ev.ald0 dX4_next_23 ?_
      apply Ev.getf dX4_next_24 fX4_22
      · repeat (first | assumption | (refine gt_upI ?_; (repeat (first | exact In_of (gt_nw (by assumption)) | (apply In_of; assumption) | refine In_up ?_ | refine In_nw ?_)); done) | refine gt_rd (by first | assumption | (apply Ne.symm; assumption) | (exact hj _ _ (by omega) (by omega) (by omega)) | omega) ?_ | exact gt_nw (by assumption) | refine gt_odr (by first | assumption | (apply Ne.symm; assumption) | omega) ?_)
      · first | rfl | assumption
      apply Ev.bald dX4_next_27
      · repeat (first | assumption | (refine gt_upI ?_; (repeat (first | exact In_of (gt_nw (by assumption)) | (apply In_of; assumption) | refine In_up ?_ | refine In_nw ?_)); done) | refine gt_rd (by first | assumption | (apply Ne.symm; assumption) | (exact hj _ _ (by omega) (by omega) (by omega)) | omega) ?_ | exact gt_nw (by assumption) | refine gt_odr (by first | assumption | (apply Ne.symm; assumption) | omega) ?_)
      · exact vp_in_nI (by omega) (by omega)
      refine Ev.bipush (v := 32) dX4_next_28 (by decide) ?_
      rw [nI_clamp (by omega)]
      refine Ev.icmp_eq (tgt := 47) dX4_next_30 (by decide) (fun c30 => ?_) (fun c30 => ?_)
      · exact more (by rw [h32.mp c30]; rfl)
      · refine Ev.ald0 dX4_next_33 ?_
        apply Ev.getf dX4_next_34 fX4_15
        · repeat (first | assumption | (refine gt_upI ?_; (repeat (first | exact In_of (gt_nw (by assumption)) | (apply In_of; assumption) | refine In_up ?_ | refine In_nw ?_)); done) | refine gt_rd (by first | assumption | (apply Ne.symm; assumption) | (exact hj _ _ (by omega) (by omega) (by omega)) | omega) ?_ | exact gt_nw (by assumption) | refine gt_odr (by first | assumption | (apply Ne.symm; assumption) | omega) ?_)
        · first | rfl | assumption
        refine Ev.ald0 dX4_next_37 ?_
        apply Ev.getf dX4_next_38 fX4_22
        · repeat (first | assumption | (refine gt_upI ?_; (repeat (first | exact In_of (gt_nw (by assumption)) | (apply In_of; assumption) | refine In_up ?_ | refine In_nw ?_)); done) | refine gt_rd (by first | assumption | (apply Ne.symm; assumption) | (exact hj _ _ (by omega) (by omega) (by omega)) | omega) ?_ | exact gt_nw (by assumption) | refine gt_odr (by first | assumption | (apply Ne.symm; assumption) | omega) ?_)
        · first | rfl | assumption
        apply Ev.bald dX4_next_41
        · repeat (first | assumption | (refine gt_upI ?_; (repeat (first | exact In_of (gt_nw (by assumption)) | (apply In_of; assumption) | refine In_up ?_ | refine In_nw ?_)); done) | refine gt_rd (by first | assumption | (apply Ne.symm; assumption) | (exact hj _ _ (by omega) (by omega) (by omega)) | omega) ?_ | exact gt_nw (by assumption) | refine gt_odr (by first | assumption | (apply Ne.symm; assumption) | omega) ?_)
        · exact vp_in_nI (by omega) (by omega)
        refine Ev.bipush (v := 10) dX4_next_42 (by decide) ?_
        rw [nI_clamp (by omega)]
        refine Ev.icmp_ne (tgt := 60) dX4_next_44 (by decide) (fun c44 => ?_) (fun c44 => ?_)
        · have nb : ¬ pB (c s) = true := fun z => by
            rcases Bool.or_eq_true_iff.mp z with z | z
            · exact c30 (h32.mpr (by simpa using z))
            · exact c44 (h10.mpr (by simpa using z))
          rw [rn, if_neg nb] at k
          exact k
        · exact more (by rw [h10.mp c44]; rfl)
  have hA1 := tkA_le (c := c) hp
  have hE1 := tkE_le (c := c) hp
  /- the run of one type -/
  have L2 : ∀ (Q : Option Value → Wd → Prop) (A kt : Nat) (P : Nat → Bool), A ≤ n → (kt = 1 ∨ kt = 2) → (∀ x, x < 256 → (tyN x = kt ↔ P x = true)) → (kt = 2 → ∀ x, P x = true → 48 ≤ x) → ∀ (d e : Nat) (v1 : Int32), e + d = n → A ≤ e → (kt = 2 → v1 = nI (dv c A (e - A))) → (∀ v' : Int32, (kt = 2 → v' = nI (dv c A (rn P c d e - A))) → Ev G mX4_next 214 [some (.ref a), some (.int 1)] [] (up M a (tc b sz (nI n) (nI A) (nI (rn P c d e)) (nI kt) v' f hr hc)) 0 0 Q) → Ev G mX4_next 143 [some (.ref a), some (.int 1)] [] (up M a (tc b sz (nI n) (nI A) (nI e) (nI kt) v1 f hr hc)) 0 0 Q := by
    intro Q A kt P hA0 hkt hP hP2 d
    induction d with
    | zero =>
      intro e v1 he hAe hv k
      have q1 : gt (up M a (tc b sz (nI n) (nI A) (nI e) (nI kt) v1 f hr hc)) a = some (tc b sz (nI n) (nI A) (nI e) (nI kt) v1 f hr hc) := gt_up hA
      refine Ev.ild1 dX4_next_143 ?_
      refine Ev.if_eq (tgt := 214) dX4_next_144 (by decide) (fun c9 => absurd c9 (by decide)) (fun _ => ?_)
      refine Ev.ald0 dX4_next_147 ?_
      apply Ev.getf dX4_next_148 fX4_25
      · repeat (first | assumption | (refine gt_upI ?_; (repeat (first | exact In_of (gt_nw (by assumption)) | (apply In_of; assumption) | refine In_up ?_ | refine In_nw ?_)); done) | refine gt_rd (by first | assumption | (apply Ne.symm; assumption) | (exact hj _ _ (by omega) (by omega) (by omega)) | omega) ?_ | exact gt_nw (by assumption) | refine gt_odr (by first | assumption | (apply Ne.symm; assumption) | omega) ?_)
      · first | rfl | assumption
      refine Ev.ald0 dX4_next_151 ?_
      apply Ev.getf dX4_next_152 fX4_19
      · repeat (first | assumption | (refine gt_upI ?_; (repeat (first | exact In_of (gt_nw (by assumption)) | (apply In_of; assumption) | refine In_up ?_ | refine In_nw ?_)); done) | refine gt_rd (by first | assumption | (apply Ne.symm; assumption) | (exact hj _ _ (by omega) (by omega) (by omega)) | omega) ?_ | exact gt_nw (by assumption) | refine gt_odr (by first | assumption | (apply Ne.symm; assumption) | omega) ?_)
      · first | rfl | assumption
      refine Ev.icmp_ge (tgt := 214) dX4_next_155 (by decide) (fun c9 => ?_) (fun c9 => absurd (nI_le (by omega) (by omega)) c9)
      exact k v1 hv
    | succ d ih =>
      intro e v1 he hAe hv k
      have q1 : gt (up M a (tc b sz (nI n) (nI A) (nI e) (nI kt) v1 f hr hc)) a = some (tc b sz (nI n) (nI A) (nI e) (nI kt) v1 f hr hc) := gt_up hA
      have q2 : gt (up M a (tc b sz (nI n) (nI A) (nI e) (nI kt) v1 f hr hc)) b = some (ia 1 800 t) := gt_rd hab.symm hB
      have hty := tyc_n hT (show e < n by omega)
      obtain ⟨t0, t1, t2⟩ := hT e (by omega)
      have hk4 : tyN (c e) ≤ 4 ∧ kt ≤ 2 := by
        refine ⟨?_, by omega⟩
        rw [tyN]
        split
        · omega
        · split
          · omega
          · split <;> omega
      refine Ev.ild1 dX4_next_143 ?_
      refine Ev.if_eq (tgt := 214) dX4_next_144 (by decide) (fun c9 => absurd c9 (by decide)) (fun _ => ?_)
      refine Ev.ald0 dX4_next_147 ?_
      apply Ev.getf dX4_next_148 fX4_25
      · repeat (first | assumption | (refine gt_upI ?_; (repeat (first | exact In_of (gt_nw (by assumption)) | (apply In_of; assumption) | refine In_up ?_ | refine In_nw ?_)); done) | refine gt_rd (by first | assumption | (apply Ne.symm; assumption) | (exact hj _ _ (by omega) (by omega) (by omega)) | omega) ?_ | exact gt_nw (by assumption) | refine gt_odr (by first | assumption | (apply Ne.symm; assumption) | omega) ?_)
      · first | rfl | assumption
      refine Ev.ald0 dX4_next_151 ?_
      apply Ev.getf dX4_next_152 fX4_19
      · repeat (first | assumption | (refine gt_upI ?_; (repeat (first | exact In_of (gt_nw (by assumption)) | (apply In_of; assumption) | refine In_up ?_ | refine In_nw ?_)); done) | refine gt_rd (by first | assumption | (apply Ne.symm; assumption) | (exact hj _ _ (by omega) (by omega) (by omega)) | omega) ?_ | exact gt_nw (by assumption) | refine gt_odr (by first | assumption | (apply Ne.symm; assumption) | omega) ?_)
      · first | rfl | assumption
      refine Ev.icmp_ge (tgt := 214) dX4_next_155 (by decide) (fun c9 => absurd c9 (nI_ge (by omega) (by omega))) (fun c9 => ?_)
      refine Ev.ald0 dX4_next_158 ?_
      apply Ev.getf dX4_next_159 fX4_15
      · repeat (first | assumption | (refine gt_upI ?_; (repeat (first | exact In_of (gt_nw (by assumption)) | (apply In_of; assumption) | refine In_up ?_ | refine In_nw ?_)); done) | refine gt_rd (by first | assumption | (apply Ne.symm; assumption) | (exact hj _ _ (by omega) (by omega) (by omega)) | omega) ?_ | exact gt_nw (by assumption) | refine gt_odr (by first | assumption | (apply Ne.symm; assumption) | omega) ?_)
      · first | rfl | assumption
      refine Ev.ald0 dX4_next_162 ?_
      apply Ev.getf dX4_next_163 fX4_25
      · repeat (first | assumption | (refine gt_upI ?_; (repeat (first | exact In_of (gt_nw (by assumption)) | (apply In_of; assumption) | refine In_up ?_ | refine In_nw ?_)); done) | refine gt_rd (by first | assumption | (apply Ne.symm; assumption) | (exact hj _ _ (by omega) (by omega) (by omega)) | omega) ?_ | exact gt_nw (by assumption) | refine gt_odr (by first | assumption | (apply Ne.symm; assumption) | omega) ?_)
      · first | rfl | assumption
      apply Ev.bald dX4_next_166
      · repeat (first | assumption | (refine gt_upI ?_; (repeat (first | exact In_of (gt_nw (by assumption)) | (apply In_of; assumption) | refine In_up ?_ | refine In_nw ?_)); done) | refine gt_rd (by first | assumption | (apply Ne.symm; assumption) | (exact hj _ _ (by omega) (by omega) (by omega)) | omega) ?_ | exact gt_nw (by assumption) | refine gt_odr (by first | assumption | (apply Ne.symm; assumption) | omega) ?_)
      · exact vp_in_nI (by omega) (by omega)
      rw [nI_clamp (by omega)]
      refine Ev.csI (Yc := mX4_typeOf) dX4_next_167 lX4_139 vX4_typeOf rfl t_typeOf rfl rfl rfl ?_
      rintro y M' ⟨hy, rfl⟩
      rw [hty] at hy
      subst hy
      refine Ev.ald0 dX4_next_170 ?_
      apply Ev.getf dX4_next_171 fX4_28
      · repeat (first | assumption | (refine gt_upI ?_; (repeat (first | exact In_of (gt_nw (by assumption)) | (apply In_of; assumption) | refine In_up ?_ | refine In_nw ?_)); done) | refine gt_rd (by first | assumption | (apply Ne.symm; assumption) | (exact hj _ _ (by omega) (by omega) (by omega)) | omega) ?_ | exact gt_nw (by assumption) | refine gt_odr (by first | assumption | (apply Ne.symm; assumption) | omega) ?_)
      · first | rfl | assumption
      refine Ev.icmp_ne (tgt := 214) dX4_next_174 (by decide) (fun c174 => ?_) (fun c174 => ?_)
      · have np : ¬ P (c e) = true := fun z => c174 (by rw [(hP _ t0).mpr z])
        rw [rn, if_neg np] at k
        exact k v1 hv
      · have e1 : tyN (c e) = kt := (nI_eq (by omega) (by omega)).mp c174
        have hp1 := (hP _ t0).mp e1
        rw [rn, if_pos hp1] at k
        refine Ev.ald0 dX4_next_177 ?_
        refine Ev.ald0 dX4_next_178 ?_
        apply Ev.getf dX4_next_179 fX4_31
        · repeat (first | assumption | (refine gt_upI ?_; (repeat (first | exact In_of (gt_nw (by assumption)) | (apply In_of; assumption) | refine In_up ?_ | refine In_nw ?_)); done) | refine gt_rd (by first | assumption | (apply Ne.symm; assumption) | (exact hj _ _ (by omega) (by omega) (by omega)) | omega) ?_ | exact gt_nw (by assumption) | refine gt_odr (by first | assumption | (apply Ne.symm; assumption) | omega) ?_)
        · first | rfl | assumption
        refine Ev.bipush (v := 10) dX4_next_182 (by decide) ?_
        refine Ev.imul dX4_next_184 ?_
        refine Ev.ald0 dX4_next_185 ?_
        apply Ev.getf dX4_next_186 fX4_15
        · repeat (first | assumption | (refine gt_upI ?_; (repeat (first | exact In_of (gt_nw (by assumption)) | (apply In_of; assumption) | refine In_up ?_ | refine In_nw ?_)); done) | refine gt_rd (by first | assumption | (apply Ne.symm; assumption) | (exact hj _ _ (by omega) (by omega) (by omega)) | omega) ?_ | exact gt_nw (by assumption) | refine gt_odr (by first | assumption | (apply Ne.symm; assumption) | omega) ?_)
        · first | rfl | assumption
        refine Ev.ald0 dX4_next_189 ?_
        apply Ev.getf dX4_next_190 fX4_25
        · repeat (first | assumption | (refine gt_upI ?_; (repeat (first | exact In_of (gt_nw (by assumption)) | (apply In_of; assumption) | refine In_up ?_ | refine In_nw ?_)); done) | refine gt_rd (by first | assumption | (apply Ne.symm; assumption) | (exact hj _ _ (by omega) (by omega) (by omega)) | omega) ?_ | exact gt_nw (by assumption) | refine gt_odr (by first | assumption | (apply Ne.symm; assumption) | omega) ?_)
        · first | rfl | assumption
        apply Ev.bald dX4_next_193
        · repeat (first | assumption | (refine gt_upI ?_; (repeat (first | exact In_of (gt_nw (by assumption)) | (apply In_of; assumption) | refine In_up ?_ | refine In_nw ?_)); done) | refine gt_rd (by first | assumption | (apply Ne.symm; assumption) | (exact hj _ _ (by omega) (by omega) (by omega)) | omega) ?_ | exact gt_nw (by assumption) | refine gt_odr (by first | assumption | (apply Ne.symm; assumption) | omega) ?_)
        · exact vp_in_nI (by omega) (by omega)
        refine Ev.iadd dX4_next_194 ?_
        refine Ev.bipush (v := 48) dX4_next_195 (by decide) ?_
        refine Ev.isub dX4_next_197 ?_
        apply Ev.put dX4_next_198 fX4_31
        · repeat (first | assumption | (refine gt_upI ?_; (repeat (first | exact In_of (gt_nw (by assumption)) | (apply In_of; assumption) | refine In_up ?_ | refine In_nw ?_)); done) | refine gt_rd (by first | assumption | (apply Ne.symm; assumption) | (exact hj _ _ (by omega) (by omega) (by omega)) | omega) ?_ | exact gt_nw (by assumption) | refine gt_odr (by first | assumption | (apply Ne.symm; assumption) | omega) ?_)
        · rfl
        · rfl
        · rfl
        refine Ev.ald0 dX4_next_201 ?_
        refine Ev.dup dX4_next_202 rfl ?_
        apply Ev.getf dX4_next_203 fX4_25
        · repeat (first | assumption | (refine gt_upI ?_; (repeat (first | exact In_of (gt_nw (by assumption)) | (apply In_of; assumption) | refine In_up ?_ | refine In_nw ?_)); done) | refine gt_rd (by first | assumption | (apply Ne.symm; assumption) | (exact hj _ _ (by omega) (by omega) (by omega)) | omega) ?_ | exact gt_nw (by assumption) | refine gt_odr (by first | assumption | (apply Ne.symm; assumption) | omega) ?_)
        · first | rfl | assumption
        refine Ev.iconst (v := 1) dX4_next_206 (by decide) ?_
        refine Ev.iadd dX4_next_207 ?_
        apply Ev.put dX4_next_208 fX4_25
        · repeat (first | assumption | (refine gt_upI ?_; (repeat (first | exact In_of (gt_nw (by assumption)) | (apply In_of; assumption) | refine In_up ?_ | refine In_nw ?_)); done) | refine gt_rd (by first | assumption | (apply Ne.symm; assumption) | (exact hj _ _ (by omega) (by omega) (by omega)) | omega) ?_ | exact gt_nw (by assumption) | refine gt_odr (by first | assumption | (apply Ne.symm; assumption) | omega) ?_)
        · rfl
        · rfl
        · rfl
        refine Ev.goto (tgt := 143) dX4_next_211 (by decide) ?_
        rw [nI_clamp (by omega), up_up, up_up, nI_1]
        refine ih (e + 1) _ (by omega) (by omega) (fun k2 => ?_) k
        have h48 := hP2 k2 _ hp1
        have hc128 : c e < 128 := by
          have := hP _ t0
          rw [k2] at this
          have h2 : pD (c e) = true := by
            have z := this.mpr hp1
            rw [tyN] at z
            by_cases l : pL (c e) = true
            · rw [if_pos l] at z; omega
            · rw [if_neg l] at z
              by_cases dd : pD (c e) = true
              · exact dd
              · rw [if_neg dd] at z
                split at z <;> omega
          have := Nat.le_of_ble_eq_true (Bool.and_eq_true_iff.mp h2).2
          omega
        rw [hv k2, t1 hc128, Int32.mul_comm, show e + 1 - A = (e - A) + 1 by omega, dv, show A + (e - A) = e by omega]
        exact dv_s h48 (by omega)
  have fin : ∀ (v' : Int32) (E k0 : Nat) (a1 : Option Value), xtE c n p = E → k0 ≤ 4 → (tkT c n p = 2 → v' = nI (tkV c n p)) → tkA c n p ≤ E → E ≤ n → tkT c n p = (if (if k0 = 1 then 9 else 4) < E - tkA c n p then 4 else k0) → Ev G mX4_next 214 [some (.ref a), a1] [] (up M a (tc b sz (nI n) (nI (tkA c n p)) (nI E) (nI k0) v' f hr hc)) 0 0 (fun u M' => u = none ∧ ∃ v' : Int32, (tkT c n p = 2 → v' = nI (tkV c n p)) ∧ M' = up M a (tc b sz (nI n) (nI (tkA c n p)) (nI (xtE c n p)) (nI (tkT c n p)) v' f hr hc)) := by
    intro v' E k0 a1 hE hk0 hv h1 h2 hT4
    have q1 : gt (up M a (tc b sz (nI n) (nI (tkA c n p)) (nI E) (nI k0) v' f hr hc)) a = some (tc b sz (nI n) (nI (tkA c n p)) (nI E) (nI k0) v' f hr hc) := gt_up hA
    have es : nI E - nI (tkA c n p) = nI (E - tkA c n p) := nI_subI h1
    have done4 : ∀ L : Nat, L ≤ 9 → (if k0 = 1 then 9 else 4) = L → Ev G mX4_next 237 [some (.ref a), a1] [.int (nI L), .int (nI (E - tkA c n p))] (up M a (tc b sz (nI n) (nI (tkA c n p)) (nI E) (nI k0) v' f hr hc)) 0 0 (fun u M' => u = none ∧ ∃ v' : Int32, (tkT c n p = 2 → v' = nI (tkV c n p)) ∧ M' = up M a (tc b sz (nI n) (nI (tkA c n p)) (nI (xtE c n p)) (nI (tkT c n p)) v' f hr hc)) := by
      intro L hL eL
      rw [eL] at hT4
      refine Ev.icmp_le (tgt := 245) dX4_next_237 (by decide) (fun c237 => ?_) (fun c237 => ?_)
      · have := (nI_leI (by omega) (by omega)).mp c237
        rw [if_neg (by omega)] at hT4
        refine Ev.vret dX4_next_245 rfl ?_
        exact ⟨rfl, v', hv, by rw [hE, hT4]⟩
      · have : ¬ E - tkA c n p ≤ L := fun z => c237 ((nI_leI (by omega) (by omega)).mpr z)
        rw [if_pos (by omega)] at hT4
        refine Ev.ald0 dX4_next_240 ?_
        refine Ev.iconst (v := 4) dX4_next_241 (by decide) ?_
        apply Ev.put dX4_next_242 fX4_28
        · repeat (first | assumption | (refine gt_upI ?_; (repeat (first | exact In_of (gt_nw (by assumption)) | (apply In_of; assumption) | refine In_up ?_ | refine In_nw ?_)); done) | refine gt_rd (by first | assumption | (apply Ne.symm; assumption) | (exact hj _ _ (by omega) (by omega) (by omega)) | omega) ?_ | exact gt_nw (by assumption) | refine gt_odr (by first | assumption | (apply Ne.symm; assumption) | omega) ?_)
        · rfl
        · rfl
        · rfl
        refine Ev.vret dX4_next_245 rfl ?_
        rw [up_up]
        exact ⟨rfl, v', hv, by rw [hE, hT4]; rfl⟩
    refine Ev.ald0 dX4_next_214 ?_
    apply Ev.getf dX4_next_215 fX4_25
    · repeat (first | assumption | (refine gt_upI ?_; (repeat (first | exact In_of (gt_nw (by assumption)) | (apply In_of; assumption) | refine In_up ?_ | refine In_nw ?_)); done) | refine gt_rd (by first | assumption | (apply Ne.symm; assumption) | (exact hj _ _ (by omega) (by omega) (by omega)) | omega) ?_ | exact gt_nw (by assumption) | refine gt_odr (by first | assumption | (apply Ne.symm; assumption) | omega) ?_)
    · first | rfl | assumption
    refine Ev.ald0 dX4_next_218 ?_
    apply Ev.getf dX4_next_219 fX4_22
    · repeat (first | assumption | (refine gt_upI ?_; (repeat (first | exact In_of (gt_nw (by assumption)) | (apply In_of; assumption) | refine In_up ?_ | refine In_nw ?_)); done) | refine gt_rd (by first | assumption | (apply Ne.symm; assumption) | (exact hj _ _ (by omega) (by omega) (by omega)) | omega) ?_ | exact gt_nw (by assumption) | refine gt_odr (by first | assumption | (apply Ne.symm; assumption) | omega) ?_)
    · first | rfl | assumption
    refine Ev.isub dX4_next_222 ?_
    refine Ev.ald0 dX4_next_223 ?_
    apply Ev.getf dX4_next_224 fX4_28
    · repeat (first | assumption | (refine gt_upI ?_; (repeat (first | exact In_of (gt_nw (by assumption)) | (apply In_of; assumption) | refine In_up ?_ | refine In_nw ?_)); done) | refine gt_rd (by first | assumption | (apply Ne.symm; assumption) | (exact hj _ _ (by omega) (by omega) (by omega)) | omega) ?_ | exact gt_nw (by assumption) | refine gt_odr (by first | assumption | (apply Ne.symm; assumption) | omega) ?_)
    · first | rfl | assumption
    refine Ev.iconst (v := 1) dX4_next_227 (by decide) ?_
    rw [es]
    refine Ev.icmp_ne (tgt := 236) dX4_next_228 (by decide) (fun c228 => ?_) (fun c228 => ?_)
    · have : k0 ≠ 1 := fun z => c228 (by rw [z]; rfl)
      refine Ev.iconst (v := 4) dX4_next_236 (by decide) ?_
      exact done4 4 (by omega) (by rw [if_neg this])
    · have : k0 = 1 := (nI_eq (b := 1) (by omega) (by omega)).mp c228
      refine Ev.bipush (v := 9) dX4_next_231 (by decide) ?_
      refine Ev.goto (tgt := 237) dX4_next_233 (by decide) ?_
      exact done4 9 (by omega) (by rw [if_pos this])
  refine Ct.of (ls := [some (.ref a), none]) (by decide) (by decide) rfl rfl rfl ?_
  refine Ev.ald0 dX4_next_0 ?_
  refine Ev.ald0 dX4_next_1 ?_
  apply Ev.getf dX4_next_2 fX4_25
  · repeat (first | assumption | (refine gt_upI ?_; (repeat (first | exact In_of (gt_nw (by assumption)) | (apply In_of; assumption) | refine In_up ?_ | refine In_nw ?_)); done) | refine gt_rd (by first | assumption | (apply Ne.symm; assumption) | (exact hj _ _ (by omega) (by omega) (by omega)) | omega) ?_ | exact gt_nw (by assumption) | refine gt_odr (by first | assumption | (apply Ne.symm; assumption) | omega) ?_)
  · first | rfl | assumption
  apply Ev.put dX4_next_5 fX4_22
  · repeat (first | assumption | (refine gt_upI ?_; (repeat (first | exact In_of (gt_nw (by assumption)) | (apply In_of; assumption) | refine In_up ?_ | refine In_nw ?_)); done) | refine gt_rd (by first | assumption | (apply Ne.symm; assumption) | (exact hj _ _ (by omega) (by omega) (by omega)) | omega) ?_ | exact gt_nw (by assumption) | refine gt_odr (by first | assumption | (apply Ne.symm; assumption) | omega) ?_)
  · rfl
  · rfl
  · rfl
  refine L1 _ (n - p) p (by omega) ?_
  show Ev G mX4_next 60 _ _ (up M a (tc b sz (nI n) (nI (tkA c n p)) (nI p) ty v f hr hc)) _ _ _
  have q1 : gt (up M a (tc b sz (nI n) (nI (tkA c n p)) (nI p) ty v f hr hc)) a = some (tc b sz (nI n) (nI (tkA c n p)) (nI p) ty v f hr hc) := gt_up hA
  have q2 : gt (up M a (tc b sz (nI n) (nI (tkA c n p)) (nI p) ty v f hr hc)) b = some (ia 1 800 t) := gt_rd hab.symm hB
  refine Ev.ald0 dX4_next_60 ?_
  refine Ev.iconst (v := 0) dX4_next_61 (by decide) ?_
  apply Ev.put dX4_next_62 fX4_31
  · repeat (first | assumption | (refine gt_upI ?_; (repeat (first | exact In_of (gt_nw (by assumption)) | (apply In_of; assumption) | refine In_up ?_ | refine In_nw ?_)); done) | refine gt_rd (by first | assumption | (apply Ne.symm; assumption) | (exact hj _ _ (by omega) (by omega) (by omega)) | omega) ?_ | exact gt_nw (by assumption) | refine gt_odr (by first | assumption | (apply Ne.symm; assumption) | omega) ?_)
  · rfl
  · rfl
  · rfl
  refine Ev.ald0 dX4_next_65 ?_
  refine Ev.ald0 dX4_next_66 ?_
  apply Ev.getf dX4_next_67 fX4_22
  · repeat (first | assumption | (refine gt_upI ?_; (repeat (first | exact In_of (gt_nw (by assumption)) | (apply In_of; assumption) | refine In_up ?_ | refine In_nw ?_)); done) | refine gt_rd (by first | assumption | (apply Ne.symm; assumption) | (exact hj _ _ (by omega) (by omega) (by omega)) | omega) ?_ | exact gt_nw (by assumption) | refine gt_odr (by first | assumption | (apply Ne.symm; assumption) | omega) ?_)
  · first | rfl | assumption
  refine Ev.ald0 dX4_next_70 ?_
  apply Ev.getf dX4_next_71 fX4_19
  · repeat (first | assumption | (refine gt_upI ?_; (repeat (first | exact In_of (gt_nw (by assumption)) | (apply In_of; assumption) | refine In_up ?_ | refine In_nw ?_)); done) | refine gt_rd (by first | assumption | (apply Ne.symm; assumption) | (exact hj _ _ (by omega) (by omega) (by omega)) | omega) ?_ | exact gt_nw (by assumption) | refine gt_odr (by first | assumption | (apply Ne.symm; assumption) | omega) ?_)
  · first | rfl | assumption
  rw [up_up]
  /- behind the type -/
  have aft : ∀ k0 : Nat, k0 ≤ 4 → (n ≤ tkA c n p → k0 = 0) → (tkA c n p < n → k0 = tyN (c (tkA c n p))) → Ev G mX4_next 96 [some (.ref a), none] [] (up M a (tc b sz (nI n) (nI (tkA c n p)) (nI p) (nI k0) 0 f hr hc)) 0 0 (fun u M' => u = none ∧ ∃ v' : Int32, (tkT c n p = 2 → v' = nI (tkV c n p)) ∧ M' = up M a (tc b sz (nI n) (nI (tkA c n p)) (nI (xtE c n p)) (nI (tkT c n p)) v' f hr hc)) := by
    intro k0 hk0 h0 h1
    have q1 : gt (up M a (tc b sz (nI n) (nI (tkA c n p)) (nI p) (nI k0) 0 f hr hc)) a = some (tc b sz (nI n) (nI (tkA c n p)) (nI p) (nI k0) 0 f hr hc) := gt_up hA
    have n3 : nI k0 = 3 ↔ k0 = 3 := nI_eq (b := 3) (by omega) (by omega)
    have n1 : nI k0 = 1 ↔ k0 = 1 := nI_eq (b := 1) (by omega) (by omega)
    have n2 : nI k0 = 2 ↔ k0 = 2 := nI_eq (b := 2) (by omega) (by omega)
    refine Ev.ald0 dX4_next_96 ?_
    refine Ev.ald0 dX4_next_97 ?_
    apply Ev.getf dX4_next_98 fX4_28
    · repeat (first | assumption | (refine gt_upI ?_; (repeat (first | exact In_of (gt_nw (by assumption)) | (apply In_of; assumption) | refine In_up ?_ | refine In_nw ?_)); done) | refine gt_rd (by first | assumption | (apply Ne.symm; assumption) | (exact hj _ _ (by omega) (by omega) (by omega)) | omega) ?_ | exact gt_nw (by assumption) | refine gt_odr (by first | assumption | (apply Ne.symm; assumption) | omega) ?_)
    · first | rfl | assumption
    refine Ev.iconst (v := 3) dX4_next_101 (by decide) ?_
    refine Ev.icmp_ne (tgt := 114) dX4_next_102 (by decide) (fun c102 => ?_) (fun c102 => ?_)
    · have k3 : k0 ≠ 3 := fun z => c102 (n3.mpr z)
      refine Ev.ald0 dX4_next_114 ?_
      apply Ev.getf dX4_next_115 fX4_22
      · repeat (first | assumption | (refine gt_upI ?_; (repeat (first | exact In_of (gt_nw (by assumption)) | (apply In_of; assumption) | refine In_up ?_ | refine In_nw ?_)); done) | refine gt_rd (by first | assumption | (apply Ne.symm; assumption) | (exact hj _ _ (by omega) (by omega) (by omega)) | omega) ?_ | exact gt_nw (by assumption) | refine gt_odr (by first | assumption | (apply Ne.symm; assumption) | omega) ?_)
      · first | rfl | assumption
      apply Ev.put dX4_next_118 fX4_25
      · repeat (first | assumption | (refine gt_upI ?_; (repeat (first | exact In_of (gt_nw (by assumption)) | (apply In_of; assumption) | refine In_up ?_ | refine In_nw ?_)); done) | refine gt_rd (by first | assumption | (apply Ne.symm; assumption) | (exact hj _ _ (by omega) (by omega) (by omega)) | omega) ?_ | exact gt_nw (by assumption) | refine gt_odr (by first | assumption | (apply Ne.symm; assumption) | omega) ?_)
      · rfl
      · rfl
      · rfl
      refine Ev.ald0 dX4_next_121 ?_
      apply Ev.getf dX4_next_122 fX4_28
      · repeat (first | assumption | (refine gt_upI ?_; (repeat (first | exact In_of (gt_nw (by assumption)) | (apply In_of; assumption) | refine In_up ?_ | refine In_nw ?_)); done) | refine gt_rd (by first | assumption | (apply Ne.symm; assumption) | (exact hj _ _ (by omega) (by omega) (by omega)) | omega) ?_ | exact gt_nw (by assumption) | refine gt_odr (by first | assumption | (apply Ne.symm; assumption) | omega) ?_)
      · first | rfl | assumption
      refine Ev.iconst (v := 1) dX4_next_125 (by decide) ?_
      rw [up_up]
      have q3 : gt (up M a (tc b sz (nI n) (nI (tkA c n p)) (nI (tkA c n p)) (nI k0) 0 f hr hc)) a = some (tc b sz (nI n) (nI (tkA c n p)) (nI (tkA c n p)) (nI k0) 0 f hr hc) := gt_up hA
      have run : (k0 = 1 ∨ k0 = 2) → Ev G mX4_next 143 [some (.ref a), some (.int 1)] [] (up M a (tc b sz (nI n) (nI (tkA c n p)) (nI (tkA c n p)) (nI k0) 0 f hr hc)) 0 0 (fun u M' => u = none ∧ ∃ v' : Int32, (tkT c n p = 2 → v' = nI (tkV c n p)) ∧ M' = up M a (tc b sz (nI n) (nI (tkA c n p)) (nI (xtE c n p)) (nI (tkT c n p)) v' f hr hc)) := by
        intro hk
        have hlt : tkA c n p < n := by
          by_cases z : n ≤ tkA c n p
          · have := h0 z; omega
          · omega
        have e1 := h1 hlt
        obtain ⟨x0, -, -⟩ := hT _ hlt
        rcases hk with hk | hk
        · subst hk
          have hl : pL (c (tkA c n p)) = true := by
            rw [tyN] at e1
            by_cases l : pL (c (tkA c n p)) = true
            · exact l
            · rw [if_neg l] at e1
              split at e1
              · omega
              · split at e1 <;> omega
          have eE : tkE c n p = rn pL c (n - tkA c n p) (tkA c n p) := by rw [tkE, if_neg (by omega), if_pos hl]
          refine L2 _ (tkA c n p) 1 pL hA1.2 (Or.inl rfl) (fun x hx => ?_) (fun z => by omega) (n - tkA c n p) (tkA c n p) 0 (by omega) (Nat.le_refl _) (fun z => by omega) (fun v' hv' => ?_)
          · rw [tyN]
            constructor
            · intro z
              by_cases l : pL x = true
              · exact l
              · rw [if_neg l] at z
                split at z
                · omega
                · split at z <;> omega
            · intro z
              rw [if_pos z]
          · rw [← eE]
            refine fin v' (tkE c n p) 1 _ ?_ (by omega) (fun z => ?_) hE1.1 hE1.2 ?_
            · rw [xtE, if_neg (by omega), ← e1, if_neg (by omega)]
            · have := tkT_d z
              rw [tkT, if_neg (by omega), if_pos hl] at z
              split at z <;> omega
            · rw [tkT, if_neg (by omega), if_pos hl, if_pos rfl]
              by_cases w : tkE c n p - tkA c n p ≤ 9
              · rw [if_pos w, if_neg (by omega)]
              · rw [if_neg w, if_pos (by omega)]
        · subst hk
          have hl : ¬ pL (c (tkA c n p)) = true ∧ pD (c (tkA c n p)) = true := by
            rw [tyN] at e1
            by_cases l : pL (c (tkA c n p)) = true
            · rw [if_pos l] at e1; omega
            · rw [if_neg l] at e1
              refine ⟨l, ?_⟩
              by_cases dd : pD (c (tkA c n p)) = true
              · exact dd
              · rw [if_neg dd] at e1
                split at e1 <;> omega
          have eE : tkE c n p = rn pD c (n - tkA c n p) (tkA c n p) := by rw [tkE, if_neg (by omega), if_neg hl.1, if_pos hl.2]
          refine L2 _ (tkA c n p) 2 pD hA1.2 (Or.inr rfl) (fun x hx => ?_) (fun _ x hx => Nat.le_of_ble_eq_true (Bool.and_eq_true_iff.mp hx).1) (n - tkA c n p) (tkA c n p) 0 (by omega) (Nat.le_refl _) (fun _ => by rw [Nat.sub_self]; rfl) (fun v' hv' => ?_)
          · rw [tyN]
            constructor
            · intro z
              by_cases l : pL x = true
              · rw [if_pos l] at z; omega
              · rw [if_neg l] at z
                by_cases dd : pD x = true
                · exact dd
                · rw [if_neg dd] at z
                  split at z <;> omega
            · intro z
              have z1 := Nat.le_of_ble_eq_true (Bool.and_eq_true_iff.mp z).2
              have nl : ¬ pL x = true := fun w => by
                have := Nat.le_of_ble_eq_true (Bool.and_eq_true_iff.mp w).1
                omega
              rw [if_neg nl, if_pos z]
          · rw [← eE]
            rw [← eE] at hv'
            refine fin v' (tkE c n p) 2 _ ?_ (by omega) (fun z => ?_) hE1.1 hE1.2 ?_
            · rw [xtE, if_neg (by omega), ← e1, if_neg (by omega)]
            · exact hv' rfl
            · rw [tkT, if_neg (by omega), if_neg hl.1, if_pos hl.2, if_neg (show ¬ (2 : Nat) = 1 by omega)]
              by_cases w : tkE c n p - tkA c n p ≤ 4
              · rw [if_pos w, if_neg (by omega)]
              · rw [if_neg w, if_pos (by omega)]
      refine Ev.icmp_eq (tgt := 137) dX4_next_126 (by decide) (fun c126 => ?_) (fun c126 => ?_)
      · refine Ev.iconst (v := 1) dX4_next_137 (by decide) ?_
        refine Ev.goto (tgt := 142) dX4_next_138 (by decide) ?_
        refine Ev.ist1 dX4_next_142 rfl rfl ?_
        exact run (Or.inl (n1.mp c126))
      · refine Ev.ald0 dX4_next_129 ?_
        apply Ev.getf dX4_next_130 fX4_28
        · repeat (first | assumption | (refine gt_upI ?_; (repeat (first | exact In_of (gt_nw (by assumption)) | (apply In_of; assumption) | refine In_up ?_ | refine In_nw ?_)); done) | refine gt_rd (by first | assumption | (apply Ne.symm; assumption) | (exact hj _ _ (by omega) (by omega) (by omega)) | omega) ?_ | exact gt_nw (by assumption) | refine gt_odr (by first | assumption | (apply Ne.symm; assumption) | omega) ?_)
        · first | rfl | assumption
        refine Ev.iconst (v := 2) dX4_next_133 (by decide) ?_
        refine Ev.icmp_ne (tgt := 141) dX4_next_134 (by decide) (fun c134 => ?_) (fun c134 => ?_)
        · have k12 : k0 = 0 ∨ k0 = 4 := by
            have a1 : k0 ≠ 1 := fun z => c126 (n1.mpr z)
            have a2 : k0 ≠ 2 := fun z => c134 (n2.mpr z)
            omega
          refine Ev.iconst (v := 0) dX4_next_141 (by decide) ?_
          refine Ev.ist1 dX4_next_142 rfl rfl ?_
          refine Ev.ild1 dX4_next_143 ?_
          refine Ev.if_eq (tgt := 214) dX4_next_144 (by decide) (fun _ => ?_) (fun c9 => absurd rfl c9)
          have hxE : xtE c n p = tkA c n p := by
            rw [xtE]
            by_cases z : n ≤ tkA c n p
            · rw [if_pos z]
            · rw [if_neg z, ← h1 (by omega), if_pos]
              rcases k12 with w | w
              · exact absurd (h1 (by omega)) (by
                  rw [w, tyN]
                  split
                  · omega
                  · split
                    · omega
                    · split <;> omega)
              · exact w
          have hTT : tkT c n p = k0 := by
            rw [tkT]
            by_cases z : n ≤ tkA c n p
            · rw [if_pos z, h0 z]
            · have e1 := h1 (by omega)
              rw [if_neg z]
              rw [tyN] at e1
              by_cases l : pL (c (tkA c n p)) = true
              · rw [if_pos l] at e1; omega
              · rw [if_neg l] at e1 ⊢
                by_cases dd : pD (c (tkA c n p)) = true
                · rw [if_pos dd] at e1; omega
                · rw [if_neg dd] at e1 ⊢
                  exact e1.symm
          refine fin 0 (tkA c n p) k0 _ hxE hk0 (fun z => by omega) (Nat.le_refl _) hA1.2 ?_
          rw [hTT, Nat.sub_self, if_neg (by omega)]
        · refine Ev.iconst (v := 1) dX4_next_137 (by decide) ?_
          refine Ev.goto (tgt := 142) dX4_next_138 (by decide) ?_
          refine Ev.ist1 dX4_next_142 rfl rfl ?_
          exact run (Or.inr (n2.mp c134))
    · have k3 : k0 = 3 := n3.mp c102
      have hlt : tkA c n p < n := by
        by_cases z : n ≤ tkA c n p
        · have := h0 z; omega
        · omega
      have e1 := h1 hlt
      have hl : ¬ pL (c (tkA c n p)) = true ∧ ¬ pD (c (tkA c n p)) = true ∧ c (tkA c n p) = 59 := by
        rw [k3, tyN] at e1
        by_cases l : pL (c (tkA c n p)) = true
        · rw [if_pos l] at e1; omega
        · rw [if_neg l] at e1
          refine ⟨l, ?_⟩
          by_cases dd : pD (c (tkA c n p)) = true
          · rw [if_pos dd] at e1; omega
          · rw [if_neg dd] at e1
            refine ⟨dd, ?_⟩
            by_cases s : c (tkA c n p) = 59
            · exact s
            · rw [if_neg s] at e1; omega
      have eE : tkE c n p = tkA c n p + 1 := by rw [tkE, if_neg (by omega), if_neg hl.1, if_neg hl.2.1]
      refine Ev.ald0 dX4_next_105 ?_
      apply Ev.getf dX4_next_106 fX4_22
      · repeat (first | assumption | (refine gt_upI ?_; (repeat (first | exact In_of (gt_nw (by assumption)) | (apply In_of; assumption) | refine In_up ?_ | refine In_nw ?_)); done) | refine gt_rd (by first | assumption | (apply Ne.symm; assumption) | (exact hj _ _ (by omega) (by omega) (by omega)) | omega) ?_ | exact gt_nw (by assumption) | refine gt_odr (by first | assumption | (apply Ne.symm; assumption) | omega) ?_)
      · first | rfl | assumption
      refine Ev.iconst (v := 1) dX4_next_109 (by decide) ?_
      refine Ev.iadd dX4_next_110 ?_
      refine Ev.goto (tgt := 118) dX4_next_111 (by decide) ?_
      apply Ev.put dX4_next_118 fX4_25
      · repeat (first | assumption | (refine gt_upI ?_; (repeat (first | exact In_of (gt_nw (by assumption)) | (apply In_of; assumption) | refine In_up ?_ | refine In_nw ?_)); done) | refine gt_rd (by first | assumption | (apply Ne.symm; assumption) | (exact hj _ _ (by omega) (by omega) (by omega)) | omega) ?_ | exact gt_nw (by assumption) | refine gt_odr (by first | assumption | (apply Ne.symm; assumption) | omega) ?_)
      · rfl
      · rfl
      · rfl
      refine Ev.ald0 dX4_next_121 ?_
      apply Ev.getf dX4_next_122 fX4_28
      · repeat (first | assumption | (refine gt_upI ?_; (repeat (first | exact In_of (gt_nw (by assumption)) | (apply In_of; assumption) | refine In_up ?_ | refine In_nw ?_)); done) | refine gt_rd (by first | assumption | (apply Ne.symm; assumption) | (exact hj _ _ (by omega) (by omega) (by omega)) | omega) ?_ | exact gt_nw (by assumption) | refine gt_odr (by first | assumption | (apply Ne.symm; assumption) | omega) ?_)
      · first | rfl | assumption
      refine Ev.iconst (v := 1) dX4_next_125 (by decide) ?_
      rw [up_up, nI_1]
      have q3 : gt (up M a (tc b sz (nI n) (nI (tkA c n p)) (nI (tkA c n p + 1)) (nI k0) 0 f hr hc)) a = some (tc b sz (nI n) (nI (tkA c n p)) (nI (tkA c n p + 1)) (nI k0) 0 f hr hc) := gt_up hA
      refine Ev.icmp_eq (tgt := 137) dX4_next_126 (by decide) (fun c9 => absurd (n1.mp c9) (by omega)) (fun _ => ?_)
      refine Ev.ald0 dX4_next_129 ?_
      apply Ev.getf dX4_next_130 fX4_28
      · repeat (first | assumption | (refine gt_upI ?_; (repeat (first | exact In_of (gt_nw (by assumption)) | (apply In_of; assumption) | refine In_up ?_ | refine In_nw ?_)); done) | refine gt_rd (by first | assumption | (apply Ne.symm; assumption) | (exact hj _ _ (by omega) (by omega) (by omega)) | omega) ?_ | exact gt_nw (by assumption) | refine gt_odr (by first | assumption | (apply Ne.symm; assumption) | omega) ?_)
      · first | rfl | assumption
      refine Ev.iconst (v := 2) dX4_next_133 (by decide) ?_
      refine Ev.icmp_ne (tgt := 141) dX4_next_134 (by decide) (fun _ => ?_) (fun c9 => absurd (n2.mp c9) (by omega))
      refine Ev.iconst (v := 0) dX4_next_141 (by decide) ?_
      refine Ev.ist1 dX4_next_142 rfl rfl ?_
      refine Ev.ild1 dX4_next_143 ?_
      refine Ev.if_eq (tgt := 214) dX4_next_144 (by decide) (fun _ => ?_) (fun c9 => absurd rfl c9)
      refine fin 0 (tkA c n p + 1) k0 _ ?_ hk0 (fun z => ?_) (by omega) (by omega) ?_
      · rw [xtE, if_neg (by omega), ← e1, k3, if_neg (by omega), eE]
      · rw [tkT, if_neg (by omega), if_neg hl.1, if_neg hl.2.1, if_pos hl.2.2] at z; omega
      · rw [tkT, if_neg (by omega), if_neg hl.1, if_neg hl.2.1, if_pos hl.2.2, k3, if_neg (show ¬ (3 : Nat) = 1 by omega), if_neg (by omega)]
  have q3 : gt (up M a (tc b sz (nI n) (nI (tkA c n p)) (nI p) ty 0 f hr hc)) a = some (tc b sz (nI n) (nI (tkA c n p)) (nI p) ty 0 f hr hc) := gt_up hA
  have q4 : gt (up M a (tc b sz (nI n) (nI (tkA c n p)) (nI p) ty 0 f hr hc)) b = some (ia 1 800 t) := gt_rd hab.symm hB
  refine Ev.icmp_ge (tgt := 92) dX4_next_74 (by decide) (fun c74 => ?_) (fun c74 => ?_)
  · have : n ≤ tkA c n p := (nI_leI (by omega) (by omega)).mp c74
    refine Ev.iconst (v := 0) dX4_next_92 (by decide) ?_
    apply Ev.put dX4_next_93 fX4_28
    · repeat (first | assumption | (refine gt_upI ?_; (repeat (first | exact In_of (gt_nw (by assumption)) | (apply In_of; assumption) | refine In_up ?_ | refine In_nw ?_)); done) | refine gt_rd (by first | assumption | (apply Ne.symm; assumption) | (exact hj _ _ (by omega) (by omega) (by omega)) | omega) ?_ | exact gt_nw (by assumption) | refine gt_odr (by first | assumption | (apply Ne.symm; assumption) | omega) ?_)
    · rfl
    · rfl
    · rfl
    rw [up_up]
    exact aft 0 (by omega) (fun _ => rfl) (fun z => by omega)
  · have hlt : tkA c n p < n := by
      by_cases z : n ≤ tkA c n p
      · exact absurd ((nI_leI (by omega) (by omega)).mpr z) c74
      · omega
    have hty := tyc_n hT hlt
    have hk4 : tyN (c (tkA c n p)) ≤ 4 := by
      rw [tyN]
      split
      · omega
      · split
        · omega
        · split <;> omega
    refine Ev.ald0 dX4_next_77 ?_
    apply Ev.getf dX4_next_78 fX4_15
    · repeat (first | assumption | (refine gt_upI ?_; (repeat (first | exact In_of (gt_nw (by assumption)) | (apply In_of; assumption) | refine In_up ?_ | refine In_nw ?_)); done) | refine gt_rd (by first | assumption | (apply Ne.symm; assumption) | (exact hj _ _ (by omega) (by omega) (by omega)) | omega) ?_ | exact gt_nw (by assumption) | refine gt_odr (by first | assumption | (apply Ne.symm; assumption) | omega) ?_)
    · first | rfl | assumption
    refine Ev.ald0 dX4_next_81 ?_
    apply Ev.getf dX4_next_82 fX4_22
    · repeat (first | assumption | (refine gt_upI ?_; (repeat (first | exact In_of (gt_nw (by assumption)) | (apply In_of; assumption) | refine In_up ?_ | refine In_nw ?_)); done) | refine gt_rd (by first | assumption | (apply Ne.symm; assumption) | (exact hj _ _ (by omega) (by omega) (by omega)) | omega) ?_ | exact gt_nw (by assumption) | refine gt_odr (by first | assumption | (apply Ne.symm; assumption) | omega) ?_)
    · first | rfl | assumption
    apply Ev.bald dX4_next_85
    · repeat (first | assumption | (refine gt_upI ?_; (repeat (first | exact In_of (gt_nw (by assumption)) | (apply In_of; assumption) | refine In_up ?_ | refine In_nw ?_)); done) | refine gt_rd (by first | assumption | (apply Ne.symm; assumption) | (exact hj _ _ (by omega) (by omega) (by omega)) | omega) ?_ | exact gt_nw (by assumption) | refine gt_odr (by first | assumption | (apply Ne.symm; assumption) | omega) ?_)
    · exact vp_in_nI (by omega) (by omega)
    rw [nI_clamp (by omega)]
    refine Ev.csI (Yc := mX4_typeOf) dX4_next_86 lX4_139 vX4_typeOf rfl t_typeOf rfl rfl rfl ?_
    rintro y M' ⟨hy, rfl⟩
    rw [hty] at hy
    subst hy
    refine Ev.goto (tgt := 93) dX4_next_89 (by decide) ?_
    apply Ev.put dX4_next_93 fX4_28
    · repeat (first | assumption | (refine gt_upI ?_; (repeat (first | exact In_of (gt_nw (by assumption)) | (apply In_of; assumption) | refine In_up ?_ | refine In_nw ?_)); done) | refine gt_rd (by first | assumption | (apply Ne.symm; assumption) | (exact hj _ _ (by omega) (by omega) (by omega)) | omega) ?_ | exact gt_nw (by assumption) | refine gt_odr (by first | assumption | (apply Ne.symm; assumption) | omega) ?_)
    · rfl
    · rfl
    · rfl
    rw [up_up]
    exact aft (tyN (c (tkA c n p))) hk4 (fun z => by omega) (fun _ => rfl)
end TAP
