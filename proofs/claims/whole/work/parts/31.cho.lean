/-- the choice's cell: price, volume, rest, key, wide, reference, narrow, restSize, lowest, highest, nearest, nearestRest, allAbove, allBelow -/
abbrev cc (g : Nat → Int32) : En := ob 3 [.int (g 0), .int (g 1), .int (g 2), .int (g 3), .int (g 4), .int (g 5), .int (g 6), .int (g 7), .int (g 8), .int (g 9), .int (g 10), .int (g 11), .int (g 12), .int (g 13)]
def ab (x : Int32) : Int32 := if 0 ≤ x then x else 0 - x
def mx (x y : Int32) : Int32 := if x < y then y else x
/-- weighRest, in three steps -/
def wr1 (g : Nat → Int32) (a z : Int32) : Nat → Int32 := if g 6 = 0 ∨ ab z < g 7 then upd (upd (upd (upd (upd (upd g 7 (ab z)) 6 0) 8 a) 10 (-1)) 12 1) 13 1 else g
def wr2 (g : Nat → Int32) (a b z : Int32) : Nat → Int32 := upd (upd (upd (upd g 6 (g 6 + (b - a + 1))) 9 b) 12 (if g 12 ≠ 0 ∧ 0 < z then 1 else 0)) 13 (if g 13 ≠ 0 ∧ z < 0 then 1 else 0)
def wr3 (g : Nat → Int32) (a b z : Int32) : Nat → Int32 := if g 10 = -1 ∨ ab (mx a (mn b (g 5)) - g 5) ≤ ab (g 10 - g 5) then upd (upd g 10 (mx a (mn b (g 5)))) 11 z else g
def wrr (g : Nat → Int32) (a b z : Int32) : Nat → Int32 := if 0 < g 6 ∧ g 7 < ab z then g else wr3 (wr2 (wr1 g a z) a b z) a b z
def wgh (g : Nat → Int32) (a b v z : Int32) : Nat → Int32 := if v = 0 ∨ v < g 1 then g else if g 1 < v then wrr (upd (upd (upd (upd g 1 v) 4 0) 6 0) 4 (0 + (b - a + 1))) a b z else wrr (upd g 4 (g 4 + (b - a + 1))) a b z
def dcd (g : Nat → Int32) : Nat → Int32 := if g 1 = 0 then upd (upd (upd g 0 (-1)) 2 0) 3 0 else
  upd (upd (upd g 0 (if g 6 = 1 ∨ ¬ (g 12 ≠ 0 ∨ g 13 ≠ 0) then g 10 else if g 12 ≠ 0 then g 9 else g 8)) 2 (if g 6 = 1 ∨ ¬ (g 12 ≠ 0 ∨ g 13 ≠ 0) then g 11 else if g 12 ≠ 0 then g 7 else -g 7)) 3 (if g 4 = 1 then 0 else if g 6 = 1 then 1 else if g 12 ≠ 0 ∨ g 13 ≠ 0 then 2 else 3)
theorem if01_a {p q : Prop} {d : Decidable (p ∧ q)} (h : ¬ p) : (0 : Int32) = @ite _ (p ∧ q) d 1 0 := (if_neg (fun r => h r.1)).symm
theorem if01_b {p q : Prop} {d : Decidable (p ∧ q)} (h : ¬ q) : (0 : Int32) = @ite _ (p ∧ q) d 1 0 := (if_neg (fun r => h r.2)).symm
theorem if01_c {p q : Prop} {d : Decidable (p ∧ q)} (h : p) (h2 : q) : (1 : Int32) = @ite _ (p ∧ q) d 1 0 := (if_pos ⟨h, h2⟩).symm
section CHE
variable {g : Nat → Int32} {a b z v : Int32}
theorem wr1_t (h : g 6 = 0 ∨ ab z < g 7) : wr1 g a z = upd (upd (upd (upd (upd (upd g 7 (ab z)) 6 0) 8 a) 10 (-1)) 12 1) 13 1 := if_pos h
theorem wr1_f (h : ¬ (g 6 = 0 ∨ ab z < g 7)) : wr1 g a z = g := if_neg h
theorem wr3_t (h : g 10 = -1 ∨ ab (mx a (mn b (g 5)) - g 5) ≤ ab (g 10 - g 5)) : wr3 g a b z = upd (upd g 10 (mx a (mn b (g 5)))) 11 z := if_pos h
theorem wr3_f (h : ¬ (g 10 = -1 ∨ ab (mx a (mn b (g 5)) - g 5) ≤ ab (g 10 - g 5))) : wr3 g a b z = g := if_neg h
theorem wrr_t (h : 0 < g 6 ∧ g 7 < ab z) : wrr g a b z = g := if_pos h
theorem wrr_f (h : ¬ (0 < g 6 ∧ g 7 < ab z)) : wrr g a b z = wr3 (wr2 (wr1 g a z) a b z) a b z := if_neg h
theorem wgh_0 (h : v = 0 ∨ v < g 1) : wgh g a b v z = g := if_pos h
theorem wgh_1 (h : ¬ (v = 0 ∨ v < g 1)) (h2 : g 1 < v) : wgh g a b v z = wrr (upd (upd (upd (upd g 1 v) 4 0) 6 0) 4 (0 + (b - a + 1))) a b z := (if_neg h).trans (if_pos h2)
theorem wgh_2 (h : ¬ (v = 0 ∨ v < g 1)) (h2 : ¬ g 1 < v) : wgh g a b v z = wrr (upd g 4 (g 4 + (b - a + 1))) a b z := (if_neg h).trans (if_neg h2)
theorem dcd_0 (h : g 1 = 0) : dcd g = upd (upd (upd g 0 (-1)) 2 0) 3 0 := if_pos h
theorem dcd_1 (h : g 1 ≠ 0) : dcd g = upd (upd (upd g 0 (if g 6 = 1 ∨ ¬ (g 12 ≠ 0 ∨ g 13 ≠ 0) then g 10 else if g 12 ≠ 0 then g 9 else g 8)) 2 (if g 6 = 1 ∨ ¬ (g 12 ≠ 0 ∨ g 13 ≠ 0) then g 11 else if g 12 ≠ 0 then g 7 else -g 7)) 3 (if g 4 = 1 then 0 else if g 6 = 1 then 1 else if g 12 ≠ 0 ∨ g 13 ≠ 0 then 2 else 3) := if_neg h
end CHE
section CHO
variable {G : GP} {M : Wd} {h : Nat} {g : Nat → Int32}
set_option maxRecDepth 20000 in
theorem c_start {x : Int32} (hB : gt M h = some (cc g)) : CtV G mX3_start [.ref h, .int x] M 0 0 (fun M' => M' = up M h (cc (upd (upd (upd (upd g 5 x) 1 0) 4 0) 6 0))) := by
  refine Ct.of (ls := [some (.ref h), some (.int x)]) (by decide) (by decide) rfl rfl rfl ?_
  refine Ev.ald0 dX3_start_0 ?_
  refine Ev.ild1 dX3_start_1 ?_
  apply Ev.put dX3_start_2 fX3_27
  · repeat (first | assumption | (refine gt_upI ?_; (repeat (first | refine In_up ?_ | refine In_nw ?_)); apply In_of; assumption) | refine gt_rd (by first | assumption | (apply Ne.symm; assumption) | (exact hj _ _ (by omega) (by omega) (by omega)) | omega) ?_ | exact gt_nw (by assumption) | refine gt_odr (by first | assumption | (apply Ne.symm; assumption) | omega) ?_)
  · rfl
  · rfl
  · rfl
  refine Ev.ald0 dX3_start_5 ?_
  refine Ev.iconst (v := 0) dX3_start_6 (by decide) ?_
  apply Ev.put dX3_start_7 fX3_15
  · repeat (first | assumption | (refine gt_upI ?_; (repeat (first | refine In_up ?_ | refine In_nw ?_)); apply In_of; assumption) | refine gt_rd (by first | assumption | (apply Ne.symm; assumption) | (exact hj _ _ (by omega) (by omega) (by omega)) | omega) ?_ | exact gt_nw (by assumption) | refine gt_odr (by first | assumption | (apply Ne.symm; assumption) | omega) ?_)
  · rfl
  · rfl
  · rfl
  refine Ev.ald0 dX3_start_10 ?_
  refine Ev.iconst (v := 0) dX3_start_11 (by decide) ?_
  apply Ev.put dX3_start_12 fX3_24
  · repeat (first | assumption | (refine gt_upI ?_; (repeat (first | refine In_up ?_ | refine In_nw ?_)); apply In_of; assumption) | refine gt_rd (by first | assumption | (apply Ne.symm; assumption) | (exact hj _ _ (by omega) (by omega) (by omega)) | omega) ?_ | exact gt_nw (by assumption) | refine gt_odr (by first | assumption | (apply Ne.symm; assumption) | omega) ?_)
  · rfl
  · rfl
  · rfl
  refine Ev.ald0 dX3_start_15 ?_
  refine Ev.iconst (v := 0) dX3_start_16 (by decide) ?_
  apply Ev.put dX3_start_17 fX3_30
  · repeat (first | assumption | (refine gt_upI ?_; (repeat (first | refine In_up ?_ | refine In_nw ?_)); apply In_of; assumption) | refine gt_rd (by first | assumption | (apply Ne.symm; assumption) | (exact hj _ _ (by omega) (by omega) (by omega)) | omega) ?_ | exact gt_nw (by assumption) | refine gt_odr (by first | assumption | (apply Ne.symm; assumption) | omega) ?_)
  · rfl
  · rfl
  · rfl
  refine Ev.vret dX3_start_20 rfl ?_
  exact ⟨rfl, by rw [up_up, up_up, up_up]; rfl⟩
set_option maxRecDepth 20000 in
theorem c_tell {x : Int32} (hB : gt M h = some (cc g)) : CtI G mX3_tell [.ref h, .int x] M 0 0 (fun y M' => y = (if x = 0 then g 0 else if x = 1 then g 1 else if x = 2 then g 2 else if x = 3 then g 3 else g 4) ∧ M' = M) := by
  refine Ct.of (ls := [some (.ref h), some (.int x)]) (by decide) (by decide) rfl rfl rfl ?_
  refine Ev.ild1 dX3_tell_0 ?_
  by_cases h0 : x = 0
  · subst h0
    refine Ev.tin (off := 31) (tgt := 32) dX3_tell_1 (by decide) (by decide) rfl (by decide) ?_
    refine Ev.ald0 dX3_tell_32 ?_
    apply Ev.getf dX3_tell_33 fX3_9
    · repeat (first | assumption | (refine gt_upI ?_; (repeat (first | refine In_up ?_ | refine In_nw ?_)); apply In_of; assumption) | refine gt_rd (by first | assumption | (apply Ne.symm; assumption) | (exact hj _ _ (by omega) (by omega) (by omega)) | omega) ?_ | exact gt_nw (by assumption) | refine gt_odr (by first | assumption | (apply Ne.symm; assumption) | omega) ?_)
    · first | rfl | assumption
    refine Ev.iret dX3_tell_36 rfl rfl ?_
    exact ⟨_, rfl, rfl, rfl⟩
  by_cases h1 : x = 1
  · subst h1
    refine Ev.tin (off := 36) (tgt := 37) dX3_tell_1 (by decide) (by decide) rfl (by decide) ?_
    refine Ev.ald0 dX3_tell_37 ?_
    apply Ev.getf dX3_tell_38 fX3_15
    · repeat (first | assumption | (refine gt_upI ?_; (repeat (first | refine In_up ?_ | refine In_nw ?_)); apply In_of; assumption) | refine gt_rd (by first | assumption | (apply Ne.symm; assumption) | (exact hj _ _ (by omega) (by omega) (by omega)) | omega) ?_ | exact gt_nw (by assumption) | refine gt_odr (by first | assumption | (apply Ne.symm; assumption) | omega) ?_)
    · first | rfl | assumption
    refine Ev.iret dX3_tell_41 rfl rfl ?_
    exact ⟨_, rfl, rfl, rfl⟩
  by_cases h2 : x = 2
  · subst h2
    refine Ev.tin (off := 41) (tgt := 42) dX3_tell_1 (by decide) (by decide) rfl (by decide) ?_
    refine Ev.ald0 dX3_tell_42 ?_
    apply Ev.getf dX3_tell_43 fX3_18
    · repeat (first | assumption | (refine gt_upI ?_; (repeat (first | refine In_up ?_ | refine In_nw ?_)); apply In_of; assumption) | refine gt_rd (by first | assumption | (apply Ne.symm; assumption) | (exact hj _ _ (by omega) (by omega) (by omega)) | omega) ?_ | exact gt_nw (by assumption) | refine gt_odr (by first | assumption | (apply Ne.symm; assumption) | omega) ?_)
    · first | rfl | assumption
    refine Ev.iret dX3_tell_46 rfl rfl ?_
    exact ⟨_, rfl, rfl, rfl⟩
  by_cases h3 : x = 3
  · subst h3
    refine Ev.tin (off := 46) (tgt := 47) dX3_tell_1 (by decide) (by decide) rfl (by decide) ?_
    refine Ev.ald0 dX3_tell_47 ?_
    apply Ev.getf dX3_tell_48 fX3_21
    · repeat (first | assumption | (refine gt_upI ?_; (repeat (first | refine In_up ?_ | refine In_nw ?_)); apply In_of; assumption) | refine gt_rd (by first | assumption | (apply Ne.symm; assumption) | (exact hj _ _ (by omega) (by omega) (by omega)) | omega) ?_ | exact gt_nw (by assumption) | refine gt_odr (by first | assumption | (apply Ne.symm; assumption) | omega) ?_)
    · first | rfl | assumption
    refine Ev.iret dX3_tell_51 rfl rfl ?_
    exact ⟨_, rfl, rfl, rfl⟩
  have n0 := lv_neT h0 (a := 0) rfl
  have n1 := lv_neT h1 (a := 1) rfl
  have n2 := lv_neT h2 (a := 2) rfl
  have n3 := lv_neT h3 (a := 3) rfl
  refine Ev.tout (tgt := 52) dX3_tell_1 (by omega) (by decide) ?_
  refine Ev.ald0 dX3_tell_52 ?_
  apply Ev.getf dX3_tell_53 fX3_24
  · repeat (first | assumption | (refine gt_upI ?_; (repeat (first | refine In_up ?_ | refine In_nw ?_)); apply In_of; assumption) | refine gt_rd (by first | assumption | (apply Ne.symm; assumption) | (exact hj _ _ (by omega) (by omega) (by omega)) | omega) ?_ | exact gt_nw (by assumption) | refine gt_odr (by first | assumption | (apply Ne.symm; assumption) | omega) ?_)
  · first | rfl | assumption
  refine Ev.iret dX3_tell_56 rfl rfl ?_
  exact ⟨_, rfl, by rw [if_neg h0, if_neg h1, if_neg h2, if_neg h3], rfl⟩
set_option maxRecDepth 20000 in
theorem c_weighRest {a b z : Int32} (hB : gt M h = some (cc g)) : CtV G mX3_weighRest [.ref h, .int a, .int b, .int z] M 0 0 (fun M' => M' = up M h (cc (wrr g a b z))) := by
  have J3 : ∀ g2 : Nat → Int32, Ev G mX3_weighRest 129 [some (.ref h), some (.int a), some (.int b), some (.int z), some (.int (ab z)), none] [] (up M h (cc g2)) 0 0 (fun v M' => v = none ∧ M' = up M h (cc (wr3 g2 a b z))) := by
    intro g2
    refine Ev.ild1 dX3_weighRest_129 ?_
    refine Ev.ild2 dX3_weighRest_130 ?_
    refine Ev.ald0 dX3_weighRest_131 ?_
    apply Ev.getf dX3_weighRest_132 fX3_27
    · repeat (first | assumption | (refine gt_upI ?_; (repeat (first | refine In_up ?_ | refine In_nw ?_)); apply In_of; assumption) | refine gt_rd (by first | assumption | (apply Ne.symm; assumption) | (exact hj _ _ (by omega) (by omega) (by omega)) | omega) ?_ | exact gt_nw (by assumption) | refine gt_odr (by first | assumption | (apply Ne.symm; assumption) | omega) ?_)
    · first | rfl | assumption
    refine Ev.min dX3_weighRest_135 lX3_69 rfl rfl ?_
    refine Ev.max dX3_weighRest_138 lX3_73 rfl rfl ?_
    refine Ev.ist5 dX3_weighRest_141 rfl rfl ?_
    refine Ev.ald0 dX3_weighRest_143 ?_
    apply Ev.getf dX3_weighRest_144 fX3_42
    · repeat (first | assumption | (refine gt_upI ?_; (repeat (first | refine In_up ?_ | refine In_nw ?_)); apply In_of; assumption) | refine gt_rd (by first | assumption | (apply Ne.symm; assumption) | (exact hj _ _ (by omega) (by omega) (by omega)) | omega) ?_ | exact gt_nw (by assumption) | refine gt_odr (by first | assumption | (apply Ne.symm; assumption) | omega) ?_)
    · first | rfl | assumption
    refine Ev.iconst (v := -1) dX3_weighRest_147 (by decide) ?_
    refine Ev.icmp_eq (tgt := 176) dX3_weighRest_148 (by decide) (fun c148 => ?_) (fun c148 => ?_)
    · refine Ev.ald0 dX3_weighRest_176 ?_
      refine Ev.ild5 dX3_weighRest_177 ?_
      apply Ev.put dX3_weighRest_179 fX3_42
      · repeat (first | assumption | (refine gt_upI ?_; (repeat (first | refine In_up ?_ | refine In_nw ?_)); apply In_of; assumption) | refine gt_rd (by first | assumption | (apply Ne.symm; assumption) | (exact hj _ _ (by omega) (by omega) (by omega)) | omega) ?_ | exact gt_nw (by assumption) | refine gt_odr (by first | assumption | (apply Ne.symm; assumption) | omega) ?_)
      · rfl
      · rfl
      · rfl
      refine Ev.ald0 dX3_weighRest_182 ?_
      refine Ev.ild3 dX3_weighRest_183 ?_
      apply Ev.put dX3_weighRest_184 fX3_45
      · repeat (first | assumption | (refine gt_upI ?_; (repeat (first | refine In_up ?_ | refine In_nw ?_)); apply In_of; assumption) | refine gt_rd (by first | assumption | (apply Ne.symm; assumption) | (exact hj _ _ (by omega) (by omega) (by omega)) | omega) ?_ | exact gt_nw (by assumption) | refine gt_odr (by first | assumption | (apply Ne.symm; assumption) | omega) ?_)
      · rfl
      · rfl
      · rfl
      refine Ev.vret dX3_weighRest_187 rfl ?_
      refine ⟨rfl, ?_⟩
      first | (rw [wr3_t (Or.inl c148), up_up, up_up]; rfl) | (rw [wr3_f (fun q => q.elim c148 (fun q => absurd q (Int32.not_le.mpr c173)))]) | (rw [wr3_t (Or.inr (Int32.not_lt.mp c173)), up_up, up_up]; rfl)
    · refine Ev.ild5 dX3_weighRest_151 ?_
      refine Ev.ald0 dX3_weighRest_153 ?_
      apply Ev.getf dX3_weighRest_154 fX3_27
      · repeat (first | assumption | (refine gt_upI ?_; (repeat (first | refine In_up ?_ | refine In_nw ?_)); apply In_of; assumption) | refine gt_rd (by first | assumption | (apply Ne.symm; assumption) | (exact hj _ _ (by omega) (by omega) (by omega)) | omega) ?_ | exact gt_nw (by assumption) | refine gt_odr (by first | assumption | (apply Ne.symm; assumption) | omega) ?_)
      · first | rfl | assumption
      refine Ev.isub dX3_weighRest_157 ?_
      refine Ev.abs dX3_weighRest_158 lX3_63 rfl rfl ?_
      refine Ev.ald0 dX3_weighRest_161 ?_
      apply Ev.getf dX3_weighRest_162 fX3_42
      · repeat (first | assumption | (refine gt_upI ?_; (repeat (first | refine In_up ?_ | refine In_nw ?_)); apply In_of; assumption) | refine gt_rd (by first | assumption | (apply Ne.symm; assumption) | (exact hj _ _ (by omega) (by omega) (by omega)) | omega) ?_ | exact gt_nw (by assumption) | refine gt_odr (by first | assumption | (apply Ne.symm; assumption) | omega) ?_)
      · first | rfl | assumption
      refine Ev.ald0 dX3_weighRest_165 ?_
      apply Ev.getf dX3_weighRest_166 fX3_27
      · repeat (first | assumption | (refine gt_upI ?_; (repeat (first | refine In_up ?_ | refine In_nw ?_)); apply In_of; assumption) | refine gt_rd (by first | assumption | (apply Ne.symm; assumption) | (exact hj _ _ (by omega) (by omega) (by omega)) | omega) ?_ | exact gt_nw (by assumption) | refine gt_odr (by first | assumption | (apply Ne.symm; assumption) | omega) ?_)
      · first | rfl | assumption
      refine Ev.isub dX3_weighRest_169 ?_
      refine Ev.abs dX3_weighRest_170 lX3_63 rfl rfl ?_
      refine Ev.icmp_gt (tgt := 187) dX3_weighRest_173 (by decide) (fun c173 => ?_) (fun c173 => ?_)
      · refine Ev.vret dX3_weighRest_187 rfl ?_
        refine ⟨rfl, ?_⟩
        first | (rw [wr3_t (Or.inl c148), up_up, up_up]; rfl) | (rw [wr3_f (fun q => q.elim c148 (fun q => absurd q (Int32.not_le.mpr c173)))]) | (rw [wr3_t (Or.inr (Int32.not_lt.mp c173)), up_up, up_up]; rfl)
      · refine Ev.ald0 dX3_weighRest_176 ?_
        refine Ev.ild5 dX3_weighRest_177 ?_
        apply Ev.put dX3_weighRest_179 fX3_42
        · repeat (first | assumption | (refine gt_upI ?_; (repeat (first | refine In_up ?_ | refine In_nw ?_)); apply In_of; assumption) | refine gt_rd (by first | assumption | (apply Ne.symm; assumption) | (exact hj _ _ (by omega) (by omega) (by omega)) | omega) ?_ | exact gt_nw (by assumption) | refine gt_odr (by first | assumption | (apply Ne.symm; assumption) | omega) ?_)
        · rfl
        · rfl
        · rfl
        refine Ev.ald0 dX3_weighRest_182 ?_
        refine Ev.ild3 dX3_weighRest_183 ?_
        apply Ev.put dX3_weighRest_184 fX3_45
        · repeat (first | assumption | (refine gt_upI ?_; (repeat (first | refine In_up ?_ | refine In_nw ?_)); apply In_of; assumption) | refine gt_rd (by first | assumption | (apply Ne.symm; assumption) | (exact hj _ _ (by omega) (by omega) (by omega)) | omega) ?_ | exact gt_nw (by assumption) | refine gt_odr (by first | assumption | (apply Ne.symm; assumption) | omega) ?_)
        · rfl
        · rfl
        · rfl
        refine Ev.vret dX3_weighRest_187 rfl ?_
        refine ⟨rfl, ?_⟩
        first | (rw [wr3_t (Or.inl c148), up_up, up_up]; rfl) | (rw [wr3_f (fun q => q.elim c148 (fun q => absurd q (Int32.not_le.mpr c173)))]) | (rw [wr3_t (Or.inr (Int32.not_lt.mp c173)), up_up, up_up]; rfl)
  have J4 : ∀ (g2 : Nat → Int32) (v : Int32), v = (if g2 13 ≠ 0 ∧ z < 0 then 1 else 0) → Ev G mX3_weighRest 126 [some (.ref h), some (.int a), some (.int b), some (.int z), some (.int (ab z)), none] [.int v, .ref h] (up M h (cc g2)) 0 0 (fun u M' => u = none ∧ M' = up M h (cc (wr3 (upd g2 13 (if g2 13 ≠ 0 ∧ z < 0 then 1 else 0)) a b z))) := by
    intro g2 v hv
    rw [← hv]
    have hb : narrow .boolean (.int v) = .int v := by rw [hv]; split <;> rfl
    have hf : fits .boolean (.int v) = true := by rw [hv]; split <;> rfl
    apply Ev.put dX3_weighRest_126 fX3_52
    · repeat (first | assumption | (refine gt_upI ?_; (repeat (first | refine In_up ?_ | refine In_nw ?_)); apply In_of; assumption) | refine gt_rd (by first | assumption | (apply Ne.symm; assumption) | (exact hj _ _ (by omega) (by omega) (by omega)) | omega) ?_ | exact gt_nw (by assumption) | refine gt_odr (by first | assumption | (apply Ne.symm; assumption) | omega) ?_)
    · first | rfl | assumption
    · first | rfl | assumption
    · rfl
    rw [up_up]
    exact J3 (upd g2 13 v)
  have J5 : ∀ (g2 : Nat → Int32) (v : Int32), v = (if g2 12 ≠ 0 ∧ 0 < z then 1 else 0) → Ev G mX3_weighRest 106 [some (.ref h), some (.int a), some (.int b), some (.int z), some (.int (ab z)), none] [.int v, .ref h] (up M h (cc g2)) 0 0 (fun u M' => u = none ∧ M' = up M h (cc (wr3 (upd (upd g2 12 (if g2 12 ≠ 0 ∧ 0 < z then 1 else 0)) 13 (if g2 13 ≠ 0 ∧ z < 0 then 1 else 0)) a b z))) := by
    intro g2 v hv
    rw [← hv]
    have hb : narrow .boolean (.int v) = .int v := by rw [hv]; split <;> rfl
    have hf : fits .boolean (.int v) = true := by rw [hv]; split <;> rfl
    apply Ev.put dX3_weighRest_106 fX3_48
    · repeat (first | assumption | (refine gt_upI ?_; (repeat (first | refine In_up ?_ | refine In_nw ?_)); apply In_of; assumption) | refine gt_rd (by first | assumption | (apply Ne.symm; assumption) | (exact hj _ _ (by omega) (by omega) (by omega)) | omega) ?_ | exact gt_nw (by assumption) | refine gt_odr (by first | assumption | (apply Ne.symm; assumption) | omega) ?_)
    · first | rfl | assumption
    · first | rfl | assumption
    · rfl
    refine Ev.ald0 dX3_weighRest_109 ?_
    refine Ev.ald0 dX3_weighRest_110 ?_
    apply Ev.getf dX3_weighRest_111 fX3_52
    · repeat (first | assumption | (refine gt_upI ?_; (repeat (first | refine In_up ?_ | refine In_nw ?_)); apply In_of; assumption) | refine gt_rd (by first | assumption | (apply Ne.symm; assumption) | (exact hj _ _ (by omega) (by omega) (by omega)) | omega) ?_ | exact gt_nw (by assumption) | refine gt_odr (by first | assumption | (apply Ne.symm; assumption) | omega) ?_)
    · first | rfl | assumption
    refine Ev.if_eq (tgt := 125) dX3_weighRest_114 (by decide) (fun c114 => ?_) (fun c114 => ?_)
    · refine Ev.iconst (v := 0) dX3_weighRest_125 (by decide) ?_
      rw [up_up]
      first | exact J4 (upd g2 12 v) 0 (if01_a (fun q => q c114)) | exact J4 (upd g2 12 v) 0 (if01_b (Int32.not_lt.mpr c118)) | exact J4 (upd g2 12 v) 1 (if01_c c114 (Int32.not_le.mp c118))
    · refine Ev.ild3 dX3_weighRest_117 ?_
      refine Ev.if_ge (tgt := 125) dX3_weighRest_118 (by decide) (fun c118 => ?_) (fun c118 => ?_)
      · refine Ev.iconst (v := 0) dX3_weighRest_125 (by decide) ?_
        rw [up_up]
        first | exact J4 (upd g2 12 v) 0 (if01_a (fun q => q c114)) | exact J4 (upd g2 12 v) 0 (if01_b (Int32.not_lt.mpr c118)) | exact J4 (upd g2 12 v) 1 (if01_c c114 (Int32.not_le.mp c118))
      · refine Ev.iconst (v := 1) dX3_weighRest_121 (by decide) ?_
        refine Ev.goto (tgt := 126) dX3_weighRest_122 (by decide) ?_
        rw [up_up]
        first | exact J4 (upd g2 12 v) 0 (if01_a (fun q => q c114)) | exact J4 (upd g2 12 v) 0 (if01_b (Int32.not_lt.mpr c118)) | exact J4 (upd g2 12 v) 1 (if01_c c114 (Int32.not_le.mp c118))
  have J2 : ∀ g2 : Nat → Int32, Ev G mX3_weighRest 70 [some (.ref h), some (.int a), some (.int b), some (.int z), some (.int (ab z)), none] [] (up M h (cc g2)) 0 0 (fun v M' => v = none ∧ M' = up M h (cc (wr3 (wr2 g2 a b z) a b z))) := by
    intro g2
    refine Ev.ald0 dX3_weighRest_70 ?_
    refine Ev.dup dX3_weighRest_71 rfl ?_
    apply Ev.getf dX3_weighRest_72 fX3_30
    · repeat (first | assumption | (refine gt_upI ?_; (repeat (first | refine In_up ?_ | refine In_nw ?_)); apply In_of; assumption) | refine gt_rd (by first | assumption | (apply Ne.symm; assumption) | (exact hj _ _ (by omega) (by omega) (by omega)) | omega) ?_ | exact gt_nw (by assumption) | refine gt_odr (by first | assumption | (apply Ne.symm; assumption) | omega) ?_)
    · first | rfl | assumption
    refine Ev.ild2 dX3_weighRest_75 ?_
    refine Ev.ild1 dX3_weighRest_76 ?_
    refine Ev.isub dX3_weighRest_77 ?_
    refine Ev.iconst (v := 1) dX3_weighRest_78 (by decide) ?_
    refine Ev.iadd dX3_weighRest_79 ?_
    refine Ev.iadd dX3_weighRest_80 ?_
    apply Ev.put dX3_weighRest_81 fX3_30
    · repeat (first | assumption | (refine gt_upI ?_; (repeat (first | refine In_up ?_ | refine In_nw ?_)); apply In_of; assumption) | refine gt_rd (by first | assumption | (apply Ne.symm; assumption) | (exact hj _ _ (by omega) (by omega) (by omega)) | omega) ?_ | exact gt_nw (by assumption) | refine gt_odr (by first | assumption | (apply Ne.symm; assumption) | omega) ?_)
    · rfl
    · rfl
    · rfl
    refine Ev.ald0 dX3_weighRest_84 ?_
    refine Ev.ild2 dX3_weighRest_85 ?_
    apply Ev.put dX3_weighRest_86 fX3_39
    · repeat (first | assumption | (refine gt_upI ?_; (repeat (first | refine In_up ?_ | refine In_nw ?_)); apply In_of; assumption) | refine gt_rd (by first | assumption | (apply Ne.symm; assumption) | (exact hj _ _ (by omega) (by omega) (by omega)) | omega) ?_ | exact gt_nw (by assumption) | refine gt_odr (by first | assumption | (apply Ne.symm; assumption) | omega) ?_)
    · rfl
    · rfl
    · rfl
    refine Ev.ald0 dX3_weighRest_89 ?_
    refine Ev.ald0 dX3_weighRest_90 ?_
    apply Ev.getf dX3_weighRest_91 fX3_48
    · repeat (first | assumption | (refine gt_upI ?_; (repeat (first | refine In_up ?_ | refine In_nw ?_)); apply In_of; assumption) | refine gt_rd (by first | assumption | (apply Ne.symm; assumption) | (exact hj _ _ (by omega) (by omega) (by omega)) | omega) ?_ | exact gt_nw (by assumption) | refine gt_odr (by first | assumption | (apply Ne.symm; assumption) | omega) ?_)
    · first | rfl | assumption
    refine Ev.if_eq (tgt := 105) dX3_weighRest_94 (by decide) (fun c94 => ?_) (fun c94 => ?_)
    · refine Ev.iconst (v := 0) dX3_weighRest_105 (by decide) ?_
      rw [up_up, up_up]
      first | exact J5 (upd (upd g2 6 (g2 6 + (b - a + 1))) 9 b) 0 (if01_a (fun q => q c94)) | exact J5 (upd (upd g2 6 (g2 6 + (b - a + 1))) 9 b) 0 (if01_b (Int32.not_lt.mpr c98)) | exact J5 (upd (upd g2 6 (g2 6 + (b - a + 1))) 9 b) 1 (if01_c c94 (Int32.not_le.mp c98))
    · refine Ev.ild3 dX3_weighRest_97 ?_
      refine Ev.if_le (tgt := 105) dX3_weighRest_98 (by decide) (fun c98 => ?_) (fun c98 => ?_)
      · refine Ev.iconst (v := 0) dX3_weighRest_105 (by decide) ?_
        rw [up_up, up_up]
        first | exact J5 (upd (upd g2 6 (g2 6 + (b - a + 1))) 9 b) 0 (if01_a (fun q => q c94)) | exact J5 (upd (upd g2 6 (g2 6 + (b - a + 1))) 9 b) 0 (if01_b (Int32.not_lt.mpr c98)) | exact J5 (upd (upd g2 6 (g2 6 + (b - a + 1))) 9 b) 1 (if01_c c94 (Int32.not_le.mp c98))
      · refine Ev.iconst (v := 1) dX3_weighRest_101 (by decide) ?_
        refine Ev.goto (tgt := 106) dX3_weighRest_102 (by decide) ?_
        rw [up_up, up_up]
        first | exact J5 (upd (upd g2 6 (g2 6 + (b - a + 1))) 9 b) 0 (if01_a (fun q => q c94)) | exact J5 (upd (upd g2 6 (g2 6 + (b - a + 1))) 9 b) 0 (if01_b (Int32.not_lt.mpr c98)) | exact J5 (upd (upd g2 6 (g2 6 + (b - a + 1))) 9 b) 1 (if01_c c94 (Int32.not_le.mp c98))
  have J1 : ¬ (0 < g 6 ∧ g 7 < ab z) → Ev G mX3_weighRest 23 [some (.ref h), some (.int a), some (.int b), some (.int z), some (.int (ab z)), none] [] M 0 0 (fun v M' => v = none ∧ M' = up M h (cc (wrr g a b z))) := by
    intro hq
    rw [wrr_f hq]
    refine Ev.ald0 dX3_weighRest_23 ?_
    apply Ev.getf dX3_weighRest_24 fX3_30
    · repeat (first | assumption | (refine gt_upI ?_; (repeat (first | refine In_up ?_ | refine In_nw ?_)); apply In_of; assumption) | refine gt_rd (by first | assumption | (apply Ne.symm; assumption) | (exact hj _ _ (by omega) (by omega) (by omega)) | omega) ?_ | exact gt_nw (by assumption) | refine gt_odr (by first | assumption | (apply Ne.symm; assumption) | omega) ?_)
    · first | rfl | assumption
    refine Ev.if_eq (tgt := 39) dX3_weighRest_27 (by decide) (fun c27 => ?_) (fun c27 => ?_)
    · refine Ev.ald0 dX3_weighRest_39 ?_
      refine Ev.ild4 dX3_weighRest_40 ?_
      apply Ev.put dX3_weighRest_42 fX3_33
      · repeat (first | assumption | (refine gt_upI ?_; (repeat (first | refine In_up ?_ | refine In_nw ?_)); apply In_of; assumption) | refine gt_rd (by first | assumption | (apply Ne.symm; assumption) | (exact hj _ _ (by omega) (by omega) (by omega)) | omega) ?_ | exact gt_nw (by assumption) | refine gt_odr (by first | assumption | (apply Ne.symm; assumption) | omega) ?_)
      · rfl
      · rfl
      · rfl
      refine Ev.ald0 dX3_weighRest_45 ?_
      refine Ev.iconst (v := 0) dX3_weighRest_46 (by decide) ?_
      apply Ev.put dX3_weighRest_47 fX3_30
      · repeat (first | assumption | (refine gt_upI ?_; (repeat (first | refine In_up ?_ | refine In_nw ?_)); apply In_of; assumption) | refine gt_rd (by first | assumption | (apply Ne.symm; assumption) | (exact hj _ _ (by omega) (by omega) (by omega)) | omega) ?_ | exact gt_nw (by assumption) | refine gt_odr (by first | assumption | (apply Ne.symm; assumption) | omega) ?_)
      · rfl
      · rfl
      · rfl
      refine Ev.ald0 dX3_weighRest_50 ?_
      refine Ev.ild1 dX3_weighRest_51 ?_
      apply Ev.put dX3_weighRest_52 fX3_36
      · repeat (first | assumption | (refine gt_upI ?_; (repeat (first | refine In_up ?_ | refine In_nw ?_)); apply In_of; assumption) | refine gt_rd (by first | assumption | (apply Ne.symm; assumption) | (exact hj _ _ (by omega) (by omega) (by omega)) | omega) ?_ | exact gt_nw (by assumption) | refine gt_odr (by first | assumption | (apply Ne.symm; assumption) | omega) ?_)
      · rfl
      · rfl
      · rfl
      refine Ev.ald0 dX3_weighRest_55 ?_
      refine Ev.iconst (v := -1) dX3_weighRest_56 (by decide) ?_
      apply Ev.put dX3_weighRest_57 fX3_42
      · repeat (first | assumption | (refine gt_upI ?_; (repeat (first | refine In_up ?_ | refine In_nw ?_)); apply In_of; assumption) | refine gt_rd (by first | assumption | (apply Ne.symm; assumption) | (exact hj _ _ (by omega) (by omega) (by omega)) | omega) ?_ | exact gt_nw (by assumption) | refine gt_odr (by first | assumption | (apply Ne.symm; assumption) | omega) ?_)
      · rfl
      · rfl
      · rfl
      refine Ev.ald0 dX3_weighRest_60 ?_
      refine Ev.iconst (v := 1) dX3_weighRest_61 (by decide) ?_
      apply Ev.put dX3_weighRest_62 fX3_48
      · repeat (first | assumption | (refine gt_upI ?_; (repeat (first | refine In_up ?_ | refine In_nw ?_)); apply In_of; assumption) | refine gt_rd (by first | assumption | (apply Ne.symm; assumption) | (exact hj _ _ (by omega) (by omega) (by omega)) | omega) ?_ | exact gt_nw (by assumption) | refine gt_odr (by first | assumption | (apply Ne.symm; assumption) | omega) ?_)
      · first | rfl | assumption
      · first | rfl | assumption
      · rfl
      refine Ev.ald0 dX3_weighRest_65 ?_
      refine Ev.iconst (v := 1) dX3_weighRest_66 (by decide) ?_
      apply Ev.put dX3_weighRest_67 fX3_52
      · repeat (first | assumption | (refine gt_upI ?_; (repeat (first | refine In_up ?_ | refine In_nw ?_)); apply In_of; assumption) | refine gt_rd (by first | assumption | (apply Ne.symm; assumption) | (exact hj _ _ (by omega) (by omega) (by omega)) | omega) ?_ | exact gt_nw (by assumption) | refine gt_odr (by first | assumption | (apply Ne.symm; assumption) | omega) ?_)
      · first | rfl | assumption
      · first | rfl | assumption
      · rfl
      first | (rw [wr1_t (Or.inl c27), up_up, up_up, up_up, up_up, up_up]; exact J2 (upd (upd (upd (upd (upd (upd g 7 (ab z)) 6 0) 8 a) 10 (-1)) 12 1) 13 1)) | (rw [wr1_t (Or.inr (Int32.not_le.mp c36)), up_up, up_up, up_up, up_up, up_up]; exact J2 (upd (upd (upd (upd (upd (upd g 7 (ab z)) 6 0) 8 a) 10 (-1)) 12 1) 13 1)) | (rw [wr1_f (fun q => q.elim c27 (fun q => absurd q (Int32.not_lt.mpr c36)))]; exact Ev.cgM rfl (up_id hB).symm (J2 g))
    · refine Ev.ild4 dX3_weighRest_30 ?_
      refine Ev.ald0 dX3_weighRest_32 ?_
      apply Ev.getf dX3_weighRest_33 fX3_33
      · repeat (first | assumption | (refine gt_upI ?_; (repeat (first | refine In_up ?_ | refine In_nw ?_)); apply In_of; assumption) | refine gt_rd (by first | assumption | (apply Ne.symm; assumption) | (exact hj _ _ (by omega) (by omega) (by omega)) | omega) ?_ | exact gt_nw (by assumption) | refine gt_odr (by first | assumption | (apply Ne.symm; assumption) | omega) ?_)
      · first | rfl | assumption
      refine Ev.icmp_ge (tgt := 70) dX3_weighRest_36 (by decide) (fun c36 => ?_) (fun c36 => ?_)
      · first | (rw [wr1_t (Or.inl c27), up_up, up_up, up_up, up_up, up_up]; exact J2 (upd (upd (upd (upd (upd (upd g 7 (ab z)) 6 0) 8 a) 10 (-1)) 12 1) 13 1)) | (rw [wr1_t (Or.inr (Int32.not_le.mp c36)), up_up, up_up, up_up, up_up, up_up]; exact J2 (upd (upd (upd (upd (upd (upd g 7 (ab z)) 6 0) 8 a) 10 (-1)) 12 1) 13 1)) | (rw [wr1_f (fun q => q.elim c27 (fun q => absurd q (Int32.not_lt.mpr c36)))]; exact Ev.cgM rfl (up_id hB).symm (J2 g))
      · refine Ev.ald0 dX3_weighRest_39 ?_
        refine Ev.ild4 dX3_weighRest_40 ?_
        apply Ev.put dX3_weighRest_42 fX3_33
        · repeat (first | assumption | (refine gt_upI ?_; (repeat (first | refine In_up ?_ | refine In_nw ?_)); apply In_of; assumption) | refine gt_rd (by first | assumption | (apply Ne.symm; assumption) | (exact hj _ _ (by omega) (by omega) (by omega)) | omega) ?_ | exact gt_nw (by assumption) | refine gt_odr (by first | assumption | (apply Ne.symm; assumption) | omega) ?_)
        · rfl
        · rfl
        · rfl
        refine Ev.ald0 dX3_weighRest_45 ?_
        refine Ev.iconst (v := 0) dX3_weighRest_46 (by decide) ?_
        apply Ev.put dX3_weighRest_47 fX3_30
        · repeat (first | assumption | (refine gt_upI ?_; (repeat (first | refine In_up ?_ | refine In_nw ?_)); apply In_of; assumption) | refine gt_rd (by first | assumption | (apply Ne.symm; assumption) | (exact hj _ _ (by omega) (by omega) (by omega)) | omega) ?_ | exact gt_nw (by assumption) | refine gt_odr (by first | assumption | (apply Ne.symm; assumption) | omega) ?_)
        · rfl
        · rfl
        · rfl
        refine Ev.ald0 dX3_weighRest_50 ?_
        refine Ev.ild1 dX3_weighRest_51 ?_
        apply Ev.put dX3_weighRest_52 fX3_36
        · repeat (first | assumption | (refine gt_upI ?_; (repeat (first | refine In_up ?_ | refine In_nw ?_)); apply In_of; assumption) | refine gt_rd (by first | assumption | (apply Ne.symm; assumption) | (exact hj _ _ (by omega) (by omega) (by omega)) | omega) ?_ | exact gt_nw (by assumption) | refine gt_odr (by first | assumption | (apply Ne.symm; assumption) | omega) ?_)
        · rfl
        · rfl
        · rfl
        refine Ev.ald0 dX3_weighRest_55 ?_
        refine Ev.iconst (v := -1) dX3_weighRest_56 (by decide) ?_
        apply Ev.put dX3_weighRest_57 fX3_42
        · repeat (first | assumption | (refine gt_upI ?_; (repeat (first | refine In_up ?_ | refine In_nw ?_)); apply In_of; assumption) | refine gt_rd (by first | assumption | (apply Ne.symm; assumption) | (exact hj _ _ (by omega) (by omega) (by omega)) | omega) ?_ | exact gt_nw (by assumption) | refine gt_odr (by first | assumption | (apply Ne.symm; assumption) | omega) ?_)
        · rfl
        · rfl
        · rfl
        refine Ev.ald0 dX3_weighRest_60 ?_
        refine Ev.iconst (v := 1) dX3_weighRest_61 (by decide) ?_
        apply Ev.put dX3_weighRest_62 fX3_48
        · repeat (first | assumption | (refine gt_upI ?_; (repeat (first | refine In_up ?_ | refine In_nw ?_)); apply In_of; assumption) | refine gt_rd (by first | assumption | (apply Ne.symm; assumption) | (exact hj _ _ (by omega) (by omega) (by omega)) | omega) ?_ | exact gt_nw (by assumption) | refine gt_odr (by first | assumption | (apply Ne.symm; assumption) | omega) ?_)
        · first | rfl | assumption
        · first | rfl | assumption
        · rfl
        refine Ev.ald0 dX3_weighRest_65 ?_
        refine Ev.iconst (v := 1) dX3_weighRest_66 (by decide) ?_
        apply Ev.put dX3_weighRest_67 fX3_52
        · repeat (first | assumption | (refine gt_upI ?_; (repeat (first | refine In_up ?_ | refine In_nw ?_)); apply In_of; assumption) | refine gt_rd (by first | assumption | (apply Ne.symm; assumption) | (exact hj _ _ (by omega) (by omega) (by omega)) | omega) ?_ | exact gt_nw (by assumption) | refine gt_odr (by first | assumption | (apply Ne.symm; assumption) | omega) ?_)
        · first | rfl | assumption
        · first | rfl | assumption
        · rfl
        first | (rw [wr1_t (Or.inl c27), up_up, up_up, up_up, up_up, up_up]; exact J2 (upd (upd (upd (upd (upd (upd g 7 (ab z)) 6 0) 8 a) 10 (-1)) 12 1) 13 1)) | (rw [wr1_t (Or.inr (Int32.not_le.mp c36)), up_up, up_up, up_up, up_up, up_up]; exact J2 (upd (upd (upd (upd (upd (upd g 7 (ab z)) 6 0) 8 a) 10 (-1)) 12 1) 13 1)) | (rw [wr1_f (fun q => q.elim c27 (fun q => absurd q (Int32.not_lt.mpr c36)))]; exact Ev.cgM rfl (up_id hB).symm (J2 g))
  refine Ct.of (ls := [some (.ref h), some (.int a), some (.int b), some (.int z), none, none]) (by decide) (by decide) rfl rfl rfl ?_
  refine Ev.ild3 dX3_weighRest_0 ?_
  refine Ev.abs dX3_weighRest_1 lX3_63 rfl rfl ?_
  refine Ev.ist4 dX3_weighRest_4 rfl rfl ?_
  refine Ev.ald0 dX3_weighRest_6 ?_
  apply Ev.getf dX3_weighRest_7 fX3_30
  · repeat (first | assumption | (refine gt_upI ?_; (repeat (first | refine In_up ?_ | refine In_nw ?_)); apply In_of; assumption) | refine gt_rd (by first | assumption | (apply Ne.symm; assumption) | (exact hj _ _ (by omega) (by omega) (by omega)) | omega) ?_ | exact gt_nw (by assumption) | refine gt_odr (by first | assumption | (apply Ne.symm; assumption) | omega) ?_)
  · first | rfl | assumption
  refine Ev.if_le (tgt := 23) dX3_weighRest_10 (by decide) (fun c10 => ?_) (fun c10 => ?_)
  · first | exact J1 (fun q => absurd q.1 (Int32.not_lt.mpr c10)) | exact J1 (fun q => absurd q.2 (Int32.not_lt.mpr c19))
  · refine Ev.ild4 dX3_weighRest_13 ?_
    refine Ev.ald0 dX3_weighRest_15 ?_
    apply Ev.getf dX3_weighRest_16 fX3_33
    · repeat (first | assumption | (refine gt_upI ?_; (repeat (first | refine In_up ?_ | refine In_nw ?_)); apply In_of; assumption) | refine gt_rd (by first | assumption | (apply Ne.symm; assumption) | (exact hj _ _ (by omega) (by omega) (by omega)) | omega) ?_ | exact gt_nw (by assumption) | refine gt_odr (by first | assumption | (apply Ne.symm; assumption) | omega) ?_)
    · first | rfl | assumption
    refine Ev.icmp_le (tgt := 23) dX3_weighRest_19 (by decide) (fun c19 => ?_) (fun c19 => ?_)
    · first | exact J1 (fun q => absurd q.1 (Int32.not_lt.mpr c10)) | exact J1 (fun q => absurd q.2 (Int32.not_lt.mpr c19))
    · refine Ev.vret dX3_weighRest_22 rfl ?_
      exact ⟨rfl, by rw [wrr_t ⟨Int32.not_le.mp c10, Int32.not_le.mp c19⟩, up_id hB]⟩
set_option maxRecDepth 20000 in
theorem c_weigh {hb : Nat} {t : T4} {ov hp vo re a b : Int32} (hB : gt M h = some (cc g)) (hL : gt M hb = some (bl t ov hp vo re)) (e1 : h ≠ hb) : CtV G mX3_weigh [.ref h, .int a, .int b, .ref hb] M 0 0 (fun M' => M' = up M h (cc (wgh g a b vo re))) := by
  have J : ∀ g2 : Nat → Int32, Ev G mX3_weigh 46 [some (.ref h), some (.int a), some (.int b), some (.ref hb), some (.int vo)] [] (up M h (cc g2)) 0 0 (fun v M' => v = none ∧ M' = up M h (cc (wrr (upd g2 4 (g2 4 + (b - a + 1))) a b re))) := by
    intro g2
    refine Ev.ald0 dX3_weigh_46 ?_
    refine Ev.dup dX3_weigh_47 rfl ?_
    apply Ev.getf dX3_weigh_48 fX3_24
    · repeat (first | assumption | (refine gt_upI ?_; (repeat (first | refine In_up ?_ | refine In_nw ?_)); apply In_of; assumption) | refine gt_rd (by first | assumption | (apply Ne.symm; assumption) | (exact hj _ _ (by omega) (by omega) (by omega)) | omega) ?_ | exact gt_nw (by assumption) | refine gt_odr (by first | assumption | (apply Ne.symm; assumption) | omega) ?_)
    · first | rfl | assumption
    refine Ev.ild2 dX3_weigh_51 ?_
    refine Ev.ild1 dX3_weigh_52 ?_
    refine Ev.isub dX3_weigh_53 ?_
    refine Ev.iconst (v := 1) dX3_weigh_54 (by decide) ?_
    refine Ev.iadd dX3_weigh_55 ?_
    refine Ev.iadd dX3_weigh_56 ?_
    apply Ev.put dX3_weigh_57 fX3_24
    · repeat (first | assumption | (refine gt_upI ?_; (repeat (first | refine In_up ?_ | refine In_nw ?_)); apply In_of; assumption) | refine gt_rd (by first | assumption | (apply Ne.symm; assumption) | (exact hj _ _ (by omega) (by omega) (by omega)) | omega) ?_ | exact gt_nw (by assumption) | refine gt_odr (by first | assumption | (apply Ne.symm; assumption) | omega) ?_)
    · rfl
    · rfl
    · rfl
    refine Ev.ald0 dX3_weigh_60 ?_
    refine Ev.ild1 dX3_weigh_61 ?_
    refine Ev.ild2 dX3_weigh_62 ?_
    refine Ev.ald3 dX3_weigh_63 ?_
    apply Ev.getf dX3_weigh_64 fX3_58
    · repeat (first | assumption | (refine gt_upI ?_; (repeat (first | refine In_up ?_ | refine In_nw ?_)); apply In_of; assumption) | refine gt_rd (by first | assumption | (apply Ne.symm; assumption) | (exact hj _ _ (by omega) (by omega) (by omega)) | omega) ?_ | exact gt_nw (by assumption) | refine gt_odr (by first | assumption | (apply Ne.symm; assumption) | omega) ?_)
    · first | rfl | assumption
    refine Ev.cvV (Yc := mX3_weighRest) (ci := 3) dX3_weigh_67 lX3_59 vX3_weighRest rfl (c_weighRest (g := upd g2 4 (g2 4 + (b - a + 1))) (gt_up (gt_up hB))) ?_ rfl rfl rfl rfl ?_
    · apply Exists.intro; repeat (first | assumption | (refine gt_upI ?_; (repeat (first | refine In_up ?_ | refine In_nw ?_)); apply In_of; assumption) | refine gt_rd (by first | assumption | (apply Ne.symm; assumption) | (exact hj _ _ (by omega) (by omega) (by omega)) | omega) ?_ | exact gt_nw (by assumption) | refine gt_odr (by first | assumption | (apply Ne.symm; assumption) | omega) ?_)
    rintro M' rfl
    refine Ev.vret dX3_weigh_70 rfl ?_
    exact ⟨rfl, by rw [up_up, up_up]⟩
  refine Ct.of (ls := [some (.ref h), some (.int a), some (.int b), some (.ref hb), none]) (by decide) (by decide) rfl rfl rfl ?_
  refine Ev.ald3 dX3_weigh_0 ?_
  apply Ev.getf dX3_weigh_1 fX3_55
  · repeat (first | assumption | (refine gt_upI ?_; (repeat (first | refine In_up ?_ | refine In_nw ?_)); apply In_of; assumption) | refine gt_rd (by first | assumption | (apply Ne.symm; assumption) | (exact hj _ _ (by omega) (by omega) (by omega)) | omega) ?_ | exact gt_nw (by assumption) | refine gt_odr (by first | assumption | (apply Ne.symm; assumption) | omega) ?_)
  · first | rfl | assumption
  refine Ev.ist4 dX3_weigh_4 rfl rfl ?_
  refine Ev.ild4 dX3_weigh_6 ?_
  refine Ev.if_eq (tgt := 20) dX3_weigh_8 (by decide) (fun c8 => ?_) (fun c8 => ?_)
  · refine Ev.vret dX3_weigh_20 rfl ?_
    first | exact ⟨rfl, by rw [wgh_0 (Or.inl c8), up_id hB]⟩ | exact ⟨rfl, by rw [wgh_0 (Or.inr (Int32.not_le.mp c17)), up_id hB]⟩
  · refine Ev.ild4 dX3_weigh_11 ?_
    refine Ev.ald0 dX3_weigh_13 ?_
    apply Ev.getf dX3_weigh_14 fX3_15
    · repeat (first | assumption | (refine gt_upI ?_; (repeat (first | refine In_up ?_ | refine In_nw ?_)); apply In_of; assumption) | refine gt_rd (by first | assumption | (apply Ne.symm; assumption) | (exact hj _ _ (by omega) (by omega) (by omega)) | omega) ?_ | exact gt_nw (by assumption) | refine gt_odr (by first | assumption | (apply Ne.symm; assumption) | omega) ?_)
    · first | rfl | assumption
    refine Ev.icmp_ge (tgt := 21) dX3_weigh_17 (by decide) (fun c17 => ?_) (fun c17 => ?_)
    · refine Ev.ild4 dX3_weigh_21 ?_
      refine Ev.ald0 dX3_weigh_23 ?_
      apply Ev.getf dX3_weigh_24 fX3_15
      · repeat (first | assumption | (refine gt_upI ?_; (repeat (first | refine In_up ?_ | refine In_nw ?_)); apply In_of; assumption) | refine gt_rd (by first | assumption | (apply Ne.symm; assumption) | (exact hj _ _ (by omega) (by omega) (by omega)) | omega) ?_ | exact gt_nw (by assumption) | refine gt_odr (by first | assumption | (apply Ne.symm; assumption) | omega) ?_)
      · first | rfl | assumption
      refine Ev.icmp_le (tgt := 46) dX3_weigh_27 (by decide) (fun c27 => ?_) (fun c27 => ?_)
      · first | (rw [wgh_1 (fun q => q.elim c8 (fun q => absurd q (Int32.not_lt.mpr c17))) (Int32.not_le.mp c27), up_up, up_up]; exact J (upd (upd (upd g 1 vo) 4 0) 6 0)) | (rw [wgh_2 (fun q => q.elim c8 (fun q => absurd q (Int32.not_lt.mpr c17))) (Int32.not_lt.mpr c27)]; exact Ev.cgM rfl (up_id hB).symm (J g))
      · refine Ev.ald0 dX3_weigh_30 ?_
        refine Ev.ild4 dX3_weigh_31 ?_
        apply Ev.put dX3_weigh_33 fX3_15
        · repeat (first | assumption | (refine gt_upI ?_; (repeat (first | refine In_up ?_ | refine In_nw ?_)); apply In_of; assumption) | refine gt_rd (by first | assumption | (apply Ne.symm; assumption) | (exact hj _ _ (by omega) (by omega) (by omega)) | omega) ?_ | exact gt_nw (by assumption) | refine gt_odr (by first | assumption | (apply Ne.symm; assumption) | omega) ?_)
        · rfl
        · rfl
        · rfl
        refine Ev.ald0 dX3_weigh_36 ?_
        refine Ev.iconst (v := 0) dX3_weigh_37 (by decide) ?_
        apply Ev.put dX3_weigh_38 fX3_24
        · repeat (first | assumption | (refine gt_upI ?_; (repeat (first | refine In_up ?_ | refine In_nw ?_)); apply In_of; assumption) | refine gt_rd (by first | assumption | (apply Ne.symm; assumption) | (exact hj _ _ (by omega) (by omega) (by omega)) | omega) ?_ | exact gt_nw (by assumption) | refine gt_odr (by first | assumption | (apply Ne.symm; assumption) | omega) ?_)
        · rfl
        · rfl
        · rfl
        refine Ev.ald0 dX3_weigh_41 ?_
        refine Ev.iconst (v := 0) dX3_weigh_42 (by decide) ?_
        apply Ev.put dX3_weigh_43 fX3_30
        · repeat (first | assumption | (refine gt_upI ?_; (repeat (first | refine In_up ?_ | refine In_nw ?_)); apply In_of; assumption) | refine gt_rd (by first | assumption | (apply Ne.symm; assumption) | (exact hj _ _ (by omega) (by omega) (by omega)) | omega) ?_ | exact gt_nw (by assumption) | refine gt_odr (by first | assumption | (apply Ne.symm; assumption) | omega) ?_)
        · rfl
        · rfl
        · rfl
        first | (rw [wgh_1 (fun q => q.elim c8 (fun q => absurd q (Int32.not_lt.mpr c17))) (Int32.not_le.mp c27), up_up, up_up]; exact J (upd (upd (upd g 1 vo) 4 0) 6 0)) | (rw [wgh_2 (fun q => q.elim c8 (fun q => absurd q (Int32.not_lt.mpr c17))) (Int32.not_lt.mpr c27)]; exact Ev.cgM rfl (up_id hB).symm (J g))
    · refine Ev.vret dX3_weigh_20 rfl ?_
      first | exact ⟨rfl, by rw [wgh_0 (Or.inl c8), up_id hB]⟩ | exact ⟨rfl, by rw [wgh_0 (Or.inr (Int32.not_le.mp c17)), up_id hB]⟩
set_option maxRecDepth 20000 in
theorem c_decide (hB : gt M h = some (cc g)) : CtV G mX3_decide [.ref h] M 0 0 (fun M' => M' = up M h (cc (dcd g))) := by
  have J : ∀ (p q : Int32), g 1 ≠ 0 → p = (if g 6 = 1 ∨ ¬ (g 12 ≠ 0 ∨ g 13 ≠ 0) then g 10 else if g 12 ≠ 0 then g 9 else g 8) → q = (if g 6 = 1 ∨ ¬ (g 12 ≠ 0 ∨ g 13 ≠ 0) then g 11 else if g 12 ≠ 0 then g 7 else -g 7) → Ev G mX3_decide 109 [some (.ref h)] [] (up M h (cc (upd (upd g 0 p) 2 q))) 0 0 (fun v M' => v = none ∧ M' = up M h (cc (dcd g))) := by
    intro p q h1 hp hq
    rw [dcd_1 h1, ← hp, ← hq]
    refine Ev.ald0 dX3_decide_109 ?_
    refine Ev.ald0 dX3_decide_110 ?_
    apply Ev.getf dX3_decide_111 fX3_24
    · repeat (first | assumption | (refine gt_upI ?_; (repeat (first | refine In_up ?_ | refine In_nw ?_)); apply In_of; assumption) | refine gt_rd (by first | assumption | (apply Ne.symm; assumption) | (exact hj _ _ (by omega) (by omega) (by omega)) | omega) ?_ | exact gt_nw (by assumption) | refine gt_odr (by first | assumption | (apply Ne.symm; assumption) | omega) ?_)
    · first | rfl | assumption
    refine Ev.iconst (v := 1) dX3_decide_114 (by decide) ?_
    refine Ev.icmp_ne (tgt := 122) dX3_decide_115 (by decide) (fun c115 => ?_) (fun c115 => ?_)
    · refine Ev.ald0 dX3_decide_122 ?_
      apply Ev.getf dX3_decide_123 fX3_30
      · repeat (first | assumption | (refine gt_upI ?_; (repeat (first | refine In_up ?_ | refine In_nw ?_)); apply In_of; assumption) | refine gt_rd (by first | assumption | (apply Ne.symm; assumption) | (exact hj _ _ (by omega) (by omega) (by omega)) | omega) ?_ | exact gt_nw (by assumption) | refine gt_odr (by first | assumption | (apply Ne.symm; assumption) | omega) ?_)
      · first | rfl | assumption
      refine Ev.iconst (v := 1) dX3_decide_126 (by decide) ?_
      refine Ev.icmp_ne (tgt := 134) dX3_decide_127 (by decide) (fun c127 => ?_) (fun c127 => ?_)
      · refine Ev.ald0 dX3_decide_134 ?_
        apply Ev.getf dX3_decide_135 fX3_48
        · repeat (first | assumption | (refine gt_upI ?_; (repeat (first | refine In_up ?_ | refine In_nw ?_)); apply In_of; assumption) | refine gt_rd (by first | assumption | (apply Ne.symm; assumption) | (exact hj _ _ (by omega) (by omega) (by omega)) | omega) ?_ | exact gt_nw (by assumption) | refine gt_odr (by first | assumption | (apply Ne.symm; assumption) | omega) ?_)
        · first | rfl | assumption
        refine Ev.if_ne (tgt := 148) dX3_decide_138 (by decide) (fun c138 => ?_) (fun c138 => ?_)
        · refine Ev.iconst (v := 2) dX3_decide_148 (by decide) ?_
          refine Ev.goto (tgt := 153) dX3_decide_149 (by decide) ?_
          apply Ev.put dX3_decide_153 fX3_21
          · repeat (first | assumption | (refine gt_upI ?_; (repeat (first | refine In_up ?_ | refine In_nw ?_)); apply In_of; assumption) | refine gt_rd (by first | assumption | (apply Ne.symm; assumption) | (exact hj _ _ (by omega) (by omega) (by omega)) | omega) ?_ | exact gt_nw (by assumption) | refine gt_odr (by first | assumption | (apply Ne.symm; assumption) | omega) ?_)
          · rfl
          · rfl
          · rfl
          refine Ev.vret dX3_decide_156 rfl ?_
          refine ⟨rfl, ?_⟩
          rw [up_up]
          first | (rw [show (if g 4 = 1 then (0 : Int32) else if g 6 = 1 then 1 else if g 12 ≠ 0 ∨ g 13 ≠ 0 then 2 else 3) = 0 from if_pos c115]; rfl) | (rw [show (if g 4 = 1 then (0 : Int32) else if g 6 = 1 then 1 else if g 12 ≠ 0 ∨ g 13 ≠ 0 then 2 else 3) = 1 from (if_neg c115).trans (if_pos c127)]; rfl) | (rw [show (if g 4 = 1 then (0 : Int32) else if g 6 = 1 then 1 else if g 12 ≠ 0 ∨ g 13 ≠ 0 then 2 else 3) = 2 from (if_neg c115).trans ((if_neg c127).trans (if_pos (Or.inl c138)))]; rfl) | (rw [show (if g 4 = 1 then (0 : Int32) else if g 6 = 1 then 1 else if g 12 ≠ 0 ∨ g 13 ≠ 0 then 2 else 3) = 2 from (if_neg c115).trans ((if_neg c127).trans (if_pos (Or.inr c145)))]; rfl) | (rw [show (if g 4 = 1 then (0 : Int32) else if g 6 = 1 then 1 else if g 12 ≠ 0 ∨ g 13 ≠ 0 then 2 else 3) = 3 from (if_neg c115).trans ((if_neg c127).trans (if_neg (fun q => q.elim (fun q => q c138) (fun q => q c145))))]; rfl)
        · refine Ev.ald0 dX3_decide_141 ?_
          apply Ev.getf dX3_decide_142 fX3_52
          · repeat (first | assumption | (refine gt_upI ?_; (repeat (first | refine In_up ?_ | refine In_nw ?_)); apply In_of; assumption) | refine gt_rd (by first | assumption | (apply Ne.symm; assumption) | (exact hj _ _ (by omega) (by omega) (by omega)) | omega) ?_ | exact gt_nw (by assumption) | refine gt_odr (by first | assumption | (apply Ne.symm; assumption) | omega) ?_)
          · first | rfl | assumption
          refine Ev.if_eq (tgt := 152) dX3_decide_145 (by decide) (fun c145 => ?_) (fun c145 => ?_)
          · refine Ev.iconst (v := 3) dX3_decide_152 (by decide) ?_
            apply Ev.put dX3_decide_153 fX3_21
            · repeat (first | assumption | (refine gt_upI ?_; (repeat (first | refine In_up ?_ | refine In_nw ?_)); apply In_of; assumption) | refine gt_rd (by first | assumption | (apply Ne.symm; assumption) | (exact hj _ _ (by omega) (by omega) (by omega)) | omega) ?_ | exact gt_nw (by assumption) | refine gt_odr (by first | assumption | (apply Ne.symm; assumption) | omega) ?_)
            · rfl
            · rfl
            · rfl
            refine Ev.vret dX3_decide_156 rfl ?_
            refine ⟨rfl, ?_⟩
            rw [up_up]
            first | (rw [show (if g 4 = 1 then (0 : Int32) else if g 6 = 1 then 1 else if g 12 ≠ 0 ∨ g 13 ≠ 0 then 2 else 3) = 0 from if_pos c115]; rfl) | (rw [show (if g 4 = 1 then (0 : Int32) else if g 6 = 1 then 1 else if g 12 ≠ 0 ∨ g 13 ≠ 0 then 2 else 3) = 1 from (if_neg c115).trans (if_pos c127)]; rfl) | (rw [show (if g 4 = 1 then (0 : Int32) else if g 6 = 1 then 1 else if g 12 ≠ 0 ∨ g 13 ≠ 0 then 2 else 3) = 2 from (if_neg c115).trans ((if_neg c127).trans (if_pos (Or.inl c138)))]; rfl) | (rw [show (if g 4 = 1 then (0 : Int32) else if g 6 = 1 then 1 else if g 12 ≠ 0 ∨ g 13 ≠ 0 then 2 else 3) = 2 from (if_neg c115).trans ((if_neg c127).trans (if_pos (Or.inr c145)))]; rfl) | (rw [show (if g 4 = 1 then (0 : Int32) else if g 6 = 1 then 1 else if g 12 ≠ 0 ∨ g 13 ≠ 0 then 2 else 3) = 3 from (if_neg c115).trans ((if_neg c127).trans (if_neg (fun q => q.elim (fun q => q c138) (fun q => q c145))))]; rfl)
          · refine Ev.iconst (v := 2) dX3_decide_148 (by decide) ?_
            refine Ev.goto (tgt := 153) dX3_decide_149 (by decide) ?_
            apply Ev.put dX3_decide_153 fX3_21
            · repeat (first | assumption | (refine gt_upI ?_; (repeat (first | refine In_up ?_ | refine In_nw ?_)); apply In_of; assumption) | refine gt_rd (by first | assumption | (apply Ne.symm; assumption) | (exact hj _ _ (by omega) (by omega) (by omega)) | omega) ?_ | exact gt_nw (by assumption) | refine gt_odr (by first | assumption | (apply Ne.symm; assumption) | omega) ?_)
            · rfl
            · rfl
            · rfl
            refine Ev.vret dX3_decide_156 rfl ?_
            refine ⟨rfl, ?_⟩
            rw [up_up]
            first | (rw [show (if g 4 = 1 then (0 : Int32) else if g 6 = 1 then 1 else if g 12 ≠ 0 ∨ g 13 ≠ 0 then 2 else 3) = 0 from if_pos c115]; rfl) | (rw [show (if g 4 = 1 then (0 : Int32) else if g 6 = 1 then 1 else if g 12 ≠ 0 ∨ g 13 ≠ 0 then 2 else 3) = 1 from (if_neg c115).trans (if_pos c127)]; rfl) | (rw [show (if g 4 = 1 then (0 : Int32) else if g 6 = 1 then 1 else if g 12 ≠ 0 ∨ g 13 ≠ 0 then 2 else 3) = 2 from (if_neg c115).trans ((if_neg c127).trans (if_pos (Or.inl c138)))]; rfl) | (rw [show (if g 4 = 1 then (0 : Int32) else if g 6 = 1 then 1 else if g 12 ≠ 0 ∨ g 13 ≠ 0 then 2 else 3) = 2 from (if_neg c115).trans ((if_neg c127).trans (if_pos (Or.inr c145)))]; rfl) | (rw [show (if g 4 = 1 then (0 : Int32) else if g 6 = 1 then 1 else if g 12 ≠ 0 ∨ g 13 ≠ 0 then 2 else 3) = 3 from (if_neg c115).trans ((if_neg c127).trans (if_neg (fun q => q.elim (fun q => q c138) (fun q => q c145))))]; rfl)
      · refine Ev.iconst (v := 1) dX3_decide_130 (by decide) ?_
        refine Ev.goto (tgt := 153) dX3_decide_131 (by decide) ?_
        apply Ev.put dX3_decide_153 fX3_21
        · repeat (first | assumption | (refine gt_upI ?_; (repeat (first | refine In_up ?_ | refine In_nw ?_)); apply In_of; assumption) | refine gt_rd (by first | assumption | (apply Ne.symm; assumption) | (exact hj _ _ (by omega) (by omega) (by omega)) | omega) ?_ | exact gt_nw (by assumption) | refine gt_odr (by first | assumption | (apply Ne.symm; assumption) | omega) ?_)
        · rfl
        · rfl
        · rfl
        refine Ev.vret dX3_decide_156 rfl ?_
        refine ⟨rfl, ?_⟩
        rw [up_up]
        first | (rw [show (if g 4 = 1 then (0 : Int32) else if g 6 = 1 then 1 else if g 12 ≠ 0 ∨ g 13 ≠ 0 then 2 else 3) = 0 from if_pos c115]; rfl) | (rw [show (if g 4 = 1 then (0 : Int32) else if g 6 = 1 then 1 else if g 12 ≠ 0 ∨ g 13 ≠ 0 then 2 else 3) = 1 from (if_neg c115).trans (if_pos c127)]; rfl) | (rw [show (if g 4 = 1 then (0 : Int32) else if g 6 = 1 then 1 else if g 12 ≠ 0 ∨ g 13 ≠ 0 then 2 else 3) = 2 from (if_neg c115).trans ((if_neg c127).trans (if_pos (Or.inl c138)))]; rfl) | (rw [show (if g 4 = 1 then (0 : Int32) else if g 6 = 1 then 1 else if g 12 ≠ 0 ∨ g 13 ≠ 0 then 2 else 3) = 2 from (if_neg c115).trans ((if_neg c127).trans (if_pos (Or.inr c145)))]; rfl) | (rw [show (if g 4 = 1 then (0 : Int32) else if g 6 = 1 then 1 else if g 12 ≠ 0 ∨ g 13 ≠ 0 then 2 else 3) = 3 from (if_neg c115).trans ((if_neg c127).trans (if_neg (fun q => q.elim (fun q => q c138) (fun q => q c145))))]; rfl)
    · refine Ev.iconst (v := 0) dX3_decide_118 (by decide) ?_
      refine Ev.goto (tgt := 153) dX3_decide_119 (by decide) ?_
      apply Ev.put dX3_decide_153 fX3_21
      · repeat (first | assumption | (refine gt_upI ?_; (repeat (first | refine In_up ?_ | refine In_nw ?_)); apply In_of; assumption) | refine gt_rd (by first | assumption | (apply Ne.symm; assumption) | (exact hj _ _ (by omega) (by omega) (by omega)) | omega) ?_ | exact gt_nw (by assumption) | refine gt_odr (by first | assumption | (apply Ne.symm; assumption) | omega) ?_)
      · rfl
      · rfl
      · rfl
      refine Ev.vret dX3_decide_156 rfl ?_
      refine ⟨rfl, ?_⟩
      rw [up_up]
      first | (rw [show (if g 4 = 1 then (0 : Int32) else if g 6 = 1 then 1 else if g 12 ≠ 0 ∨ g 13 ≠ 0 then 2 else 3) = 0 from if_pos c115]; rfl) | (rw [show (if g 4 = 1 then (0 : Int32) else if g 6 = 1 then 1 else if g 12 ≠ 0 ∨ g 13 ≠ 0 then 2 else 3) = 1 from (if_neg c115).trans (if_pos c127)]; rfl) | (rw [show (if g 4 = 1 then (0 : Int32) else if g 6 = 1 then 1 else if g 12 ≠ 0 ∨ g 13 ≠ 0 then 2 else 3) = 2 from (if_neg c115).trans ((if_neg c127).trans (if_pos (Or.inl c138)))]; rfl) | (rw [show (if g 4 = 1 then (0 : Int32) else if g 6 = 1 then 1 else if g 12 ≠ 0 ∨ g 13 ≠ 0 then 2 else 3) = 2 from (if_neg c115).trans ((if_neg c127).trans (if_pos (Or.inr c145)))]; rfl) | (rw [show (if g 4 = 1 then (0 : Int32) else if g 6 = 1 then 1 else if g 12 ≠ 0 ∨ g 13 ≠ 0 then 2 else 3) = 3 from (if_neg c115).trans ((if_neg c127).trans (if_neg (fun q => q.elim (fun q => q c138) (fun q => q c145))))]; rfl)
  refine Ct.of (ls := [some (.ref h)]) (by decide) (by decide) rfl rfl rfl ?_
  refine Ev.ald0 dX3_decide_0 ?_
  apply Ev.getf dX3_decide_1 fX3_15
  · repeat (first | assumption | (refine gt_upI ?_; (repeat (first | refine In_up ?_ | refine In_nw ?_)); apply In_of; assumption) | refine gt_rd (by first | assumption | (apply Ne.symm; assumption) | (exact hj _ _ (by omega) (by omega) (by omega)) | omega) ?_ | exact gt_nw (by assumption) | refine gt_odr (by first | assumption | (apply Ne.symm; assumption) | omega) ?_)
  · first | rfl | assumption
  refine Ev.if_ne (tgt := 23) dX3_decide_4 (by decide) (fun c4 => ?_) (fun c4 => ?_)
  · refine Ev.ald0 dX3_decide_23 ?_
    apply Ev.getf dX3_decide_24 fX3_30
    · repeat (first | assumption | (refine gt_upI ?_; (repeat (first | refine In_up ?_ | refine In_nw ?_)); apply In_of; assumption) | refine gt_rd (by first | assumption | (apply Ne.symm; assumption) | (exact hj _ _ (by omega) (by omega) (by omega)) | omega) ?_ | exact gt_nw (by assumption) | refine gt_odr (by first | assumption | (apply Ne.symm; assumption) | omega) ?_)
    · first | rfl | assumption
    refine Ev.iconst (v := 1) dX3_decide_27 (by decide) ?_
    refine Ev.icmp_eq (tgt := 45) dX3_decide_28 (by decide) (fun c28 => ?_) (fun c28 => ?_)
    · refine Ev.ald0 dX3_decide_45 ?_
      refine Ev.ald0 dX3_decide_46 ?_
      apply Ev.getf dX3_decide_47 fX3_42
      · repeat (first | assumption | (refine gt_upI ?_; (repeat (first | refine In_up ?_ | refine In_nw ?_)); apply In_of; assumption) | refine gt_rd (by first | assumption | (apply Ne.symm; assumption) | (exact hj _ _ (by omega) (by omega) (by omega)) | omega) ?_ | exact gt_nw (by assumption) | refine gt_odr (by first | assumption | (apply Ne.symm; assumption) | omega) ?_)
      · first | rfl | assumption
      apply Ev.put dX3_decide_50 fX3_9
      · repeat (first | assumption | (refine gt_upI ?_; (repeat (first | refine In_up ?_ | refine In_nw ?_)); apply In_of; assumption) | refine gt_rd (by first | assumption | (apply Ne.symm; assumption) | (exact hj _ _ (by omega) (by omega) (by omega)) | omega) ?_ | exact gt_nw (by assumption) | refine gt_odr (by first | assumption | (apply Ne.symm; assumption) | omega) ?_)
      · rfl
      · rfl
      · rfl
      refine Ev.ald0 dX3_decide_53 ?_
      refine Ev.ald0 dX3_decide_54 ?_
      apply Ev.getf dX3_decide_55 fX3_45
      · repeat (first | assumption | (refine gt_upI ?_; (repeat (first | refine In_up ?_ | refine In_nw ?_)); apply In_of; assumption) | refine gt_rd (by first | assumption | (apply Ne.symm; assumption) | (exact hj _ _ (by omega) (by omega) (by omega)) | omega) ?_ | exact gt_nw (by assumption) | refine gt_odr (by first | assumption | (apply Ne.symm; assumption) | omega) ?_)
      · first | rfl | assumption
      apply Ev.put dX3_decide_58 fX3_18
      · repeat (first | assumption | (refine gt_upI ?_; (repeat (first | refine In_up ?_ | refine In_nw ?_)); apply In_of; assumption) | refine gt_rd (by first | assumption | (apply Ne.symm; assumption) | (exact hj _ _ (by omega) (by omega) (by omega)) | omega) ?_ | exact gt_nw (by assumption) | refine gt_odr (by first | assumption | (apply Ne.symm; assumption) | omega) ?_)
      · rfl
      · rfl
      · rfl
      refine Ev.goto (tgt := 109) dX3_decide_61 (by decide) ?_
      rw [up_up]
      exact J _ _ c4 (by grind) (by grind)
    · refine Ev.ald0 dX3_decide_31 ?_
      apply Ev.getf dX3_decide_32 fX3_48
      · repeat (first | assumption | (refine gt_upI ?_; (repeat (first | refine In_up ?_ | refine In_nw ?_)); apply In_of; assumption) | refine gt_rd (by first | assumption | (apply Ne.symm; assumption) | (exact hj _ _ (by omega) (by omega) (by omega)) | omega) ?_ | exact gt_nw (by assumption) | refine gt_odr (by first | assumption | (apply Ne.symm; assumption) | omega) ?_)
      · first | rfl | assumption
      refine Ev.if_ne (tgt := 64) dX3_decide_35 (by decide) (fun c35 => ?_) (fun c35 => ?_)
      · refine Ev.ald0 dX3_decide_64 ?_
        refine Ev.ald0 dX3_decide_65 ?_
        apply Ev.getf dX3_decide_66 fX3_48
        · repeat (first | assumption | (refine gt_upI ?_; (repeat (first | refine In_up ?_ | refine In_nw ?_)); apply In_of; assumption) | refine gt_rd (by first | assumption | (apply Ne.symm; assumption) | (exact hj _ _ (by omega) (by omega) (by omega)) | omega) ?_ | exact gt_nw (by assumption) | refine gt_odr (by first | assumption | (apply Ne.symm; assumption) | omega) ?_)
        · first | rfl | assumption
        refine Ev.if_eq (tgt := 79) dX3_decide_69 (by decide) (fun c69 => ?_) (fun c69 => ?_)
        · refine Ev.ald0 dX3_decide_79 ?_
          apply Ev.getf dX3_decide_80 fX3_36
          · repeat (first | assumption | (refine gt_upI ?_; (repeat (first | refine In_up ?_ | refine In_nw ?_)); apply In_of; assumption) | refine gt_rd (by first | assumption | (apply Ne.symm; assumption) | (exact hj _ _ (by omega) (by omega) (by omega)) | omega) ?_ | exact gt_nw (by assumption) | refine gt_odr (by first | assumption | (apply Ne.symm; assumption) | omega) ?_)
          · first | rfl | assumption
          apply Ev.put dX3_decide_83 fX3_9
          · repeat (first | assumption | (refine gt_upI ?_; (repeat (first | refine In_up ?_ | refine In_nw ?_)); apply In_of; assumption) | refine gt_rd (by first | assumption | (apply Ne.symm; assumption) | (exact hj _ _ (by omega) (by omega) (by omega)) | omega) ?_ | exact gt_nw (by assumption) | refine gt_odr (by first | assumption | (apply Ne.symm; assumption) | omega) ?_)
          · rfl
          · rfl
          · rfl
          refine Ev.ald0 dX3_decide_86 ?_
          refine Ev.ald0 dX3_decide_87 ?_
          apply Ev.getf dX3_decide_88 fX3_48
          · repeat (first | assumption | (refine gt_upI ?_; (repeat (first | refine In_up ?_ | refine In_nw ?_)); apply In_of; assumption) | refine gt_rd (by first | assumption | (apply Ne.symm; assumption) | (exact hj _ _ (by omega) (by omega) (by omega)) | omega) ?_ | exact gt_nw (by assumption) | refine gt_odr (by first | assumption | (apply Ne.symm; assumption) | omega) ?_)
          · first | rfl | assumption
          refine Ev.if_eq (tgt := 101) dX3_decide_91 (by decide) (fun c91 => ?_) (fun c91 => ?_)
          · refine Ev.ald0 dX3_decide_101 ?_
            apply Ev.getf dX3_decide_102 fX3_33
            · repeat (first | assumption | (refine gt_upI ?_; (repeat (first | refine In_up ?_ | refine In_nw ?_)); apply In_of; assumption) | refine gt_rd (by first | assumption | (apply Ne.symm; assumption) | (exact hj _ _ (by omega) (by omega) (by omega)) | omega) ?_ | exact gt_nw (by assumption) | refine gt_odr (by first | assumption | (apply Ne.symm; assumption) | omega) ?_)
            · first | rfl | assumption
            refine Ev.ineg dX3_decide_105 ?_
            apply Ev.put dX3_decide_106 fX3_18
            · repeat (first | assumption | (refine gt_upI ?_; (repeat (first | refine In_up ?_ | refine In_nw ?_)); apply In_of; assumption) | refine gt_rd (by first | assumption | (apply Ne.symm; assumption) | (exact hj _ _ (by omega) (by omega) (by omega)) | omega) ?_ | exact gt_nw (by assumption) | refine gt_odr (by first | assumption | (apply Ne.symm; assumption) | omega) ?_)
            · rfl
            · rfl
            · rfl
            rw [up_up]
            exact J _ _ c4 (by grind) (by grind)
          · refine Ev.ald0 dX3_decide_94 ?_
            apply Ev.getf dX3_decide_95 fX3_33
            · repeat (first | assumption | (refine gt_upI ?_; (repeat (first | refine In_up ?_ | refine In_nw ?_)); apply In_of; assumption) | refine gt_rd (by first | assumption | (apply Ne.symm; assumption) | (exact hj _ _ (by omega) (by omega) (by omega)) | omega) ?_ | exact gt_nw (by assumption) | refine gt_odr (by first | assumption | (apply Ne.symm; assumption) | omega) ?_)
            · first | rfl | assumption
            refine Ev.goto (tgt := 106) dX3_decide_98 (by decide) ?_
            apply Ev.put dX3_decide_106 fX3_18
            · repeat (first | assumption | (refine gt_upI ?_; (repeat (first | refine In_up ?_ | refine In_nw ?_)); apply In_of; assumption) | refine gt_rd (by first | assumption | (apply Ne.symm; assumption) | (exact hj _ _ (by omega) (by omega) (by omega)) | omega) ?_ | exact gt_nw (by assumption) | refine gt_odr (by first | assumption | (apply Ne.symm; assumption) | omega) ?_)
            · rfl
            · rfl
            · rfl
            rw [up_up]
            exact J _ _ c4 (by grind) (by grind)
        · refine Ev.ald0 dX3_decide_72 ?_
          apply Ev.getf dX3_decide_73 fX3_39
          · repeat (first | assumption | (refine gt_upI ?_; (repeat (first | refine In_up ?_ | refine In_nw ?_)); apply In_of; assumption) | refine gt_rd (by first | assumption | (apply Ne.symm; assumption) | (exact hj _ _ (by omega) (by omega) (by omega)) | omega) ?_ | exact gt_nw (by assumption) | refine gt_odr (by first | assumption | (apply Ne.symm; assumption) | omega) ?_)
          · first | rfl | assumption
          refine Ev.goto (tgt := 83) dX3_decide_76 (by decide) ?_
          apply Ev.put dX3_decide_83 fX3_9
          · repeat (first | assumption | (refine gt_upI ?_; (repeat (first | refine In_up ?_ | refine In_nw ?_)); apply In_of; assumption) | refine gt_rd (by first | assumption | (apply Ne.symm; assumption) | (exact hj _ _ (by omega) (by omega) (by omega)) | omega) ?_ | exact gt_nw (by assumption) | refine gt_odr (by first | assumption | (apply Ne.symm; assumption) | omega) ?_)
          · rfl
          · rfl
          · rfl
          refine Ev.ald0 dX3_decide_86 ?_
          refine Ev.ald0 dX3_decide_87 ?_
          apply Ev.getf dX3_decide_88 fX3_48
          · repeat (first | assumption | (refine gt_upI ?_; (repeat (first | refine In_up ?_ | refine In_nw ?_)); apply In_of; assumption) | refine gt_rd (by first | assumption | (apply Ne.symm; assumption) | (exact hj _ _ (by omega) (by omega) (by omega)) | omega) ?_ | exact gt_nw (by assumption) | refine gt_odr (by first | assumption | (apply Ne.symm; assumption) | omega) ?_)
          · first | rfl | assumption
          refine Ev.if_eq (tgt := 101) dX3_decide_91 (by decide) (fun c91 => ?_) (fun c91 => ?_)
          · refine Ev.ald0 dX3_decide_101 ?_
            apply Ev.getf dX3_decide_102 fX3_33
            · repeat (first | assumption | (refine gt_upI ?_; (repeat (first | refine In_up ?_ | refine In_nw ?_)); apply In_of; assumption) | refine gt_rd (by first | assumption | (apply Ne.symm; assumption) | (exact hj _ _ (by omega) (by omega) (by omega)) | omega) ?_ | exact gt_nw (by assumption) | refine gt_odr (by first | assumption | (apply Ne.symm; assumption) | omega) ?_)
            · first | rfl | assumption
            refine Ev.ineg dX3_decide_105 ?_
            apply Ev.put dX3_decide_106 fX3_18
            · repeat (first | assumption | (refine gt_upI ?_; (repeat (first | refine In_up ?_ | refine In_nw ?_)); apply In_of; assumption) | refine gt_rd (by first | assumption | (apply Ne.symm; assumption) | (exact hj _ _ (by omega) (by omega) (by omega)) | omega) ?_ | exact gt_nw (by assumption) | refine gt_odr (by first | assumption | (apply Ne.symm; assumption) | omega) ?_)
            · rfl
            · rfl
            · rfl
            rw [up_up]
            exact J _ _ c4 (by grind) (by grind)
          · refine Ev.ald0 dX3_decide_94 ?_
            apply Ev.getf dX3_decide_95 fX3_33
            · repeat (first | assumption | (refine gt_upI ?_; (repeat (first | refine In_up ?_ | refine In_nw ?_)); apply In_of; assumption) | refine gt_rd (by first | assumption | (apply Ne.symm; assumption) | (exact hj _ _ (by omega) (by omega) (by omega)) | omega) ?_ | exact gt_nw (by assumption) | refine gt_odr (by first | assumption | (apply Ne.symm; assumption) | omega) ?_)
            · first | rfl | assumption
            refine Ev.goto (tgt := 106) dX3_decide_98 (by decide) ?_
            apply Ev.put dX3_decide_106 fX3_18
            · repeat (first | assumption | (refine gt_upI ?_; (repeat (first | refine In_up ?_ | refine In_nw ?_)); apply In_of; assumption) | refine gt_rd (by first | assumption | (apply Ne.symm; assumption) | (exact hj _ _ (by omega) (by omega) (by omega)) | omega) ?_ | exact gt_nw (by assumption) | refine gt_odr (by first | assumption | (apply Ne.symm; assumption) | omega) ?_)
            · rfl
            · rfl
            · rfl
            rw [up_up]
            exact J _ _ c4 (by grind) (by grind)
      · refine Ev.ald0 dX3_decide_38 ?_
        apply Ev.getf dX3_decide_39 fX3_52
        · repeat (first | assumption | (refine gt_upI ?_; (repeat (first | refine In_up ?_ | refine In_nw ?_)); apply In_of; assumption) | refine gt_rd (by first | assumption | (apply Ne.symm; assumption) | (exact hj _ _ (by omega) (by omega) (by omega)) | omega) ?_ | exact gt_nw (by assumption) | refine gt_odr (by first | assumption | (apply Ne.symm; assumption) | omega) ?_)
        · first | rfl | assumption
        refine Ev.if_ne (tgt := 64) dX3_decide_42 (by decide) (fun c42 => ?_) (fun c42 => ?_)
        · refine Ev.ald0 dX3_decide_64 ?_
          refine Ev.ald0 dX3_decide_65 ?_
          apply Ev.getf dX3_decide_66 fX3_48
          · repeat (first | assumption | (refine gt_upI ?_; (repeat (first | refine In_up ?_ | refine In_nw ?_)); apply In_of; assumption) | refine gt_rd (by first | assumption | (apply Ne.symm; assumption) | (exact hj _ _ (by omega) (by omega) (by omega)) | omega) ?_ | exact gt_nw (by assumption) | refine gt_odr (by first | assumption | (apply Ne.symm; assumption) | omega) ?_)
          · first | rfl | assumption
          refine Ev.if_eq (tgt := 79) dX3_decide_69 (by decide) (fun c69 => ?_) (fun c69 => ?_)
          · refine Ev.ald0 dX3_decide_79 ?_
            apply Ev.getf dX3_decide_80 fX3_36
            · repeat (first | assumption | (refine gt_upI ?_; (repeat (first | refine In_up ?_ | refine In_nw ?_)); apply In_of; assumption) | refine gt_rd (by first | assumption | (apply Ne.symm; assumption) | (exact hj _ _ (by omega) (by omega) (by omega)) | omega) ?_ | exact gt_nw (by assumption) | refine gt_odr (by first | assumption | (apply Ne.symm; assumption) | omega) ?_)
            · first | rfl | assumption
            apply Ev.put dX3_decide_83 fX3_9
            · repeat (first | assumption | (refine gt_upI ?_; (repeat (first | refine In_up ?_ | refine In_nw ?_)); apply In_of; assumption) | refine gt_rd (by first | assumption | (apply Ne.symm; assumption) | (exact hj _ _ (by omega) (by omega) (by omega)) | omega) ?_ | exact gt_nw (by assumption) | refine gt_odr (by first | assumption | (apply Ne.symm; assumption) | omega) ?_)
            · rfl
            · rfl
            · rfl
            refine Ev.ald0 dX3_decide_86 ?_
            refine Ev.ald0 dX3_decide_87 ?_
            apply Ev.getf dX3_decide_88 fX3_48
            · repeat (first | assumption | (refine gt_upI ?_; (repeat (first | refine In_up ?_ | refine In_nw ?_)); apply In_of; assumption) | refine gt_rd (by first | assumption | (apply Ne.symm; assumption) | (exact hj _ _ (by omega) (by omega) (by omega)) | omega) ?_ | exact gt_nw (by assumption) | refine gt_odr (by first | assumption | (apply Ne.symm; assumption) | omega) ?_)
            · first | rfl | assumption
            refine Ev.if_eq (tgt := 101) dX3_decide_91 (by decide) (fun c91 => ?_) (fun c91 => ?_)
            · refine Ev.ald0 dX3_decide_101 ?_
              apply Ev.getf dX3_decide_102 fX3_33
              · repeat (first | assumption | (refine gt_upI ?_; (repeat (first | refine In_up ?_ | refine In_nw ?_)); apply In_of; assumption) | refine gt_rd (by first | assumption | (apply Ne.symm; assumption) | (exact hj _ _ (by omega) (by omega) (by omega)) | omega) ?_ | exact gt_nw (by assumption) | refine gt_odr (by first | assumption | (apply Ne.symm; assumption) | omega) ?_)
              · first | rfl | assumption
              refine Ev.ineg dX3_decide_105 ?_
              apply Ev.put dX3_decide_106 fX3_18
              · repeat (first | assumption | (refine gt_upI ?_; (repeat (first | refine In_up ?_ | refine In_nw ?_)); apply In_of; assumption) | refine gt_rd (by first | assumption | (apply Ne.symm; assumption) | (exact hj _ _ (by omega) (by omega) (by omega)) | omega) ?_ | exact gt_nw (by assumption) | refine gt_odr (by first | assumption | (apply Ne.symm; assumption) | omega) ?_)
              · rfl
              · rfl
              · rfl
              rw [up_up]
              exact J _ _ c4 (by grind) (by grind)
            · refine Ev.ald0 dX3_decide_94 ?_
              apply Ev.getf dX3_decide_95 fX3_33
              · repeat (first | assumption | (refine gt_upI ?_; (repeat (first | refine In_up ?_ | refine In_nw ?_)); apply In_of; assumption) | refine gt_rd (by first | assumption | (apply Ne.symm; assumption) | (exact hj _ _ (by omega) (by omega) (by omega)) | omega) ?_ | exact gt_nw (by assumption) | refine gt_odr (by first | assumption | (apply Ne.symm; assumption) | omega) ?_)
              · first | rfl | assumption
              refine Ev.goto (tgt := 106) dX3_decide_98 (by decide) ?_
              apply Ev.put dX3_decide_106 fX3_18
              · repeat (first | assumption | (refine gt_upI ?_; (repeat (first | refine In_up ?_ | refine In_nw ?_)); apply In_of; assumption) | refine gt_rd (by first | assumption | (apply Ne.symm; assumption) | (exact hj _ _ (by omega) (by omega) (by omega)) | omega) ?_ | exact gt_nw (by assumption) | refine gt_odr (by first | assumption | (apply Ne.symm; assumption) | omega) ?_)
              · rfl
              · rfl
              · rfl
              rw [up_up]
              exact J _ _ c4 (by grind) (by grind)
          · refine Ev.ald0 dX3_decide_72 ?_
            apply Ev.getf dX3_decide_73 fX3_39
            · repeat (first | assumption | (refine gt_upI ?_; (repeat (first | refine In_up ?_ | refine In_nw ?_)); apply In_of; assumption) | refine gt_rd (by first | assumption | (apply Ne.symm; assumption) | (exact hj _ _ (by omega) (by omega) (by omega)) | omega) ?_ | exact gt_nw (by assumption) | refine gt_odr (by first | assumption | (apply Ne.symm; assumption) | omega) ?_)
            · first | rfl | assumption
            refine Ev.goto (tgt := 83) dX3_decide_76 (by decide) ?_
            apply Ev.put dX3_decide_83 fX3_9
            · repeat (first | assumption | (refine gt_upI ?_; (repeat (first | refine In_up ?_ | refine In_nw ?_)); apply In_of; assumption) | refine gt_rd (by first | assumption | (apply Ne.symm; assumption) | (exact hj _ _ (by omega) (by omega) (by omega)) | omega) ?_ | exact gt_nw (by assumption) | refine gt_odr (by first | assumption | (apply Ne.symm; assumption) | omega) ?_)
            · rfl
            · rfl
            · rfl
            refine Ev.ald0 dX3_decide_86 ?_
            refine Ev.ald0 dX3_decide_87 ?_
            apply Ev.getf dX3_decide_88 fX3_48
            · repeat (first | assumption | (refine gt_upI ?_; (repeat (first | refine In_up ?_ | refine In_nw ?_)); apply In_of; assumption) | refine gt_rd (by first | assumption | (apply Ne.symm; assumption) | (exact hj _ _ (by omega) (by omega) (by omega)) | omega) ?_ | exact gt_nw (by assumption) | refine gt_odr (by first | assumption | (apply Ne.symm; assumption) | omega) ?_)
            · first | rfl | assumption
            refine Ev.if_eq (tgt := 101) dX3_decide_91 (by decide) (fun c91 => ?_) (fun c91 => ?_)
            · refine Ev.ald0 dX3_decide_101 ?_
              apply Ev.getf dX3_decide_102 fX3_33
              · repeat (first | assumption | (refine gt_upI ?_; (repeat (first | refine In_up ?_ | refine In_nw ?_)); apply In_of; assumption) | refine gt_rd (by first | assumption | (apply Ne.symm; assumption) | (exact hj _ _ (by omega) (by omega) (by omega)) | omega) ?_ | exact gt_nw (by assumption) | refine gt_odr (by first | assumption | (apply Ne.symm; assumption) | omega) ?_)
              · first | rfl | assumption
              refine Ev.ineg dX3_decide_105 ?_
              apply Ev.put dX3_decide_106 fX3_18
              · repeat (first | assumption | (refine gt_upI ?_; (repeat (first | refine In_up ?_ | refine In_nw ?_)); apply In_of; assumption) | refine gt_rd (by first | assumption | (apply Ne.symm; assumption) | (exact hj _ _ (by omega) (by omega) (by omega)) | omega) ?_ | exact gt_nw (by assumption) | refine gt_odr (by first | assumption | (apply Ne.symm; assumption) | omega) ?_)
              · rfl
              · rfl
              · rfl
              rw [up_up]
              exact J _ _ c4 (by grind) (by grind)
            · refine Ev.ald0 dX3_decide_94 ?_
              apply Ev.getf dX3_decide_95 fX3_33
              · repeat (first | assumption | (refine gt_upI ?_; (repeat (first | refine In_up ?_ | refine In_nw ?_)); apply In_of; assumption) | refine gt_rd (by first | assumption | (apply Ne.symm; assumption) | (exact hj _ _ (by omega) (by omega) (by omega)) | omega) ?_ | exact gt_nw (by assumption) | refine gt_odr (by first | assumption | (apply Ne.symm; assumption) | omega) ?_)
              · first | rfl | assumption
              refine Ev.goto (tgt := 106) dX3_decide_98 (by decide) ?_
              apply Ev.put dX3_decide_106 fX3_18
              · repeat (first | assumption | (refine gt_upI ?_; (repeat (first | refine In_up ?_ | refine In_nw ?_)); apply In_of; assumption) | refine gt_rd (by first | assumption | (apply Ne.symm; assumption) | (exact hj _ _ (by omega) (by omega) (by omega)) | omega) ?_ | exact gt_nw (by assumption) | refine gt_odr (by first | assumption | (apply Ne.symm; assumption) | omega) ?_)
              · rfl
              · rfl
              · rfl
              rw [up_up]
              exact J _ _ c4 (by grind) (by grind)
        · refine Ev.ald0 dX3_decide_45 ?_
          refine Ev.ald0 dX3_decide_46 ?_
          apply Ev.getf dX3_decide_47 fX3_42
          · repeat (first | assumption | (refine gt_upI ?_; (repeat (first | refine In_up ?_ | refine In_nw ?_)); apply In_of; assumption) | refine gt_rd (by first | assumption | (apply Ne.symm; assumption) | (exact hj _ _ (by omega) (by omega) (by omega)) | omega) ?_ | exact gt_nw (by assumption) | refine gt_odr (by first | assumption | (apply Ne.symm; assumption) | omega) ?_)
          · first | rfl | assumption
          apply Ev.put dX3_decide_50 fX3_9
          · repeat (first | assumption | (refine gt_upI ?_; (repeat (first | refine In_up ?_ | refine In_nw ?_)); apply In_of; assumption) | refine gt_rd (by first | assumption | (apply Ne.symm; assumption) | (exact hj _ _ (by omega) (by omega) (by omega)) | omega) ?_ | exact gt_nw (by assumption) | refine gt_odr (by first | assumption | (apply Ne.symm; assumption) | omega) ?_)
          · rfl
          · rfl
          · rfl
          refine Ev.ald0 dX3_decide_53 ?_
          refine Ev.ald0 dX3_decide_54 ?_
          apply Ev.getf dX3_decide_55 fX3_45
          · repeat (first | assumption | (refine gt_upI ?_; (repeat (first | refine In_up ?_ | refine In_nw ?_)); apply In_of; assumption) | refine gt_rd (by first | assumption | (apply Ne.symm; assumption) | (exact hj _ _ (by omega) (by omega) (by omega)) | omega) ?_ | exact gt_nw (by assumption) | refine gt_odr (by first | assumption | (apply Ne.symm; assumption) | omega) ?_)
          · first | rfl | assumption
          apply Ev.put dX3_decide_58 fX3_18
          · repeat (first | assumption | (refine gt_upI ?_; (repeat (first | refine In_up ?_ | refine In_nw ?_)); apply In_of; assumption) | refine gt_rd (by first | assumption | (apply Ne.symm; assumption) | (exact hj _ _ (by omega) (by omega) (by omega)) | omega) ?_ | exact gt_nw (by assumption) | refine gt_odr (by first | assumption | (apply Ne.symm; assumption) | omega) ?_)
          · rfl
          · rfl
          · rfl
          refine Ev.goto (tgt := 109) dX3_decide_61 (by decide) ?_
          rw [up_up]
          exact J _ _ c4 (by grind) (by grind)
  · refine Ev.ald0 dX3_decide_7 ?_
    refine Ev.iconst (v := -1) dX3_decide_8 (by decide) ?_
    apply Ev.put dX3_decide_9 fX3_9
    · repeat (first | assumption | (refine gt_upI ?_; (repeat (first | refine In_up ?_ | refine In_nw ?_)); apply In_of; assumption) | refine gt_rd (by first | assumption | (apply Ne.symm; assumption) | (exact hj _ _ (by omega) (by omega) (by omega)) | omega) ?_ | exact gt_nw (by assumption) | refine gt_odr (by first | assumption | (apply Ne.symm; assumption) | omega) ?_)
    · rfl
    · rfl
    · rfl
    refine Ev.ald0 dX3_decide_12 ?_
    refine Ev.iconst (v := 0) dX3_decide_13 (by decide) ?_
    apply Ev.put dX3_decide_14 fX3_18
    · repeat (first | assumption | (refine gt_upI ?_; (repeat (first | refine In_up ?_ | refine In_nw ?_)); apply In_of; assumption) | refine gt_rd (by first | assumption | (apply Ne.symm; assumption) | (exact hj _ _ (by omega) (by omega) (by omega)) | omega) ?_ | exact gt_nw (by assumption) | refine gt_odr (by first | assumption | (apply Ne.symm; assumption) | omega) ?_)
    · rfl
    · rfl
    · rfl
    refine Ev.ald0 dX3_decide_17 ?_
    refine Ev.iconst (v := 0) dX3_decide_18 (by decide) ?_
    apply Ev.put dX3_decide_19 fX3_21
    · repeat (first | assumption | (refine gt_upI ?_; (repeat (first | refine In_up ?_ | refine In_nw ?_)); apply In_of; assumption) | refine gt_rd (by first | assumption | (apply Ne.symm; assumption) | (exact hj _ _ (by omega) (by omega) (by omega)) | omega) ?_ | exact gt_nw (by assumption) | refine gt_odr (by first | assumption | (apply Ne.symm; assumption) | omega) ?_)
    · rfl
    · rfl
    · rfl
    refine Ev.vret dX3_decide_22 rfl ?_
    exact ⟨rfl, by rw [up_up, up_up, dcd_0 c4]; rfl⟩
end CHO
