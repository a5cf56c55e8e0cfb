/-! calls that make cells -/
section TKC0
variable {G : GP} {Y Yc : MI} {pc : Nat} {ls : List (Option Value)} {st rest : List Value} {M : Wd} {kr nr n i a ci mc ms : Nat} {Q : Option Value → Wd → Prop} {As fs : List Value}
theorem Ev.csLn {P : Int64 → Wd → Prop} (hd : Dc Y pc (.invokestatic i) 3) (hl : Cond.methodLink Y.1.cls i Yc.1 ∈ GW) (hm : MS Yc n) (hr : rmok Yc Y = true) (hc : CtL G Yc As M mc ms P) (hn : As.length = n) (hst : st = As.reverse ++ rest) (hw : Nat.ble (rest.map fun v => v.category).sum 8 = true) (h3 : mc ≤ kr) (h4 : ms ≤ nr)
    (k : ∀ (x : Int64) (M' : Wd), P x M' → Ev G Y (pc + 3) ls (.long x :: rest) M' (kr - mc) (nr - ms) Q) : Ev G Y pc ls st M kr nr Q :=
  Ev.cs hd hl hm hr hc hn hst hw h3 h4 (fun v M' h => by obtain ⟨x, rfl, h⟩ := h; exact k x M' h)
theorem Ev.cvIn {P : Int32 → Wd → Prop} (hd : Dc Y pc (.invokevirtual i) 3) (hl : Cond.methodLink Y.1.cls i Yc.1 ∈ GW) (hm : MV Yc n) (hr : rmok Yc Y = true) (hc : CtI G Yc (.ref a :: As) M mc ms P) (hM : ∃ fs, gt M a = some (ob ci fs)) (hci : vwCl[ci]?.map (·.1) = some Yc.1.cls) (hn : As.length = n) (hst : st = As.reverse ++ .ref a :: rest) (hw : Nat.ble (rest.map fun v => v.category).sum 8 = true) (h3 : mc ≤ kr) (h4 : ms ≤ nr)
    (k : ∀ (x : Int32) (M' : Wd), P x M' → Ev G Y (pc + 3) ls (.int x :: rest) M' (kr - mc) (nr - ms) Q) : Ev G Y pc ls st M kr nr Q := by
  obtain ⟨fs, hM⟩ := hM
  exact Ev.cv hd hl hm hr hM hci hc hn hst hw h3 h4 (fun v M' h => by obtain ⟨x, rfl, h⟩ := h; exact k x M' h)
theorem Ev.wd {kr' nr' : Nat} (k : Ev G Y pc ls st M kr nr Q) (h1 : kr ≤ kr') (h2 : nr ≤ nr') : Ev G Y pc ls st M kr' nr' Q := by
  intro p e R s m args below meth c Z C hR arr H locs cells slots hl hP hS h3 h4
  exact k p e R s m args below meth c Z C hR arr H locs cells slots hl hP hS (by omega) (by omega)
end TKC0
theorem Fw.dr {M M1 : Wd} {q : Nat} (h : Fw [q] M M1) (hq : gt M q = none) : Fw [] M M1 := fun b _ e he => h b (fun z => by
  rw [List.mem_singleton.mp z, hq] at he
  cases he) e he
theorem MZ.fw {a : Nat → Nat} {M0 M M' : Wd} {v : Nat → Int32} {L : Int64} {X : Nat → Nat → Int32} (h : MZ a M0 v L X M) (hF : Fw [] M M') : MZ a M0 v L X M' := ⟨h.1, ⟨hF _ (by simp) _ h.2.1.1, fun q hq => hF _ (by simp) _ (h.2.1.2 q hq)⟩, fun b hb e he => hF b (by simp) e (h.2.2 b hb e he)⟩
def spr (f : Nat → Int32) : Nat → Int64
  | 0 => 0
  | k + 1 => if 0 < f k then 27 * spr f k + (f k).toInt64 - 96 else spr f k
def ro6 (x0 x1 x2 x3 x4 x5 : Int32) : Nat → Int32 := upd (upd (upd (upd (upd (upd (fun _ => 0) 0 x0) 1 x1) 2 x2) 3 x3) 4 x4) 5 x5
section TKC
variable {G : GP} {a : Nat → Nat} {M0 M : Wd} {v : Nat → Int32} {L : Int64} {X : Nat → Nat → Int32} {c : Nat → Nat} {n p : Nat} {W : List Nat}
set_option maxRecDepth 20000 in
theorem m_spelt {x0 x1 x2 x3 x4 x5 : Int32} (hw : spr (ro6 x0 x1 x2 x3 x4 x5) 6 = nL (wv W)) : CtL G mX6_spelt [.int x0, .int x1, .int x2, .int x3, .int x4, .int x5] M 1 6 (fun x M' => x = nL (wv W) ∧ Fw [] M M') := by
  refine Ct.of (ls := [some (.int x0), some (.int x1), some (.int x2), some (.int x3), some (.int x4), some (.int x5), none, none, none, none]) (by decide) (by decide) rfl rfl rfl ?_
  refine Ev.lconst (v := 0) dX6_spelt_0 (by decide) ?_
  refine Ev.lst6 dX6_spelt_1 rfl rfl ?_
  refine Ev.bipush (v := 6) dX6_spelt_3 (by decide) ?_
  refine Ev.newi (N := 6) dX6_spelt_5 ac_int (by decide) (by decide) rfl (fun q5 hq5 => ?_)
  refine Ev.dup dX6_spelt_7 rfl ?_
  refine Ev.iconst (v := 0) dX6_spelt_8 (by decide) ?_
  refine Ev.ild0 dX6_spelt_9 ?_
  apply Ev.iast dX6_spelt_10
  · repeat (first | assumption | (refine gt_upI ?_; (repeat (first | exact In_of (gt_nw (by assumption)) | (apply In_of; assumption) | refine In_up ?_ | refine In_nw ?_)); done) | refine gt_rd (by first | assumption | (apply Ne.symm; assumption) | (exact hj _ _ (by omega) (by omega) (by omega)) | omega) ?_ | exact gt_nw (by assumption) | refine gt_odr (by first | assumption | (apply Ne.symm; assumption) | omega) ?_)
  · exact (lit_in 0 6 (by omega) (by omega)).1
  refine Ev.dup dX6_spelt_11 rfl ?_
  refine Ev.iconst (v := 1) dX6_spelt_12 (by decide) ?_
  refine Ev.ild1 dX6_spelt_13 ?_
  apply Ev.iast dX6_spelt_14
  · repeat (first | assumption | (refine gt_upI ?_; (repeat (first | exact In_of (gt_nw (by assumption)) | (apply In_of; assumption) | refine In_up ?_ | refine In_nw ?_)); done) | refine gt_rd (by first | assumption | (apply Ne.symm; assumption) | (exact hj _ _ (by omega) (by omega) (by omega)) | omega) ?_ | exact gt_nw (by assumption) | refine gt_odr (by first | assumption | (apply Ne.symm; assumption) | omega) ?_)
  · exact (lit_in 1 6 (by omega) (by omega)).1
  refine Ev.dup dX6_spelt_15 rfl ?_
  refine Ev.iconst (v := 2) dX6_spelt_16 (by decide) ?_
  refine Ev.ild2 dX6_spelt_17 ?_
  apply Ev.iast dX6_spelt_18
  · repeat (first | assumption | (refine gt_upI ?_; (repeat (first | exact In_of (gt_nw (by assumption)) | (apply In_of; assumption) | refine In_up ?_ | refine In_nw ?_)); done) | refine gt_rd (by first | assumption | (apply Ne.symm; assumption) | (exact hj _ _ (by omega) (by omega) (by omega)) | omega) ?_ | exact gt_nw (by assumption) | refine gt_odr (by first | assumption | (apply Ne.symm; assumption) | omega) ?_)
  · exact (lit_in 2 6 (by omega) (by omega)).1
  refine Ev.dup dX6_spelt_19 rfl ?_
  refine Ev.iconst (v := 3) dX6_spelt_20 (by decide) ?_
  refine Ev.ild3 dX6_spelt_21 ?_
  apply Ev.iast dX6_spelt_22
  · repeat (first | assumption | (refine gt_upI ?_; (repeat (first | exact In_of (gt_nw (by assumption)) | (apply In_of; assumption) | refine In_up ?_ | refine In_nw ?_)); done) | refine gt_rd (by first | assumption | (apply Ne.symm; assumption) | (exact hj _ _ (by omega) (by omega) (by omega)) | omega) ?_ | exact gt_nw (by assumption) | refine gt_odr (by first | assumption | (apply Ne.symm; assumption) | omega) ?_)
  · exact (lit_in 3 6 (by omega) (by omega)).1
  refine Ev.dup dX6_spelt_23 rfl ?_
  refine Ev.iconst (v := 4) dX6_spelt_24 (by decide) ?_
  refine Ev.ild4 dX6_spelt_25 ?_
  apply Ev.iast dX6_spelt_27
  · repeat (first | assumption | (refine gt_upI ?_; (repeat (first | exact In_of (gt_nw (by assumption)) | (apply In_of; assumption) | refine In_up ?_ | refine In_nw ?_)); done) | refine gt_rd (by first | assumption | (apply Ne.symm; assumption) | (exact hj _ _ (by omega) (by omega) (by omega)) | omega) ?_ | exact gt_nw (by assumption) | refine gt_odr (by first | assumption | (apply Ne.symm; assumption) | omega) ?_)
  · exact (lit_in 4 6 (by omega) (by omega)).1
  refine Ev.dup dX6_spelt_28 rfl ?_
  refine Ev.iconst (v := 5) dX6_spelt_29 (by decide) ?_
  refine Ev.ild5 dX6_spelt_30 ?_
  apply Ev.iast dX6_spelt_32
  · repeat (first | assumption | (refine gt_upI ?_; (repeat (first | exact In_of (gt_nw (by assumption)) | (apply In_of; assumption) | refine In_up ?_ | refine In_nw ?_)); done) | refine gt_rd (by first | assumption | (apply Ne.symm; assumption) | (exact hj _ _ (by omega) (by omega) (by omega)) | omega) ?_ | exact gt_nw (by assumption) | refine gt_odr (by first | assumption | (apply Ne.symm; assumption) | omega) ?_)
  · exact (lit_in 5 6 (by omega) (by omega)).1
  refine Ev.ast8 dX6_spelt_33 rfl rfl ?_
  refine Ev.iconst (v := 0) dX6_spelt_35 (by decide) ?_
  refine Ev.ist9 dX6_spelt_36 rfl rfl ?_
  rw [up_up, up_up, up_up, up_up, up_up]
  change Ev G mX6_spelt 38 _ _ (up (M ++ [(q5, ia 0 6 (fun _ => 0))]) q5 (ia 0 6 (ro6 x0 x1 x2 x3 x4 x5))) 0 0 _
  have hF : Fw [] M (up (M ++ [(q5, ia 0 6 (fun _ => 0))]) q5 (ia 0 6 (ro6 x0 x1 x2 x3 x4 x5))) := ((Fw.rf.nw hq5).pt (List.mem_singleton.mpr rfl)).dr hq5
  have hg : gt (up (M ++ [(q5, ia 0 6 (fun _ => 0))]) q5 (ia 0 6 (ro6 x0 x1 x2 x3 x4 x5))) q5 = some (ia 0 6 (ro6 x0 x1 x2 x3 x4 x5)) := gt_upI (In_of (gt_nw hq5))
  generalize up (M ++ [(q5, ia 0 6 (fun _ => 0))]) q5 (ia 0 6 (ro6 x0 x1 x2 x3 x4 x5)) = M1 at hF hg
  have KL : Ev G mX6_spelt 38 [some (.int x0), some (.int x1), some (.int x2), some (.int x3), some (.int x4), some (.int x5), some (.long (spr (ro6 x0 x1 x2 x3 x4 x5) 0)), none, some (.ref q5), some (.int (nI 0))] [] M1 0 0 (fun u M' => ∃ x, u = some (.long x) ∧ x = nL (wv W) ∧ Fw [] M M') := by
    refine ev_ind 6 (fun t => Ev G mX6_spelt 38 [some (.int x0), some (.int x1), some (.int x2), some (.int x3), some (.int x4), some (.int x5), some (.long (spr (ro6 x0 x1 x2 x3 x4 x5) t)), none, some (.ref q5), some (.int (nI t))] [] M1 0 0 (fun u M' => ∃ x, u = some (.long x) ∧ x = nL (wv W) ∧ Fw [] M M')) ?_ ?_
    · refine Ev.ild9 dX6_spelt_38 ?_
      refine Ev.bipush (v := 6) dX6_spelt_40 (by decide) ?_
      refine Ev.icmp_ge (tgt := 83) dX6_spelt_42 (by decide) (fun _ => ?_) (fun c9 => absurd (Int32.le_refl _) c9)
      refine Ev.lld6 dX6_spelt_83 ?_
      refine Ev.lret dX6_spelt_85 rfl ?_
      exact ⟨_, rfl, hw, hF⟩
    · intro t ht ih
      have hi := lit_in t 6 ht (by omega)
      rw [spr] at ih
      refine Ev.ild9 dX6_spelt_38 ?_
      refine Ev.bipush (v := 6) dX6_spelt_40 (by decide) ?_
      refine Ev.icmp_ge (tgt := 83) dX6_spelt_42 (by decide) (fun c9 => absurd c9 (nI_ge (b := 6) ht (by decide))) (fun _ => ?_)
      refine Ev.ald8 dX6_spelt_45 ?_
      refine Ev.ild9 dX6_spelt_47 ?_
      apply Ev.iald dX6_spelt_49
      · repeat (first | assumption | (refine gt_upI ?_; (repeat (first | exact In_of (gt_nw (by assumption)) | (apply In_of; assumption) | refine In_up ?_ | refine In_nw ?_)); done) | refine gt_rd (by first | assumption | (apply Ne.symm; assumption) | (exact hj _ _ (by omega) (by omega) (by omega)) | omega) ?_ | exact gt_nw (by assumption) | refine gt_odr (by first | assumption | (apply Ne.symm; assumption) | omega) ?_)
      · exact hi.1
      rw [hi.2]
      refine Ev.if_le (tgt := 73) dX6_spelt_50 (by decide) (fun c50 => ?_) (fun c50 => ?_)
      · rw [if_neg (Int32.not_lt.mpr c50)] at ih
        refine Ev.lld6 dX6_spelt_73 ?_
        refine Ev.lst6 dX6_spelt_75 rfl rfl ?_
        apply Ev.iinc9 dX6_spelt_77 rfl rfl
        · first | exact nI_inc _ | rfl
        refine Ev.goto (tgt := 38) dX6_spelt_80 (by decide) ?_
        exact ih
      · rw [if_pos (Int32.not_le.mp c50)] at ih
        refine Ev.ldc2 dX6_spelt_53 kX6_122 ?_
        refine Ev.lld6 dX6_spelt_56 ?_
        refine Ev.lmul dX6_spelt_58 ?_
        refine Ev.ald8 dX6_spelt_59 ?_
        refine Ev.ild9 dX6_spelt_61 ?_
        apply Ev.iald dX6_spelt_63
        · repeat (first | assumption | (refine gt_upI ?_; (repeat (first | exact In_of (gt_nw (by assumption)) | (apply In_of; assumption) | refine In_up ?_ | refine In_nw ?_)); done) | refine gt_rd (by first | assumption | (apply Ne.symm; assumption) | (exact hj _ _ (by omega) (by omega) (by omega)) | omega) ?_ | exact gt_nw (by assumption) | refine gt_odr (by first | assumption | (apply Ne.symm; assumption) | omega) ?_)
        · exact hi.1
        rw [hi.2]
        refine Ev.i2l dX6_spelt_64 ?_
        refine Ev.ladd dX6_spelt_65 ?_
        refine Ev.ldc2 dX6_spelt_66 kX6_124 ?_
        refine Ev.lsub dX6_spelt_69 ?_
        refine Ev.goto (tgt := 75) dX6_spelt_70 (by decide) ?_
        refine Ev.lst6 dX6_spelt_75 rfl rfl ?_
        apply Ev.iinc9 dX6_spelt_77 rfl rfl
        · first | exact nI_inc _ | rfl
        refine Ev.goto (tgt := 38) dX6_spelt_80 (by decide) ?_
        exact ih
  exact KL
theorem lcmp_i {x y : Int64} : lg_cmp x y = 0 ↔ x = y := by
  rw [lg_cmp]
  by_cases h1 : x = y
  · subst h1
    rw [if_neg (fun z => Int64.lt_irrefl z), if_pos rfl]
    exact ⟨fun _ => rfl, fun _ => rfl⟩
  · rw [if_neg h1]
    refine ⟨fun z => ?_, fun z => absurd z h1⟩
    by_cases h2 : x > y
    · rw [if_pos h2] at z
      exact absurd z (by decide)
    · rw [if_neg h2] at z
      exact absurd z (by decide)
set_option maxRecDepth 20000 in
theorem m_isWord (hW : wok W) (hT : TC c n p v L X) (hZ : MZ a M0 v L X M) : CtI G mX6_isWord [.ref (a 0), .long (nL (wv W))] M 0 0 (fun x M' => x = (if iwb c n p W = true then 1 else 0) ∧ M' = M) := by
  obtain ⟨h1, h2, h3, h4, ⟨t1, t2, t3, t4, t5⟩, h6⟩ := hT
  have hle : tkT c n p ≤ 4 := by rw [tkT]; split <;> (try split) <;> (try split) <;> (try split) <;> omega
  have h12 : v 12 = 1 ↔ tkT c n p = 1 := by rw [t3]; exact nI_eq (b := 1) (by omega) (by omega)
  refine Ct.of (ls := [some (.ref (a 0)), some (.long (nL (wv W))), none]) (by decide) (by decide) rfl rfl rfl ?_
  refine Ev.ald0 dX6_isWord_0 ?_
  refine Ev.mgv (kx := 12) dX6_isWord_1 fX6_111 hZ rfl ?_
  refine Ev.iconst (v := 1) dX6_isWord_4 (by decide) ?_
  refine Ev.icmp_ne (tgt := 21) dX6_isWord_5 (by decide) (fun c5 => ?_) (fun c5 => ?_)
  · refine Ev.iconst (v := 0) dX6_isWord_21 (by decide) ?_
    refine Ev.iret dX6_isWord_22 rfl rfl ?_
    exact ⟨_, rfl, (if_neg (fun z => c5 (h12.mpr (iwb_i.mp z).1))).symm, rfl⟩
  · refine Ev.ald0 dX6_isWord_8 ?_
    refine Ev.mgl dX6_isWord_9 fX6_118 hZ ?_
    refine Ev.lld1 dX6_isWord_12 ?_
    refine Ev.lcmp dX6_isWord_13 ?_
    refine Ev.if_ne (tgt := 21) dX6_isWord_14 (by decide) (fun c14 => ?_) (fun c14 => ?_)
    · refine Ev.iconst (v := 0) dX6_isWord_21 (by decide) ?_
      refine Ev.iret dX6_isWord_22 rfl rfl ?_
      refine ⟨_, rfl, (if_neg (fun z => c14 (lcmp_i.mpr ?_))).symm, rfl⟩
      rw [t5 (h12.mp c5)]
      exact ((iw_num hW).mp (iwb_i.mp z)).2
    · refine Ev.iconst (v := 1) dX6_isWord_17 (by decide) ?_
      refine Ev.goto (tgt := 22) dX6_isWord_18 (by decide) ?_
      refine Ev.iret dX6_isWord_22 rfl rfl ?_
      refine ⟨_, rfl, (if_pos (iwb_i.mpr ((iw_num hW).mpr ⟨h12.mp c5, ?_⟩))).symm, rfl⟩
      rw [← t5 (h12.mp c5)]
      exact lcmp_i.mp c14
set_option maxRecDepth 20000 in
theorem m_wrong {k : Nat} {x : Int32} (hx : x = nI k) (hk : k < 8) (hT : TC c n p v L X) (hZ : MZ a M0 v L X M) : CtI G mX6_wrong [.ref (a 0), .int x] M 0 0 (fun x M' => x = 0 ∧ MZ a M0 (upd v 15 (nI (8 * tkA c n p + k))) L X M') := by
  subst hx
  obtain ⟨h1, h2, h3, h4, ⟨t1, t2, t3, t4, t5⟩, h6⟩ := hT
  have hA := tkA_le (c := c) h4
  have e : (8 : Int32) * nI (tkA c n p) + nI k = nI (8 * tkA c n p + k) := by
    show nI 8 * _ + _ = _
    rw [pk_mul, nI_add]
  refine Ct.of (ls := [some (.ref (a 0)), some (.int (nI k))]) (by decide) (by decide) rfl rfl rfl ?_
  refine Ev.ald0 dX6_wrong_0 ?_
  refine Ev.ald0 dX6_wrong_1 ?_
  refine Ev.mgv (kx := 15) dX6_wrong_2 fX6_142 hZ rfl ?_
  rw [h6]
  refine Ev.if_ne (tgt := 20) dX6_wrong_5 (by decide) (fun c5 => by first | exact absurd c5 rfl | exact absurd rfl c5) (fun c5 => ?_)
  refine Ev.bipush (v := 8) dX6_wrong_8 (by decide) ?_
  refine Ev.ald0 dX6_wrong_10 ?_
  refine Ev.mgv (kx := 10) dX6_wrong_11 fX6_108 hZ rfl ?_
  rw [t1]
  refine Ev.imul dX6_wrong_14 ?_
  refine Ev.ild1 dX6_wrong_15 ?_
  refine Ev.iadd dX6_wrong_16 ?_
  rw [e]
  refine Ev.goto (tgt := 24) dX6_wrong_17 (by decide) ?_
  refine Ev.mput (kx := 15) dX6_wrong_24 fX6_142 hZ rfl rfl (fun M hZ => ?_)
  refine Ev.iconst (v := 0) dX6_wrong_27 (by decide) ?_
  refine Ev.iret dX6_wrong_28 rfl rfl ?_
  exact ⟨_, rfl, rfl, hZ⟩
/-- an end of a reading: a fault, or a number and the next token -/
def Rn (a : Nat → Nat) (M0 : Wd) (c : Nat → Nat) (n : Nat) (v : Nat → Int32) (X : Nat → Nat → Int32) (r : Nat ⊕ (Nat × Nat)) (x : Int32) (M' : Wd) : Prop := match r with
  | .inl F => x = 0 ∧ ∃ (v' : Nat → Int32) (L' : Int64), MZ a M0 v' L' X M' ∧ VT (upd v 15 (nI F)) v'
  | .inr q => x = 1 ∧ ∃ (v' : Nat → Int32) (L' : Int64), MZ a M0 v' L' X M' ∧ VT (upd v 21 (nI q.1)) v' ∧ TC c n q.2 v' L' X
theorem TC.go {v' : Nat → Int32} {L' : Int64} (hT : TC c n p v L X) (h1 : VT v v') (h2 : TK c n (tkE c n p) v' L') : TC c n (tkE c n p) v' L' X := ⟨hT.1, (h1 9 (by decide)).trans hT.2.1, hT.2.2.1, (tkE_le hT.2.2.2.1).2, h2, (h1 15 (by decide)).trans hT.2.2.2.2.2⟩
theorem m_goT (hT : TC c n p v L X) (hZ : MZ a M0 v L X M) : CtV G mX6_go [.ref (a 0)] M 0 0 (fun M' => ∃ (v' : Nat → Int32) (L' : Int64), MZ a M0 v' L' X M' ∧ VT v v' ∧ TC c n (tkE c n p) v' L' X) := by
  refine Ct.mono (m_go hT.1 hT.2.1 hT.2.2.2.2.1.2.1 (tkE_le hT.2.2.2.1).2 hT.2.2.1 hZ) ?_
  rintro u M' ⟨rfl, v', L', h1, h2, h3⟩
  exact ⟨rfl, v', L', h1, h2, hT.go h2 h3⟩
set_option maxRecDepth 20000 in
theorem m_number {lo hi : Int32} (lo' hi' : Nat) (hlo : lo = nI lo') (hhi : hi = nI hi') (hl : lo' < 100000) (hh : hi' < 100000) (hT : TC c n p v L X) (hZ : MZ a M0 v L X M) : CtI G mX6_number [.ref (a 0), .int lo, .int hi] M 0 0 (Rn a M0 c n v X (nmb c n p lo' hi')) := by
  subst hlo; subst hhi
  obtain ⟨h1, h2, h3, h4, ⟨t1, t2, t3, t4, t5⟩, h6⟩ := id hT
  have hle : tkT c n p ≤ 4 := by rw [tkT]; split <;> (try split) <;> (try split) <;> (try split) <;> omega
  have h12 : v 12 = 2 ↔ tkT c n p = 2 := by rw [t3]; exact nI_eq (b := 2) (by omega) (by omega)
  by_cases hty : tkT c n p = 2
  · have hV := tkV_lt hty
    have b1 : nI lo' ≤ nI (tkV c n p) ↔ lo' ≤ tkV c n p := nI_leI (by omega) (by omega)
    have b2 : nI (tkV c n p) ≤ nI hi' ↔ tkV c n p ≤ hi' := nI_leI (by omega) (by omega)
    have ew := t4 hty
    rw [nmb, if_pos hty]
    refine Ct.of (ls := [some (.ref (a 0)), some (.int (nI lo')), some (.int (nI hi'))]) (by decide) (by decide) rfl rfl rfl ?_
    refine Ev.ald0 dX6_number_0 ?_
    refine Ev.mgv (kx := 12) dX6_number_1 fX6_111 hZ rfl ?_
    refine Ev.iconst (v := 2) dX6_number_4 (by decide) ?_
    refine Ev.icmp_eq (tgt := 14) dX6_number_5 (by decide) (fun c5 => ?_) (fun c5 => by first | exact absurd (h12.mpr hty) c5 | exact absurd c5 (h12.mpr hty))
    refine Ev.ald0 dX6_number_14 ?_
    refine Ev.mgv (kx := 13) dX6_number_15 fX6_129 hZ rfl ?_
    rw [ew]
    refine Ev.i2l dX6_number_18 ?_
    refine Ev.ild1 dX6_number_19 ?_
    refine Ev.i2l dX6_number_20 ?_
    refine Ev.ild2 dX6_number_21 ?_
    refine Ev.i2l dX6_number_22 ?_
    refine Ev.csI (Yc := mX6_within) dX6_number_23 lX6_93 vX6_within rfl (m_wI (y := nI lo') (z := nI hi') rfl rfl) rfl rfl rfl ?_
    rintro y23 M9 ⟨hy23, rfl⟩
    refine Ev.if_ne (tgt := 35) dX6_number_26 (by decide) (fun c26 => ?_) (fun c26 => ?_)
    · refine Ev.ald0 dX6_number_35 ?_
      refine Ev.ald0 dX6_number_36 ?_
      refine Ev.mgv (kx := 13) dX6_number_37 fX6_129 hZ rfl ?_
      rw [ew]
      refine Ev.mput (kx := 21) dX6_number_40 fX6_148 hZ rfl rfl (fun M hZ => ?_)
      refine Ev.ald0 dX6_number_43 ?_
      refine Ev.cvV (Yc := mX6_go) (ci := 6) dX6_number_44 lX6_151 vX6_go rfl (m_goT (hT.u (by decide)) hZ) ⟨_, hZ.2.1.1⟩ rfl rfl rfl rfl ?_
      rintro M1 ⟨v1, L1, hZ, hv, hT1⟩
      refine Ev.iconst (v := 1) dX6_number_47 (by decide) ?_
      refine Ev.iret dX6_number_48 rfl rfl ?_
      rw [if_pos ⟨b1.mp (v01_t hy23 c26).1, b2.mp (v01_t hy23 c26).2⟩]
      exact ⟨_, rfl, rfl, _, _, hZ, hv, hT1⟩
    · refine Ev.ald0 dX6_number_29 ?_
      refine Ev.iconst (v := 2) dX6_number_30 (by decide) ?_
      refine Ev.cvI (Yc := mX6_wrong) (ci := 6) dX6_number_31 lX6_145 vX6_wrong rfl (m_wrong (k := 2) rfl (by omega) hT hZ) ⟨_, hZ.2.1.1⟩ rfl rfl rfl rfl ?_
      rintro y31 M1 ⟨hy31, hZ⟩
      subst hy31
      refine Ev.iret dX6_number_34 rfl rfl ?_
      rw [if_neg (fun z => v01_f hy23 c26 ⟨b1.mpr z.1, b2.mpr z.2⟩)]
      exact ⟨_, rfl, rfl, _, _, hZ, VT.rf⟩
  · rw [nmb, if_neg hty]
    refine Ct.of (ls := [some (.ref (a 0)), some (.int (nI lo')), some (.int (nI hi'))]) (by decide) (by decide) rfl rfl rfl ?_
    refine Ev.ald0 dX6_number_0 ?_
    refine Ev.mgv (kx := 12) dX6_number_1 fX6_111 hZ rfl ?_
    refine Ev.iconst (v := 2) dX6_number_4 (by decide) ?_
    refine Ev.icmp_eq (tgt := 14) dX6_number_5 (by decide) (fun c5 => by first | exact absurd c5 (fun z => hty (h12.mp z)) | exact absurd (fun z => hty (h12.mp z)) c5) (fun c5 => ?_)
    refine Ev.ald0 dX6_number_8 ?_
    refine Ev.iconst (v := 1) dX6_number_9 (by decide) ?_
    refine Ev.cvI (Yc := mX6_wrong) (ci := 6) dX6_number_10 lX6_145 vX6_wrong rfl (m_wrong (k := 1) rfl (by omega) hT hZ) ⟨_, hZ.2.1.1⟩ rfl rfl rfl rfl ?_
    rintro y10 M1 ⟨hy10, hZ⟩
    subst hy10
    refine Ev.iret dX6_number_13 rfl rfl ?_
    exact ⟨_, rfl, rfl, _, _, hZ, VT.rf⟩
set_option maxRecDepth 20000 in
theorem m_word (hW : wok W) (hT : TC c n p v L X) (hZ : MZ a M0 v L X M) : CtI G mX6_word [.ref (a 0), .long (nL (wv W))] M 0 0 (fun x M' => match wrd c n p W with
    | .inl F => x = 0 ∧ ∃ (v' : Nat → Int32) (L' : Int64), MZ a M0 v' L' X M' ∧ VT (upd v 15 (nI F)) v'
    | .inr p' => x = 1 ∧ ∃ (v' : Nat → Int32) (L' : Int64), MZ a M0 v' L' X M' ∧ VT v v' ∧ TC c n p' v' L' X) := by
  refine Ct.of (ls := [some (.ref (a 0)), some (.long (nL (wv W))), none]) (by decide) (by decide) rfl rfl rfl ?_
  refine Ev.ald0 dX6_word_0 ?_
  refine Ev.lld1 dX6_word_1 ?_
  refine Ev.cvI (Yc := mX6_isWord) (ci := 6) dX6_word_2 lX6_154 vX6_isWord rfl (m_isWord hW hT hZ) ⟨_, hZ.2.1.1⟩ rfl rfl rfl rfl ?_
  rintro y2 M9 ⟨hy2, rfl⟩
  refine Ev.if_ne (tgt := 14) dX6_word_5 (by decide) (fun c5 => ?_) (fun c5 => ?_)
  · refine Ev.ald0 dX6_word_14 ?_
    refine Ev.cvV (Yc := mX6_go) (ci := 6) dX6_word_15 lX6_151 vX6_go rfl (m_goT hT hZ) ⟨_, hZ.2.1.1⟩ rfl rfl rfl rfl ?_
    rintro M1 ⟨v1, L1, hZ, hv, hT1⟩
    refine Ev.iconst (v := 1) dX6_word_18 (by decide) ?_
    refine Ev.iret dX6_word_19 rfl rfl ?_
    refine ⟨_, rfl, ?_⟩
    rw [wrd, if_pos (v01_t hy2 c5)]
    exact ⟨rfl, _, _, hZ, hv, hT1⟩
  · refine Ev.ald0 dX6_word_8 ?_
    refine Ev.iconst (v := 1) dX6_word_9 (by decide) ?_
    refine Ev.cvI (Yc := mX6_wrong) (ci := 6) dX6_word_10 lX6_145 vX6_wrong rfl (m_wrong (k := 1) rfl (by omega) hT hZ) ⟨_, hZ.2.1.1⟩ rfl rfl rfl rfl ?_
    rintro y10 M1 ⟨hy10, hZ⟩
    subst hy10
    refine Ev.iret dX6_word_13 rfl rfl ?_
    refine ⟨_, rfl, ?_⟩
    rw [wrd, if_neg (v01_f hy2 c5)]
    exact ⟨rfl, _, _, hZ, VT.rf⟩
end TKC
