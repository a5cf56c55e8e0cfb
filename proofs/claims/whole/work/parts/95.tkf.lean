theorem Rs.nar {a : Nat → Nat} {M0 M' : Wd} {c : Nat → Nat} {n : Nat} {v : Nat → Int32} {X : Nat → Nat → Int32} {r : Nat ⊕ Ps} {x : Int32} (h : Rs a M0 c n v X r x M') : narrow .boolean (.int x) = .int x := by
  obtain ⟨v', L', X', h1, h2, h3⟩ := h
  cases r with
  | inl F => obtain ⟨rfl, -⟩ := h3; rfl
  | inr s => obtain ⟨rfl, -⟩ := h3; rfl
section TKF
variable {G : GP} {a : Nat → Nat} {M0 M : Wd} {v v0 : Nat → Int32} {L : Int64} {X X0 : Nat → Nat → Int32} {c : Nat → Nat} {n p : Nat} {s : Ps} {sd : Nat}
set_option maxRecDepth 20000 in
theorem m_olZ {Q : Option Value → Wd → Prop} {s1 k1 : Int32} {k : Nat} (hk : k < 40) (kk : ∀ M', MZ a M0 v L (ux X 17 (fun j => if 8 * k ≤ j ∧ j < 8 * k + 8 then 0 else X 17 j)) M' → Ev G mX6_orderLine 68 [some (.ref (a 0)), some (.int s1), some (.int k1), some (.int (8 * nI k)), some (.int (nI 8))] [] M' 4 24 Q) (hZ : MZ a M0 v L X M) : Ev G mX6_orderLine 45 [some (.ref (a 0)), some (.int s1), some (.int k1), some (.int (8 * nI k)), some (.int 0)] [] M 4 24 Q := by
  have KL : ∀ M, MZ a M0 v L (ux X 17 (fun j => if 8 * k ≤ j ∧ j < 8 * k + 0 then 0 else X 17 j)) M → Ev G mX6_orderLine 45 [some (.ref (a 0)), some (.int s1), some (.int k1), some (.int (8 * nI k)), some (.int (nI 0))] [] M 4 24 Q := by
    refine ev_ind 8 (fun t => ∀ M, MZ a M0 v L (ux X 17 (fun j => if 8 * k ≤ j ∧ j < 8 * k + t then 0 else X 17 j)) M → Ev G mX6_orderLine 45 [some (.ref (a 0)), some (.int s1), some (.int k1), some (.int (8 * nI k)), some (.int (nI t))] [] M 4 24 Q) ?_ ?_
    · intro M hZ
      refine Ev.ild4 dX6_orderLine_45 ?_
      refine Ev.bipush (v := 8) dX6_orderLine_47 (by decide) ?_
      refine Ev.icmp_ge (tgt := 68) dX6_orderLine_49 (by decide) (fun c49 => ?_) (fun c49 => by first | exact absurd (Int32.le_refl _) c49 | exact absurd c49 (Int32.le_refl _))
      exact kk M hZ
    · intro t ht ih M hZ
      refine Ev.ild4 dX6_orderLine_45 ?_
      refine Ev.bipush (v := 8) dX6_orderLine_47 (by decide) ?_
      refine Ev.icmp_ge (tgt := 68) dX6_orderLine_49 (by decide) (fun c49 => by first | exact absurd c49 (nI_ge (b := 8) ht (by decide)) | exact absurd (nI_ge (b := 8) ht (by decide)) c49) (fun c49 => ?_)
      refine Ev.ald0 dX6_orderLine_52 ?_
      refine Ev.mgr (kx := 17) dX6_orderLine_53 fX6_27 hZ rfl ?_
      refine Ev.ild3 dX6_orderLine_56 ?_
      refine Ev.ild4 dX6_orderLine_57 ?_
      refine Ev.iadd dX6_orderLine_59 ?_
      refine Ev.iconst (v := 0) dX6_orderLine_60 (by decide) ?_
      refine Ev.mst (j := 8 * k + t) mq17 dX6_orderLine_61 hZ (by first | assumption | (simp only [nI, Int32.ofNat_add, Int32.ofNat_mul]; done) | (simp only [nI, Int32.ofNat_add, Int32.ofNat_mul]; rfl) | rfl) (by omega) (fun M hZ => ?_)
      (try simp only [ux_u, ux_s, ux_n, ne_eq, Nat.reduceEqDiff, Nat.succ_ne_self, not_false_eq_true] at hZ)
      apply Ev.iinc4 dX6_orderLine_62 rfl rfl
      · first | exact nI_inc _ | rfl
      refine Ev.goto (tgt := 45) dX6_orderLine_65 (by decide) ?_
      refine ih M (hZ.xc rfl (congrArg (ux X 17) (funext fun j => ?_)))
      by_cases e : j = 8 * k + t
      · rw [e, pk_us, if_pos (by omega)]
      · rw [pk_un e]
        by_cases e2 : 8 * k ≤ j ∧ j < 8 * k + t
        · rw [if_pos e2, if_pos (by omega)]
        · rw [if_neg e2, if_neg (by omega)]
  refine KL M (hZ.xc rfl (ux_id (funext fun j => ?_)).symm)
  rw [if_neg (by omega)]
set_option maxRecDepth 20000 in
theorem m_ol1 {kd : Nat} (hK : KT v0 v X0 X) (hT : TC c n p v L X) (h16 : v 16 = nI s.2.2.1) (hk : s.2.2.1 < 40) (hAr : Ar s.2.2.1 (X 17) s.2.1) (h18 : v 18 = nI s.2.2.2.1) (hr : s.2.2.2.1 ≤ 999) (h19 : v 19 = nI s.2.2.2.2.1) (hl : s.2.2.2.2.1 ≤ 999) (h20 : s.2.2.2.2.1 ≠ 0 → v 20 = nI s.2.2.2.2.2) (hk5 : kd < 5) (hZ : MZ a M0 v L X M) : Ev G mX6_orderLine 34 [some (.ref (a 0)), some (.int (nI sd)), some (.int (nI kd)), none, none] [] M 4 24 (fun u M' => ∃ x, u = some (.int x) ∧ Rs a M0 c n v0 X0 (ol1 c n s (tkE c n p) sd kd) x M') := by
  have J : ∀ (y : Int32) (v1 : Nat → Int32) (L1 : Int64) (X1 : Nat → Nat → Int32) (M : Wd), KT v0 v1 X0 X1 → PO c n s v1 L1 X1 (tkE c n p) (xx sd kd 0 0 0 0 0) → (match nmb c n (tkE c n p) 1 9999 with
      | .inl F => y = 0 ∧ ∃ (v' : Nat → Int32) (L' : Int64) (X' : Nat → Nat → Int32), MZ a M0 v' L' X' M ∧ KT v1 v' X1 X' ∧ v' 15 = nI F
      | .inr q => y = 1 ∧ ∃ (v' : Nat → Int32) (L' : Int64), MZ a M0 v' L' (ux X1 17 (upd (X1 17) (8 * s.2.2.1 + 2) (nI q.1))) M ∧ VT (upd v1 21 (nI q.1)) v' ∧ TC c n q.2 v' L' X1) → Ev G mX6_orderLine 99 [some (.ref (a 0)), some (.int (nI sd)), some (.int (nI kd)), some (.int (8 * nI s.2.2.1)), some (.int (nI 8))] [.int y] M 4 24 (fun u M' => ∃ x, u = some (.int x) ∧ Rs a M0 c n v0 X0 (ol1 c n s (tkE c n p) sd kd) x M') := by
    intro y v1 L1 X1 M hK hP hy
    rw [ol1]
    cases hq : nmb c n (tkE c n p) 1 9999 with
    | inl F =>
      rw [hq] at hy
      obtain ⟨rfl, v2, L2, X2, hZ, hK2, h15⟩ := hy
      refine Ev.if_ne (tgt := 104) dX6_orderLine_99 (by decide) (fun c99 => by first | exact absurd c99 rfl | exact absurd rfl c99) (fun c99 => ?_)
      refine Ev.iconst (v := 0) dX6_orderLine_102 (by decide) ?_
      refine Ev.iret dX6_orderLine_103 rfl rfl ?_
      exact ⟨_, rfl, _, _, _, hZ, hK.tr hK2, rfl, h15⟩
    | inr q2 =>
      have hb := nmb_b hq
      rw [hq] at hy
      obtain ⟨rfl, v2, L2, hZ, hv2, hT2⟩ := hy
      refine Ev.if_ne (tgt := 104) dX6_orderLine_99 (by decide) (fun c99 => ?_) (fun c99 => by first | exact absurd (by decide) c99 | exact absurd c99 (by decide))
      exact m_ol2 ((hK.u (by decide)).tr hv2.k).x (hP.st hv2 hT2 (by omega) (fun j hj => xx2 hj)) hk5 hb.2 hZ
  refine Ev.bipush (v := 8) dX6_orderLine_34 (by decide) ?_
  refine Ev.ald0 dX6_orderLine_36 ?_
  refine Ev.mgv (kx := 16) dX6_orderLine_37 fX6_161 hZ rfl ?_
  rw [h16]
  refine Ev.imul dX6_orderLine_40 ?_
  refine Ev.ist3 dX6_orderLine_41 rfl rfl ?_
  refine Ev.iconst (v := 0) dX6_orderLine_42 (by decide) ?_
  refine Ev.ist4 dX6_orderLine_43 rfl rfl ?_
  skip
  refine m_olZ hk (fun M hZ => ?_) hZ
  refine Ev.ald0 dX6_orderLine_68 ?_
  refine Ev.mgr (kx := 17) dX6_orderLine_69 fX6_27 hZ rfl ?_
  refine Ev.ild3 dX6_orderLine_72 ?_
  refine Ev.iconst (v := 0) dX6_orderLine_73 (by decide) ?_
  refine Ev.iadd dX6_orderLine_74 ?_
  refine Ev.ild1 dX6_orderLine_75 ?_
  refine Ev.mst (j := 8 * s.2.2.1 + 0) mq17 dX6_orderLine_76 hZ (by first | assumption | (simp only [nI, Int32.ofNat_add, Int32.ofNat_mul]; done) | (simp only [nI, Int32.ofNat_add, Int32.ofNat_mul]; rfl) | rfl) (by omega) (fun M hZ => ?_)
  (try simp only [ux_u, ux_s, ux_n, ne_eq, Nat.reduceEqDiff, Nat.succ_ne_self, not_false_eq_true] at hZ)
  refine Ev.ald0 dX6_orderLine_77 ?_
  refine Ev.mgr (kx := 17) dX6_orderLine_78 fX6_27 hZ rfl ?_
  refine Ev.ild3 dX6_orderLine_81 ?_
  refine Ev.iconst (v := 1) dX6_orderLine_82 (by decide) ?_
  refine Ev.iadd dX6_orderLine_83 ?_
  refine Ev.ild2 dX6_orderLine_84 ?_
  refine Ev.mst (j := 8 * s.2.2.1 + 1) mq17 dX6_orderLine_85 hZ (by first | assumption | (simp only [nI, Int32.ofNat_add, Int32.ofNat_mul]; done) | (simp only [nI, Int32.ofNat_add, Int32.ofNat_mul]; rfl) | rfl) (by omega) (fun M hZ => ?_)
  (try simp only [ux_u, ux_s, ux_n, ne_eq, Nat.reduceEqDiff, Nat.succ_ne_self, not_false_eq_true] at hZ)
  skip
  have hP : PO c n s v L (ux X 17 (upd (upd (fun j => if 8 * s.2.2.1 ≤ j ∧ j < 8 * s.2.2.1 + 8 then 0 else X 17 j) (8 * s.2.2.1 + 0) (nI sd)) (8 * s.2.2.1 + 1) (nI kd))) p (xx sd kd 0 0 0 0 0) := by
    refine ⟨hT.f, h16, hk, ?_, ?_, h18, hr, h19, hl, h20⟩
    · rw [ux_s]
      intro j hj
      rw [pk_un (by omega), pk_un (by omega), if_neg (by omega)]
      exact hAr j hj
    · rw [ux_s]
      intro i hi
      by_cases e1 : i = 1
      · subst e1; rw [pk_us]; rfl
      · rw [pk_un (by omega)]
        by_cases e0 : i = 0
        · subst e0; rw [pk_us]; rfl
        · rw [pk_un (by omega), if_pos (by omega)]
          have : i = 2 ∨ i = 3 ∨ i = 4 ∨ i = 5 ∨ i = 6 ∨ i = 7 := by omega
          rcases this with rfl | rfl | rfl | rfl | rfl | rfl <;> rfl
  have hK2 : KT v0 v X0 (ux X 17 (upd (upd (fun j => if 8 * s.2.2.1 ≤ j ∧ j < 8 * s.2.2.1 + 8 then 0 else X 17 j) (8 * s.2.2.1 + 0) (nI sd)) (8 * s.2.2.1 + 1) (nI kd))) := hK.x
  generalize ux X 17 (upd (upd (fun j => if 8 * s.2.2.1 ≤ j ∧ j < 8 * s.2.2.1 + 8 then 0 else X 17 j) (8 * s.2.2.1 + 0) (nI sd)) (8 * s.2.2.1 + 1) (nI kd)) = X2 at hZ hP hK2
  refine Ev.ald0 dX6_orderLine_86 ?_
  refine Ev.cvV (Yc := mX6_go) (ci := 6) dX6_orderLine_87 lX6_151 vX6_go rfl (m_goT hP.1 hZ) ⟨_, hZ.2.1.1⟩ rfl rfl rfl rfl ?_
  rintro M1 ⟨v1, L1, hZ, hv, hT1⟩
  have hP1 := hP.v hv hT1
  refine Ev.ald0 dX6_orderLine_90 ?_
  refine Ev.iconst (v := 2) dX6_orderLine_91 (by decide) ?_
  refine Ev.iconst (v := 1) dX6_orderLine_92 (by decide) ?_
  refine Ev.sipush (v := 9999) dX6_orderLine_93 (by decide) ?_
  refine Ev.cvI (Yc := mX6_keeps) (ci := 6) dX6_orderLine_96 lX6_177 vX6_keeps rfl (m_keeps (k := s.2.2.1) 2 1 9999 rfl rfl rfl (by omega) (by omega) (by omega) hT1 hP1.2.1 hP1.2.2.1 hZ) ⟨_, hZ.2.1.1⟩ rfl rfl rfl rfl ?_
  rintro y96 M2 hy96
  exact J _ _ _ _ _ (hK2.tr hv.k) hP1 hy96
theorem kdh_lt {k : Nat} (h : kdh c n p = some k) : k < 5 := by
  rw [kdh] at h
  split at h
  · cases h; decide
  · split at h
    · cases h; decide
    · split at h
      · cases h; decide
      · split at h
        · cases h; decide
        · split at h
          · cases h; decide
          · cases h
set_option maxRecDepth 20000 in
theorem m_orderLine {x : Int32} (hx : x = nI sd) (hS : ST c n s v L X) (hZ : MZ a M0 v L X M) : CtI G mX6_orderLine [.ref (a 0), .int x] M 9 54 (Rs a M0 c n v X (ol0 c n s sd)) := by
  subst hx
  obtain ⟨hT, h16, hk, hAr, h18, hr, h19, hl, h20⟩ := hS
  by_cases h40 : s.2.2.1 = 40
  · rw [ol0, if_pos h40]
    rw [h40] at h16
    refine Ct.of (ls := [some (.ref (a 0)), some (.int (nI sd)), none, none, none]) (by decide) (by decide) rfl rfl rfl ?_
    refine Ev.ald0 dX6_orderLine_0 ?_
    refine Ev.mgv (kx := 16) dX6_orderLine_1 fX6_161 hZ rfl ?_
    rw [h16]
    refine Ev.bipush (v := 40) dX6_orderLine_4 (by decide) ?_
    refine Ev.icmp_ne (tgt := 15) dX6_orderLine_6 (by decide) (fun c6 => by first | exact absurd c6 rfl | exact absurd rfl c6) (fun c6 => ?_)
    refine Ev.ald0 dX6_orderLine_9 ?_
    refine Ev.iconst (v := 4) dX6_orderLine_10 (by decide) ?_
    refine Ev.cvI (Yc := mX6_wrong) (ci := 6) dX6_orderLine_11 lX6_145 vX6_wrong rfl (m_wrong (k := 4) rfl (by omega) hT hZ) ⟨_, hZ.2.1.1⟩ rfl rfl rfl rfl ?_
    rintro y11 M1 ⟨hy11, hZ⟩
    subst hy11
    refine Ev.iret dX6_orderLine_14 rfl rfl ?_
    exact ⟨_, rfl, _, _, _, hZ, KT.rf.u (by decide), rfl, pk_us⟩
  · rw [ol0, if_neg h40]
    have hne : nI s.2.2.1 ≠ 40 := fun z => h40 ((nI_eq (b := 40) (by omega) (by omega)).mp z)
    have J : ∀ (y : Int32) (v1 : Nat → Int32) (L1 : Int64) (M : Wd), VT v v1 → TC c n (tkE c n s.1) v1 L1 X → MZ a M0 v1 L1 X M → y = (match kdh c n (tkE c n s.1) with
        | none => -1
        | some k => nI k) → Ev G mX6_orderLine 23 [some (.ref (a 0)), some (.int (nI sd)), none, none, none] [.int y] M 4 24 (fun u M' => ∃ x, u = some (.int x) ∧ Rs a M0 c n v X (match kdh c n (tkE c n s.1) with
        | none => .inl (8 * tkA c n (tkE c n s.1) + 1)
        | some kd => ol1 c n s (tkE c n (tkE c n s.1)) sd kd) x M') := by
      intro y v1 L1 M hv hT1 hZ hy
      cases hq : kdh c n (tkE c n s.1) with
      | none =>
        rw [hq] at hy
        have hy : y = -1 := hy
        subst hy
        refine Ev.ist2 dX6_orderLine_23 rfl rfl ?_
        refine Ev.ild2 dX6_orderLine_24 ?_
        refine Ev.if_ge (tgt := 34) dX6_orderLine_25 (by decide) (fun c25 => by first | exact absurd c25 (by decide) | exact absurd (by decide) c25) (fun c25 => ?_)
        refine Ev.ald0 dX6_orderLine_28 ?_
        refine Ev.iconst (v := 1) dX6_orderLine_29 (by decide) ?_
        refine Ev.cvI (Yc := mX6_wrong) (ci := 6) dX6_orderLine_30 lX6_145 vX6_wrong rfl (m_wrong (k := 1) rfl (by omega) hT1 hZ) ⟨_, hZ.2.1.1⟩ rfl rfl rfl rfl ?_
        rintro y30 M1 ⟨hy30, hZ⟩
        subst hy30
        refine Ev.iret dX6_orderLine_33 rfl rfl ?_
        exact ⟨_, rfl, _, _, _, hZ, (VT.k hv).u (by decide), rfl, pk_us⟩
      | some kd =>
        have hk5 := kdh_lt hq
        rw [hq] at hy
        have hy : y = nI kd := hy
        subst hy
        refine Ev.ist2 dX6_orderLine_23 rfl rfl ?_
        refine Ev.ild2 dX6_orderLine_24 ?_
        refine Ev.if_ge (tgt := 34) dX6_orderLine_25 (by decide) (fun c25 => ?_) (fun c25 => by first | exact absurd (nI_pos' (by omega)) c25 | exact absurd c25 (nI_pos' (by omega)))
        exact m_ol1 hv.k hT1 (hv.w (by decide) h16) (by omega) hAr (hv.w (by decide) h18) hr (hv.w (by decide) h19) hl (fun z => hv.w (by decide) (h20 z)) hk5 hZ
    refine Ct.of (ls := [some (.ref (a 0)), some (.int (nI sd)), none, none, none]) (by decide) (by decide) rfl rfl rfl ?_
    refine Ev.ald0 dX6_orderLine_0 ?_
    refine Ev.mgv (kx := 16) dX6_orderLine_1 fX6_161 hZ rfl ?_
    rw [h16]
    refine Ev.bipush (v := 40) dX6_orderLine_4 (by decide) ?_
    refine Ev.icmp_ne (tgt := 15) dX6_orderLine_6 (by decide) (fun c6 => ?_) (fun c6 => by first | exact absurd hne c6 | exact absurd c6 hne)
    refine Ev.ald0 dX6_orderLine_15 ?_
    refine Ev.cvV (Yc := mX6_go) (ci := 6) dX6_orderLine_16 lX6_151 vX6_go rfl (m_goT hT hZ) ⟨_, hZ.2.1.1⟩ rfl rfl rfl rfl ?_
    rintro M1 ⟨v1, L1, hZ, hv, hT1⟩
    refine Ev.ald0 dX6_orderLine_19 ?_
    refine Ev.cvIn (Yc := mX6_kindHere) (ci := 6) dX6_orderLine_20 lX6_173 vX6_kindHere rfl (m_kindHere hT1 hZ) ⟨_, hZ.2.1.1⟩ rfl rfl rfl rfl (by omega) (by omega) ?_
    rintro y20 M2 ⟨hZ, hy20⟩
    exact J _ _ _ _ hv hT1 hZ hy20
set_option maxRecDepth 20000 in
theorem m_reference0 : CtL G mX6_reference [] M 1 6 (fun x M' => x = nL (wv Wre) ∧ Fw [] M M') := by
  refine Ct.of (ls := []) (by decide) (by decide) rfl rfl rfl ?_
  refine Ev.bipush (v := 114) dX6_reference_0 (by decide) ?_
  refine Ev.bipush (v := 101) dX6_reference_2 (by decide) ?_
  refine Ev.bipush (v := 102) dX6_reference_4 (by decide) ?_
  refine Ev.bipush (v := 101) dX6_reference_6 (by decide) ?_
  refine Ev.bipush (v := 114) dX6_reference_8 (by decide) ?_
  refine Ev.bipush (v := 101) dX6_reference_10 (by decide) ?_
  refine Ev.csLn (Yc := mX6_spelt) dX6_reference_12 lX6_132 vX6_spelt rfl (m_spelt (W := [114, 101, 102, 101, 114, 101]) (by decide +kernel)) rfl rfl rfl (by omega) (by omega) ?_
  rintro y M1 ⟨rfl, hF⟩
  refine Ev.ldc2 dX6_reference_15 kX6_122 ?_
  refine Ev.lmul dX6_reference_18 ?_
  refine Ev.ldc2 dX6_reference_19 kX6_136 ?_
  refine Ev.ladd dX6_reference_22 ?_
  refine Ev.ldc2 dX6_reference_23 kX6_122 ?_
  refine Ev.lmul dX6_reference_26 ?_
  refine Ev.ldc2 dX6_reference_27 kX6_138 ?_
  refine Ev.ladd dX6_reference_30 ?_
  refine Ev.ldc2 dX6_reference_31 kX6_122 ?_
  refine Ev.lmul dX6_reference_34 ?_
  refine Ev.ldc2 dX6_reference_35 kX6_140 ?_
  refine Ev.ladd dX6_reference_38 ?_
  refine Ev.lret dX6_reference_39 rfl ?_
  exact ⟨_, rfl, by decide +kernel, hF⟩
set_option maxRecDepth 20000 in
theorem m_line (hS : ST c n s v L X) (hZ : MZ a M0 v L X M) : CtI G mX6_line [.ref (a 0)] M 13 78 (Rs a M0 c n v X (lin c n s)) := by
  rw [lin]
  have hT := hS.1
  refine Ct.of (ls := [some (.ref (a 0))]) (by decide) (by decide) rfl rfl rfl ?_
  refine Ev.ald0 dX6_line_0 ?_
  refine Ev.csLn (Yc := mX6_reference) dX6_line_1 lX6_184 vX6_reference rfl m_reference0 rfl rfl rfl (by omega) (by omega) ?_
  rintro y M1 ⟨rfl, hF⟩
  have hZ := hZ.fw hF
  refine Ev.cvI (Yc := mX6_isWord) (ci := 6) dX6_line_4 lX6_154 vX6_isWord rfl (m_isWord (W := Wre) (wok_of _ rfl) hT hZ) ⟨_, hZ.2.1.1⟩ rfl rfl rfl rfl ?_
  rintro y4 M9 ⟨hy4, rfl⟩
  refine Ev.if_eq (tgt := 15) dX6_line_7 (by decide) (fun c7 => ?_) (fun c7 => ?_)
  · refine Ev.ald0 dX6_line_15 ?_
    refine Ev.bipush (v := 99) dX6_line_16 (by decide) ?_
    refine Ev.bipush (v := 111) dX6_line_18 (by decide) ?_
    refine Ev.bipush (v := 108) dX6_line_20 (by decide) ?_
    refine Ev.bipush (v := 108) dX6_line_22 (by decide) ?_
    refine Ev.bipush (v := 97) dX6_line_24 (by decide) ?_
    refine Ev.bipush (v := 114) dX6_line_26 (by decide) ?_
    refine Ev.csLn (Yc := mX6_spelt) dX6_line_28 lX6_132 vX6_spelt rfl (m_spelt (W := Wco) (by decide +kernel)) rfl rfl rfl (by omega) (by omega) ?_
    rintro y M1 ⟨rfl, hF⟩
    have hZ := hZ.fw hF
    refine Ev.cvI (Yc := mX6_isWord) (ci := 6) dX6_line_31 lX6_154 vX6_isWord rfl (m_isWord (W := Wco) (wok_of _ rfl) hT hZ) ⟨_, hZ.2.1.1⟩ rfl rfl rfl rfl ?_
    rintro y31 M9 ⟨hy31, rfl⟩
    refine Ev.if_eq (tgt := 42) dX6_line_34 (by decide) (fun c34 => ?_) (fun c34 => ?_)
    · refine Ev.ald0 dX6_line_42 ?_
      refine Ev.bipush (v := 98) dX6_line_43 (by decide) ?_
      refine Ev.bipush (v := 117) dX6_line_45 (by decide) ?_
      refine Ev.bipush (v := 121) dX6_line_47 (by decide) ?_
      refine Ev.iconst (v := 0) dX6_line_49 (by decide) ?_
      refine Ev.iconst (v := 0) dX6_line_50 (by decide) ?_
      refine Ev.iconst (v := 0) dX6_line_51 (by decide) ?_
      refine Ev.csLn (Yc := mX6_spelt) dX6_line_52 lX6_132 vX6_spelt rfl (m_spelt (W := Wbu) (by decide +kernel)) rfl rfl rfl (by omega) (by omega) ?_
      rintro y M1 ⟨rfl, hF⟩
      have hZ := hZ.fw hF
      refine Ev.cvI (Yc := mX6_isWord) (ci := 6) dX6_line_55 lX6_154 vX6_isWord rfl (m_isWord (W := Wbu) (wok_of _ rfl) hT hZ) ⟨_, hZ.2.1.1⟩ rfl rfl rfl rfl ?_
      rintro y55 M9 ⟨hy55, rfl⟩
      refine Ev.if_eq (tgt := 67) dX6_line_58 (by decide) (fun c58 => ?_) (fun c58 => ?_)
      · refine Ev.ald0 dX6_line_67 ?_
        refine Ev.bipush (v := 115) dX6_line_68 (by decide) ?_
        refine Ev.bipush (v := 101) dX6_line_70 (by decide) ?_
        refine Ev.bipush (v := 108) dX6_line_72 (by decide) ?_
        refine Ev.bipush (v := 108) dX6_line_74 (by decide) ?_
        refine Ev.iconst (v := 0) dX6_line_76 (by decide) ?_
        refine Ev.iconst (v := 0) dX6_line_77 (by decide) ?_
        refine Ev.csLn (Yc := mX6_spelt) dX6_line_78 lX6_132 vX6_spelt rfl (m_spelt (W := Wse) (by decide +kernel)) rfl rfl rfl (by omega) (by omega) ?_
        rintro y M1 ⟨rfl, hF⟩
        have hZ := hZ.fw hF
        refine Ev.cvI (Yc := mX6_isWord) (ci := 6) dX6_line_81 lX6_154 vX6_isWord rfl (m_isWord (W := Wse) (wok_of _ rfl) hT hZ) ⟨_, hZ.2.1.1⟩ rfl rfl rfl rfl ?_
        rintro y81 M9 ⟨hy81, rfl⟩
        refine Ev.if_eq (tgt := 95) dX6_line_84 (by decide) (fun c84 => ?_) (fun c84 => ?_)
        · refine Ev.ald0 dX6_line_95 ?_
          refine Ev.iconst (v := 1) dX6_line_96 (by decide) ?_
          refine Ev.cvI (Yc := mX6_wrong) (ci := 6) dX6_line_97 lX6_145 vX6_wrong rfl (m_wrong (k := 1) rfl (by omega) hT hZ) ⟨_, hZ.2.1.1⟩ rfl rfl rfl rfl ?_
          rintro y97 M1 ⟨hy97, hZ⟩
          subst hy97
          refine Ev.iret dX6_line_100 rfl (by first | rfl | exact Rs.nar hy89) ?_
          rw [if_neg (v01_f hy4 c7), if_neg (v01_f hy31 c34), if_neg (v01_f hy55 c58), if_neg (v01_f hy81 c84)]
          exact ⟨_, rfl, _, _, _, hZ, KT.rf.u (by decide), rfl, pk_us⟩
        · refine Ev.ald0 dX6_line_87 ?_
          refine Ev.iconst (v := 1) dX6_line_88 (by decide) ?_
          refine Ev.cvIn (Yc := mX6_orderLine) (ci := 6) dX6_line_89 lX6_195 vX6_orderLine rfl (m_orderLine (sd := 1) rfl hS hZ) ⟨_, hZ.2.1.1⟩ rfl rfl rfl rfl (by omega) (by omega) ?_
          rintro y89 M2 hy89
          refine Ev.goto (tgt := 100) dX6_line_92 (by decide) ?_
          refine Ev.iret dX6_line_100 rfl (by first | rfl | exact Rs.nar hy89) ?_
          rw [if_neg (v01_f hy4 c7), if_neg (v01_f hy31 c34), if_neg (v01_f hy55 c58), if_pos (v01_t hy81 c84)]
          exact ⟨_, rfl, hy89⟩
      · refine Ev.ald0 dX6_line_61 ?_
        refine Ev.iconst (v := 0) dX6_line_62 (by decide) ?_
        refine Ev.cvIn (Yc := mX6_orderLine) (ci := 6) dX6_line_63 lX6_195 vX6_orderLine rfl (m_orderLine (sd := 0) rfl hS hZ) ⟨_, hZ.2.1.1⟩ rfl rfl rfl rfl (by omega) (by omega) ?_
        rintro y63 M2 hy63
        refine Ev.iret dX6_line_66 rfl (Rs.nar hy63) ?_
        rw [if_neg (v01_f hy4 c7), if_neg (v01_f hy31 c34), if_pos (v01_t hy55 c58)]
        exact ⟨_, rfl, hy63⟩
    · refine Ev.ald0 dX6_line_37 ?_
      refine Ev.cvI (Yc := mX6_collarLine) (ci := 6) dX6_line_38 lX6_192 vX6_collarLine rfl (m_collarLine hS hZ) ⟨_, hZ.2.1.1⟩ rfl rfl rfl rfl ?_
      rintro y38 M2 hy38
      refine Ev.iret dX6_line_41 rfl (Rs.nar hy38) ?_
      rw [if_neg (v01_f hy4 c7), if_pos (v01_t hy31 c34)]
      exact ⟨_, rfl, hy38⟩
  · refine Ev.ald0 dX6_line_10 ?_
    refine Ev.cvI (Yc := mX6_referenceLine) (ci := 6) dX6_line_11 lX6_188 vX6_referenceLine rfl (m_referenceLine hS hZ) ⟨_, hZ.2.1.1⟩ rfl rfl rfl rfl ?_
    rintro y11 M2 hy11
    refine Ev.iret dX6_line_14 rfl (Rs.nar hy11) ?_
    rw [if_pos (v01_t hy4 c7)]
    exact ⟨_, rfl, hy11⟩
end TKF
