/-! methods that throw: curve, crossed, past -/
theorem Ev.thr {G : GP} {Y : MI} {pc : Nat} {ls : List (Option Value)} {M : Wd} {kr nr : Nat} {Q : Option Value → Wd → Prop} (ht : thP Y.1 = some pc) (h1 : 1 ≤ kr) (h2 : 6 ≤ nr) (hQ : Q none M) : Ev G Y pc ls [] M kr nr Q := by
  intro p e R s m args below meth c Z C hR arr H locs cells slots hl hP hS g1 g2
  exact hR.2 M pc arr H locs cells slots hQ hP hS (by omega) (by omega) hl.1 ht
/-- an answer, or a throw -/
abbrev QX (ok : Prop) (x : Int32) (q : Nat → Nat) (S : Sg) (M : Wd) : Option Value → Wd → Prop := fun v M' => (ok ∧ v = some (.int x) ∨ ¬ ok ∧ v = none) ∧ KR q S M M'
/-- how many are out -/
noncomputable def cnN (ou : Nat → Int32) : Nat → Nat
  | 0 => 0
  | k + 1 => cnN ou k + (if ou k = 0 then 0 else 1)
theorem cnN_up {ou : Nat → Int32} {u : Nat} (h : ou u = 0) : ∀ n, cnN (upd ou u 1) n = cnN ou n + (if u < n then 1 else 0)
  | 0 => by rw [cnN, cnN, if_neg (by omega)]
  | n + 1 => by
    rw [cnN, cnN, cnN_up h n]
    by_cases e : n = u
    · subst e
      rw [pk_us, if_neg (show ¬ (1 : Int32) = 0 by decide), if_pos h, if_neg (show ¬ n < n by omega), if_pos (show n < n + 1 by omega)]
    · rw [pk_un e]
      by_cases c : u < n
      · rw [if_pos c, if_pos (show u < n + 1 by omega)]
        omega
      · rw [if_neg c, if_neg (show ¬ u < n + 1 by omega)]
        omega
theorem cnN_z : ∀ n, cnN (fun _ => 0) n = 0
  | 0 => rfl
  | n + 1 => by rw [cnN, cnN_z n, if_pos rfl]
theorem crs_n {m my : Nat → Int32} {n lo hi : Nat} (hn : n ≤ 41) : ∀ (e : Nat) (ct ou : Nat → Int32) (r : Nat), cnc ct n < e → (∀ k, ct k ≠ 0 → ou k = 0) → cnN (crs m my n lo hi e ct ou r).2.1 n + r + 1 = (crs m my n lo hi e ct ou r).2.2 + cnN ou n
  | 0, ct, ou, r, h, _ => by omega
  | e + 1, ct, ou, r, h, h2 => by
    rw [crs_s]
    rcases unh_in (m := m) (ct := ct) (fl := rF m ct my n lo hi) n with u | ⟨w, w1, w2, w3, w4⟩
    · rw [u, if_pos (by decide)]
      show cnN ou n + r + 1 = r + 1 + cnN ou n
      omega
    · rw [w2, if_neg (Int32.not_lt.mpr (nI_pos' (by omega))), nI_clamp (by omega)]
      have ho := cnc_out w3 n
      rw [if_pos w1] at ho
      have ih := crs_n (m := m) (my := my) (lo := lo) (hi := hi) hn e (upd ct w 0) (upd ou w 1) (r + 1) (by omega) (fun k hk => by
        by_cases e : k = w
        · rw [e, pk_us] at hk; exact absurd rfl hk
        · rw [pk_un e] at hk ⊢; exact h2 k hk)
      rw [cnN_up (h2 w w3), if_pos w1] at ih
      omega
theorem cno_n {b : Nat → Int32} (h : ∀ k, k < bn b → (xf b k = -2 ↔ ¬ (xC b (-1)).2.1 k = 0)) : ∀ i, i ≤ bn b → cno b i = nI (cnN (xC b (-1)).2.1 i)
  | 0, _ => rfl
  | i + 1, hi => by
    rw [cno, cnN, cno_n h i (by omega)]
    by_cases c : (xC b (-1)).2.1 i = 0
    · rw [if_pos c, if_neg (fun z => (h i (by omega)).mp z c), Int32.add_zero]
      rfl
    · rw [if_neg c, if_pos ((h i (by omega)).mpr c), nI_1]
section THR
variable {G : GP} {M : Wd} {q : Nat → Nat} {na : Nat} {S : Sg}
theorem CX5.out {b : Nat → Int32} {h rr : Nat} (hB : BW 41 b) (hX : CX5 q h rr b (-1) M) : cno b (bn b) = nI ((xC b (-1)).2.2 - 1) := by
  obtain ⟨f, r, l0, l1, D, i3, tr, ⟨so, po, tc, cn, tu, s0, s1, hs, hO, -⟩, hCO, -⟩ := hX
  have hn := hB.2.1
  have key : ∀ k, k < bn b → (xf b k = -2 ↔ ¬ (xC b (-1)).2.1 k = 0) := by
    intro k hk
    obtain ⟨y, y1, y2⟩ := hB.2.2.1.rFn (ct := (xC b (-1)).1) (lo := blo b) (hi := bhi b) hn k
    have eF : xF b (-1) k = nI y := y2
    rw [xf]
    by_cases o : (xC b (-1)).2.1 k = 0
    · refine ⟨fun z => ?_, fun z => absurd o z⟩
      by_cases g : b (8 * k + 7) = 1
      · rw [if_pos g] at z; exact absurd z (by decide)
      · rw [if_neg g, if_pos o, eF] at z
        have := nI_pos' (n := y) (by omega)
        rw [z] at this
        exact absurd this (by decide)
    · have hs2 : D.1 k = 2 := Classical.not_not.mp (fun z => o ((hCO.2.1 k hk).mpr z))
      have g0 : f (8 * k + 7) = 0 := (hCO.2.2 k hk).1.resolve_left (by rw [hs2]; decide)
      rw [hO.ar.at (i := 7) hk (by decide)] at g0
      rw [if_neg (by rw [g0]; decide), if_neg o]
      exact ⟨fun _ => o, fun _ => rfl⟩
  rw [cno_n key _ (Nat.le_refl _)]
  have := crs_n (m := b) (my := qt b) (lo := blo b) (hi := bhi b) (n := bn b) hn (bn b + 1) (ct0 b (-1)) (fun _ => 0) 0 (by have := cnc_le (ct0 b (-1)) (bn b); omega) (fun _ _ => rfl)
  rw [cnN_z] at this
  have e : (xC b (-1)).2.2 - 1 = cnN (xC b (-1)).2.1 (bn b) := by
    show (crs b (qt b) (bn b) (blo b) (bhi b) (bn b + 1) (ct0 b (-1)) (fun _ => 0) 0).2.2 - 1 = cnN (crs b (qt b) (bn b) (blo b) (bhi b) (bn b + 1) (ct0 b (-1)) (fun _ => 0) 0).2.1 (bn b)
    omega
  rw [e]
theorem AWc.bal {ac : Nat → Nat} {t : T4} {ov hp vo re : Int32} (hA : AWc ac M) (hj : ∀ i, i < 20 → i ≠ 0 → ac i ≠ ac 0) : AWc ac (up M (ac 0) (bl t ov hp vo re)) := by
  obtain ⟨so, po, t0, r0, i1, i2, i3, i4, ov0, hp0, vo0, re0, tt, g, fl, tr, sa, cn, tu, s0, s1, p0, p1, hs, q3, q0, q1, q2, q6, q7, q8, q9, q10, q11, q15, q16, q17, q18⟩ := hA
  exact ⟨so, po, t0, r0, i1, i2, i3, i4, ov, hp, vo, re, t, g, fl, tr, sa, cn, tu, s0, s1, p0, p1, hs, gt_rd (hj 3 (by decide) (by decide)) q3, gt_up q0, gt_rd (hj 1 (by decide) (by decide)) q1, gt_rd (hj 2 (by decide) (by decide)) q2, gt_rd (hj 6 (by decide) (by decide)) q6, gt_rd (hj 7 (by decide) (by decide)) q7, gt_rd (hj 8 (by decide) (by decide)) q8, gt_rd (hj 9 (by decide) (by decide)) q9, gt_rd (hj 10 (by decide) (by decide)) q10, gt_rd (hj 11 (by decide) (by decide)) q11, gt_rd (hj 15 (by decide) (by decide)) q15, gt_rd (hj 16 (by decide) (by decide)) q16, gt_rd (hj 17 (by decide) (by decide)) q17, gt_rd (hj 18 (by decide) (by decide)) q18⟩
set_option maxRecDepth 20000 in
theorem e_curve {p k : Int32} (hC : CR q na S M) (hS : Sok S) : Ev G mX5_curve 0 [some (.ref (q 0)), some (.int p), some (.int k), none] [] M 1 6 (QX ((1 ≤ p ∧ p ≤ 999) ∧ (0 ≤ k ∧ k ≤ 5)) (an_curve S p k) q S M) := by
  have hC0 := hC
  obtain ⟨⟨hj, hna⟩, h0, h1, h2, hA, ⟨f, g, g40, g41, g42, gf, gw⟩, -⟩ := hC
  have hn := hS.1.1.2.1
  have hO := hS.1.1.2.2.1
  have hKR : KR q S M M := ⟨q, na, hC0, SQ.rf, Fr.rf⟩
  refine Ev.ild1 dX5_curve_0 ?_
  refine Ev.csI (Yc := mX5_isPrice) dX5_curve_1 lX5_146 vX5_isPrice rfl k_isPrice rfl rfl rfl ?_
  rintro y M' ⟨hy, rfl⟩
  refine Ev.if_eq (tgt := 16) dX5_curve_4 (by decide) (fun c4 => ?_) (fun c4 => ?_)
  · exact Ev.thr (by decide) (by decide) (by decide) ⟨Or.inr ⟨fun z => if1_f hy c4 z.1, rfl⟩, hKR⟩
  · have t1 := if1_t hy c4
    refine Ev.ild2 dX5_curve_7 ?_
    refine Ev.iconst (v := 0) dX5_curve_8 (by decide) ?_
    refine Ev.iconst (v := 5) dX5_curve_9 (by decide) ?_
    refine Ev.csI (Yc := mX5_within) dX5_curve_10 lX5_76 vX5_within rfl k_within rfl rfl rfl ?_
    rintro y2 M' ⟨hy2, rfl⟩
    refine Ev.if_ne (tgt := 26) dX5_curve_13 (by decide) (fun c13 => ?_) (fun c13 => ?_)
    · have t2 := if1_t hy2 c13
      have hA9 := hA
      obtain ⟨so, po, t0, r0, i1, i2, i3, i4, ov0, hp0, vo0, re0, tt, g9, fl, tr, sa, cn, tu, s0, s1, p0, p1, hs, q3, q0, -⟩ := hA9
      have q3' : gt M' (q 13) = some (ob 0 [.ref (q 10), .ref (q 11), .ref (q 12), .int i1, .int i2, .int i3, .ref (q 16), .ref (q 17), .ref (q 18), .ref (q 19), .ref (q 20), .ref (q 21), .int i4, .ref t0, .ref r0]) := q3
      have q0' : gt M' (q 10) = some (bl tt ov0 hp0 vo0 re0) := q0
      have hb : bsm f p (bn S.1.1) = bs4 S.1.1 (ct0 S.1.1 (-1)) (qt S.1.1) p (bn S.1.1) := by
        rw [bsm_bs4 (hO.cm gf.sy) (by omega) _ (Nat.le_refl _)]
        exact bs4_cm gf _ (Nat.le_refl _) (ct0_cm gf) (qt_cm gf)
      refine Ev.ald0 dX5_curve_26 ?_
      apply Ev.getf dX5_curve_27 fX5_31
      · repeat (first | assumption | (refine gt_upI ?_; (repeat (first | exact In_of (gt_nw (by assumption)) | (apply In_of; assumption) | refine In_up ?_ | refine In_nw ?_)); done) | refine gt_rd (by first | assumption | (apply Ne.symm; assumption) | (exact hj _ _ (by omega) (by omega) (by omega)) | omega) ?_ | exact gt_nw (by assumption) | refine gt_odr (by first | assumption | (apply Ne.symm; assumption) | omega) ?_)
      · first | rfl | assumption
      apply Ev.getr dX5_curve_30 fX5_165
      · repeat (first | assumption | (refine gt_upI ?_; (repeat (first | exact In_of (gt_nw (by assumption)) | (apply In_of; assumption) | refine In_up ?_ | refine In_nw ?_)); done) | refine gt_rd (by first | assumption | (apply Ne.symm; assumption) | (exact hj _ _ (by omega) (by omega) (by omega)) | omega) ?_ | exact gt_nw (by assumption) | refine gt_odr (by first | assumption | (apply Ne.symm; assumption) | omega) ?_)
      · first | rfl | assumption
      refine Ev.ast3 dX5_curve_33 rfl rfl ?_
      refine Ev.ald3 dX5_curve_34 ?_
      refine Ev.ald0 dX5_curve_35 ?_
      apply Ev.getf dX5_curve_36 fX5_19
      · repeat (first | assumption | (refine gt_upI ?_; (repeat (first | exact In_of (gt_nw (by assumption)) | (apply In_of; assumption) | refine In_up ?_ | refine In_nw ?_)); done) | refine gt_rd (by first | assumption | (apply Ne.symm; assumption) | (exact hj _ _ (by omega) (by omega) (by omega)) | omega) ?_ | exact gt_nw (by assumption) | refine gt_odr (by first | assumption | (apply Ne.symm; assumption) | omega) ?_)
      · first | rfl | assumption
      refine Ev.ild1 dX5_curve_39 ?_
      refine Ev.cvV (Yc := mX1_sum) (ci := 1) dX5_curve_40 lX5_169 vX1_sum rfl (c_bsum g40 g41 (by omega) q0' (hj _ _ (by decide) (by decide) (by decide)) (hj _ _ (by decide) (by decide) (by decide))) ?_ rfl rfl rfl rfl ?_
      · apply Exists.intro; repeat (first | assumption | (refine gt_upI ?_; (repeat (first | exact In_of (gt_nw (by assumption)) | (apply In_of; assumption) | refine In_up ?_ | refine In_nw ?_)); done) | refine gt_rd (by first | assumption | (apply Ne.symm; assumption) | (exact hj _ _ (by omega) (by omega) (by omega)) | omega) ?_ | exact gt_nw (by assumption) | refine gt_odr (by first | assumption | (apply Ne.symm; assumption) | omega) ?_)
      rintro M1 rfl
      rw [hb]
      have hA2 : AWc (aq q) (up M' (q 10) (bl (bs4 S.1.1 (ct0 S.1.1 (-1)) (qt S.1.1) p (bn S.1.1)) (ovf (bs4 S.1.1 (ct0 S.1.1 (-1)) (qt S.1.1) p (bn S.1.1))) (hpf (bs4 S.1.1 (ct0 S.1.1 (-1)) (qt S.1.1) p (bn S.1.1))) (vof (bs4 S.1.1 (ct0 S.1.1 (-1)) (qt S.1.1) p (bn S.1.1))) (ref (bs4 S.1.1 (ct0 S.1.1 (-1)) (qt S.1.1) p (bn S.1.1))))) := AWc.bal (ac := aq q) hA (fun i h1 h2 => hj _ _ (by omega) (by omega) (by omega))
      have hFX : Fr (afj.map q) M' (up M' (q 10) (bl (bs4 S.1.1 (ct0 S.1.1 (-1)) (qt S.1.1) p (bn S.1.1)) (ovf (bs4 S.1.1 (ct0 S.1.1 (-1)) (qt S.1.1) p (bn S.1.1))) (hpf (bs4 S.1.1 (ct0 S.1.1 (-1)) (qt S.1.1) p (bn S.1.1))) (vof (bs4 S.1.1 (ct0 S.1.1 (-1)) (qt S.1.1) p (bn S.1.1))) (ref (bs4 S.1.1 (ct0 S.1.1 (-1)) (qt S.1.1) p (bn S.1.1))))) := Fr.rf.pt (by simp)
      have hx10 := gt_up (e := bl (bs4 S.1.1 (ct0 S.1.1 (-1)) (qt S.1.1) p (bn S.1.1)) (ovf (bs4 S.1.1 (ct0 S.1.1 (-1)) (qt S.1.1) p (bn S.1.1))) (hpf (bs4 S.1.1 (ct0 S.1.1 (-1)) (qt S.1.1) p (bn S.1.1))) (vof (bs4 S.1.1 (ct0 S.1.1 (-1)) (qt S.1.1) p (bn S.1.1))) (ref (bs4 S.1.1 (ct0 S.1.1 (-1)) (qt S.1.1) p (bn S.1.1)))) q0'
      have hK2 : KR q S M' _ := ⟨q, na, hC0.au hFX hA2, SQ.rf, Fr.q (js := afj) hFX (by decide)⟩
      clear hA2 hFX
      have ea : an_curve S p k = crv (bs4 S.1.1 (ct0 S.1.1 (-1)) (qt S.1.1) p (bn S.1.1)) k := rfl
      rw [ea]
      generalize bs4 S.1.1 (ct0 S.1.1 (-1)) (qt S.1.1) p (bn S.1.1) = T at *
      generalize up M' (q 10) _ = X at *
      refine Ev.ild2 dX5_curve_43 ?_
      obtain ⟨j, hj1, rfl⟩ : ∃ j, j ≤ 5 ∧ k = nI j := int_le (c := 5) (by omega) t2.1 t2.2
      have : j = 0 ∨ j = 1 ∨ j = 2 ∨ j = 3 ∨ j = 4 ∨ j = 5 := by omega
      rcases this with rfl | rfl | rfl | rfl | rfl | rfl
      · refine Ev.tin (off := 36) (tgt := 80) dX5_curve_44 (by decide) (by decide) (by decide) (by decide) ?_
        refine Ev.ald3 dX5_curve_80 ?_
        apply Ev.getf dX5_curve_81 fX5_175
        · repeat (first | assumption | (refine gt_upI ?_; (repeat (first | exact In_of (gt_nw (by assumption)) | (apply In_of; assumption) | refine In_up ?_ | refine In_nw ?_)); done) | refine gt_rd (by first | assumption | (apply Ne.symm; assumption) | (exact hj _ _ (by omega) (by omega) (by omega)) | omega) ?_ | exact gt_nw (by assumption) | refine gt_odr (by first | assumption | (apply Ne.symm; assumption) | omega) ?_)
        · first | rfl | assumption
        refine Ev.iret dX5_curve_84 rfl rfl ?_
        exact ⟨Or.inl ⟨⟨t1, t2⟩, rfl⟩, hK2⟩
      · refine Ev.tin (off := 41) (tgt := 85) dX5_curve_44 (by decide) (by decide) (by decide) (by decide) ?_
        refine Ev.ald3 dX5_curve_85 ?_
        apply Ev.getf dX5_curve_86 fX5_178
        · repeat (first | assumption | (refine gt_upI ?_; (repeat (first | exact In_of (gt_nw (by assumption)) | (apply In_of; assumption) | refine In_up ?_ | refine In_nw ?_)); done) | refine gt_rd (by first | assumption | (apply Ne.symm; assumption) | (exact hj _ _ (by omega) (by omega) (by omega)) | omega) ?_ | exact gt_nw (by assumption) | refine gt_odr (by first | assumption | (apply Ne.symm; assumption) | omega) ?_)
        · first | rfl | assumption
        refine Ev.iret dX5_curve_89 rfl rfl ?_
        exact ⟨Or.inl ⟨⟨t1, t2⟩, rfl⟩, hK2⟩
      · refine Ev.tin (off := 46) (tgt := 90) dX5_curve_44 (by decide) (by decide) (by decide) (by decide) ?_
        refine Ev.ald3 dX5_curve_90 ?_
        apply Ev.getf dX5_curve_91 fX5_181
        · repeat (first | assumption | (refine gt_upI ?_; (repeat (first | exact In_of (gt_nw (by assumption)) | (apply In_of; assumption) | refine In_up ?_ | refine In_nw ?_)); done) | refine gt_rd (by first | assumption | (apply Ne.symm; assumption) | (exact hj _ _ (by omega) (by omega) (by omega)) | omega) ?_ | exact gt_nw (by assumption) | refine gt_odr (by first | assumption | (apply Ne.symm; assumption) | omega) ?_)
        · first | rfl | assumption
        refine Ev.iret dX5_curve_94 rfl rfl ?_
        exact ⟨Or.inl ⟨⟨t1, t2⟩, rfl⟩, hK2⟩
      · refine Ev.tin (off := 51) (tgt := 95) dX5_curve_44 (by decide) (by decide) (by decide) (by decide) ?_
        refine Ev.ald3 dX5_curve_95 ?_
        apply Ev.getf dX5_curve_96 fX5_184
        · repeat (first | assumption | (refine gt_upI ?_; (repeat (first | exact In_of (gt_nw (by assumption)) | (apply In_of; assumption) | refine In_up ?_ | refine In_nw ?_)); done) | refine gt_rd (by first | assumption | (apply Ne.symm; assumption) | (exact hj _ _ (by omega) (by omega) (by omega)) | omega) ?_ | exact gt_nw (by assumption) | refine gt_odr (by first | assumption | (apply Ne.symm; assumption) | omega) ?_)
        · first | rfl | assumption
        refine Ev.iret dX5_curve_99 rfl rfl ?_
        exact ⟨Or.inl ⟨⟨t1, t2⟩, rfl⟩, hK2⟩
      · refine Ev.tin (off := 56) (tgt := 100) dX5_curve_44 (by decide) (by decide) (by decide) (by decide) ?_
        refine Ev.ald3 dX5_curve_100 ?_
        apply Ev.getf dX5_curve_101 fX5_187
        · repeat (first | assumption | (refine gt_upI ?_; (repeat (first | exact In_of (gt_nw (by assumption)) | (apply In_of; assumption) | refine In_up ?_ | refine In_nw ?_)); done) | refine gt_rd (by first | assumption | (apply Ne.symm; assumption) | (exact hj _ _ (by omega) (by omega) (by omega)) | omega) ?_ | exact gt_nw (by assumption) | refine gt_odr (by first | assumption | (apply Ne.symm; assumption) | omega) ?_)
        · first | rfl | assumption
        refine Ev.iret dX5_curve_104 rfl rfl ?_
        exact ⟨Or.inl ⟨⟨t1, t2⟩, rfl⟩, hK2⟩
      · refine Ev.tout (tgt := 105) dX5_curve_44 (by decide) (by decide) ?_
        refine Ev.ald3 dX5_curve_105 ?_
        apply Ev.getf dX5_curve_106 fX5_188
        · repeat (first | assumption | (refine gt_upI ?_; (repeat (first | exact In_of (gt_nw (by assumption)) | (apply In_of; assumption) | refine In_up ?_ | refine In_nw ?_)); done) | refine gt_rd (by first | assumption | (apply Ne.symm; assumption) | (exact hj _ _ (by omega) (by omega) (by omega)) | omega) ?_ | exact gt_nw (by assumption) | refine gt_odr (by first | assumption | (apply Ne.symm; assumption) | omega) ?_)
        · first | rfl | assumption
        refine Ev.iret dX5_curve_109 rfl rfl ?_
        exact ⟨Or.inl ⟨⟨t1, t2⟩, rfl⟩, hK2⟩
    · exact Ev.thr (by decide) (by decide) (by decide) ⟨Or.inr ⟨fun z => if1_f hy2 c13 z.2, rfl⟩, hKR⟩
set_option maxRecDepth 20000 in
theorem e_crossed {k : Int32} (hC : CR q na S M) (hS : Sok S) : Ev G mX5_crossed 0 [some (.ref (q 0)), some (.int k)] [] M 1 6 (QX (0 ≤ k ∧ k ≤ 6) (an_crossed S k) q S M) := by
  have hC0 := hC
  obtain ⟨⟨hj, hna⟩, h0, -⟩ := hC
  obtain ⟨cb1, cb2, cb3, cb4, cb5⟩ := hS.1.cb
  have hb41 : BW 41 (bas S) := cb1.mono (by decide)
  refine Ev.ild1 dX5_crossed_0 ?_
  refine Ev.iconst (v := 0) dX5_crossed_1 (by decide) ?_
  refine Ev.bipush (v := 6) dX5_crossed_2 (by decide) ?_
  refine Ev.csI (Yc := mX5_within) dX5_crossed_4 lX5_76 vX5_within rfl k_within rfl rfl rfl ?_
  rintro y M' ⟨hy, rfl⟩
  refine Ev.if_ne (tgt := 20) dX5_crossed_7 (by decide) (fun c7 => ?_) (fun c7 => ?_)
  · have t1 := if1_t hy c7
    refine Ev.ald0 dX5_crossed_20 ?_
    refine Ev.cvV (Yc := mX5_runCross) (ci := 5) dX5_crossed_21 lX5_112 vX5_runCross rfl (k_runCross hC0 hS) ?_ rfl rfl rfl rfl ?_
    · apply Exists.intro; repeat (first | assumption | (refine gt_upI ?_; (repeat (first | exact In_of (gt_nw (by assumption)) | (apply In_of; assumption) | refine In_up ?_ | refine In_nw ?_)); done) | refine gt_rd (by first | assumption | (apply Ne.symm; assumption) | (exact hj _ _ (by omega) (by omega) (by omega)) | omega) ?_ | exact gt_nw (by assumption) | refine gt_odr (by first | assumption | (apply Ne.symm; assumption) | omega) ?_)
    rintro M1 ⟨hF, hC1, hX⟩
    have k0 := hC1.2.1
    have ho := hX.out hb41
    obtain ⟨f1, sa, g1, fl, z, i4, i3, x13, x11, x12, x17, xr, z1, z2, ar, hg, hfl, hou, hneg⟩ := hX.get
    have x11' : gt M1 (AD (aq q) (q 40) (if S.1.1 329 = 2 then q 42 else q 41) 1) = some (cc g1) := x11
    have hKR : KR q S M' M1 := ⟨q, na, hC1, SQ.rf, Fr.q (js := afj) hF (by decide)⟩
    refine Ev.ild1 dX5_crossed_24 ?_
    obtain ⟨j, hj1, rfl⟩ : ∃ j, j ≤ 6 ∧ k = nI j := int_le (c := 6) (by omega) t1.1 t1.2
    have : j = 0 ∨ j = 1 ∨ j = 2 ∨ j = 3 ∨ j = 4 ∨ j = 5 ∨ j = 6 := by omega
    rcases this with rfl | rfl | rfl | rfl | rfl | rfl | rfl
    · refine Ev.lsw (off := 43) (tgt := 68) dX5_crossed_25 (by decide) (by decide) (by decide) ?_
      refine Ev.ald0 dX5_crossed_68 ?_
      apply Ev.getf dX5_crossed_69 fX5_31
      · repeat (first | assumption | (refine gt_upI ?_; (repeat (first | exact In_of (gt_nw (by assumption)) | (apply In_of; assumption) | refine In_up ?_ | refine In_nw ?_)); done) | refine gt_rd (by first | assumption | (apply Ne.symm; assumption) | (exact hj _ _ (by omega) (by omega) (by omega)) | omega) ?_ | exact gt_nw (by assumption) | refine gt_odr (by first | assumption | (apply Ne.symm; assumption) | omega) ?_)
      · first | rfl | assumption
      apply Ev.getr dX5_crossed_72 fX5_128
      · repeat (first | assumption | (refine gt_upI ?_; (repeat (first | exact In_of (gt_nw (by assumption)) | (apply In_of; assumption) | refine In_up ?_ | refine In_nw ?_)); done) | refine gt_rd (by first | assumption | (apply Ne.symm; assumption) | (exact hj _ _ (by omega) (by omega) (by omega)) | omega) ?_ | exact gt_nw (by assumption) | refine gt_odr (by first | assumption | (apply Ne.symm; assumption) | omega) ?_)
      · first | rfl | assumption
      refine Ev.ild1 dX5_crossed_75 ?_
      refine Ev.cvI (Yc := mX3_tell) (ci := 3) dX5_crossed_76 lX5_199 vX3_tell rfl (c_tell x11') ?_ rfl rfl rfl rfl ?_
      · apply Exists.intro; repeat (first | assumption | (refine gt_upI ?_; (repeat (first | exact In_of (gt_nw (by assumption)) | (apply In_of; assumption) | refine In_up ?_ | refine In_nw ?_)); done) | refine gt_rd (by first | assumption | (apply Ne.symm; assumption) | (exact hj _ _ (by omega) (by omega) (by omega)) | omega) ?_ | exact gt_nw (by assumption) | refine gt_odr (by first | assumption | (apply Ne.symm; assumption) | omega) ?_)
      rintro y2 M2 ⟨hy2, rfl⟩
      refine Ev.iret dX5_crossed_79 rfl rfl ?_
      rw [if_pos (show nI 0 = 0 by decide)] at hy2
      rw [an_crossed, if_pos (show nI 0 = 0 by decide)]
      rw [hy2, hg.1]
      exact ⟨Or.inl ⟨t1, rfl⟩, hKR⟩
    · refine Ev.lsw (off := 43) (tgt := 68) dX5_crossed_25 (by decide) (by decide) (by decide) ?_
      refine Ev.ald0 dX5_crossed_68 ?_
      apply Ev.getf dX5_crossed_69 fX5_31
      · repeat (first | assumption | (refine gt_upI ?_; (repeat (first | exact In_of (gt_nw (by assumption)) | (apply In_of; assumption) | refine In_up ?_ | refine In_nw ?_)); done) | refine gt_rd (by first | assumption | (apply Ne.symm; assumption) | (exact hj _ _ (by omega) (by omega) (by omega)) | omega) ?_ | exact gt_nw (by assumption) | refine gt_odr (by first | assumption | (apply Ne.symm; assumption) | omega) ?_)
      · first | rfl | assumption
      apply Ev.getr dX5_crossed_72 fX5_128
      · repeat (first | assumption | (refine gt_upI ?_; (repeat (first | exact In_of (gt_nw (by assumption)) | (apply In_of; assumption) | refine In_up ?_ | refine In_nw ?_)); done) | refine gt_rd (by first | assumption | (apply Ne.symm; assumption) | (exact hj _ _ (by omega) (by omega) (by omega)) | omega) ?_ | exact gt_nw (by assumption) | refine gt_odr (by first | assumption | (apply Ne.symm; assumption) | omega) ?_)
      · first | rfl | assumption
      refine Ev.ild1 dX5_crossed_75 ?_
      refine Ev.cvI (Yc := mX3_tell) (ci := 3) dX5_crossed_76 lX5_199 vX3_tell rfl (c_tell x11') ?_ rfl rfl rfl rfl ?_
      · apply Exists.intro; repeat (first | assumption | (refine gt_upI ?_; (repeat (first | exact In_of (gt_nw (by assumption)) | (apply In_of; assumption) | refine In_up ?_ | refine In_nw ?_)); done) | refine gt_rd (by first | assumption | (apply Ne.symm; assumption) | (exact hj _ _ (by omega) (by omega) (by omega)) | omega) ?_ | exact gt_nw (by assumption) | refine gt_odr (by first | assumption | (apply Ne.symm; assumption) | omega) ?_)
      rintro y2 M2 ⟨hy2, rfl⟩
      refine Ev.iret dX5_crossed_79 rfl rfl ?_
      rw [if_neg (show ¬ nI 1 = 0 by decide), if_pos (show nI 1 = 1 by decide)] at hy2
      rw [an_crossed, if_neg (show ¬ nI 1 = 0 by decide), if_pos (show nI 1 = 1 by decide)]
      rw [hy2, hg.2.1]
      exact ⟨Or.inl ⟨t1, rfl⟩, hKR⟩
    · refine Ev.lsw (off := 43) (tgt := 68) dX5_crossed_25 (by decide) (by decide) (by decide) ?_
      refine Ev.ald0 dX5_crossed_68 ?_
      apply Ev.getf dX5_crossed_69 fX5_31
      · repeat (first | assumption | (refine gt_upI ?_; (repeat (first | exact In_of (gt_nw (by assumption)) | (apply In_of; assumption) | refine In_up ?_ | refine In_nw ?_)); done) | refine gt_rd (by first | assumption | (apply Ne.symm; assumption) | (exact hj _ _ (by omega) (by omega) (by omega)) | omega) ?_ | exact gt_nw (by assumption) | refine gt_odr (by first | assumption | (apply Ne.symm; assumption) | omega) ?_)
      · first | rfl | assumption
      apply Ev.getr dX5_crossed_72 fX5_128
      · repeat (first | assumption | (refine gt_upI ?_; (repeat (first | exact In_of (gt_nw (by assumption)) | (apply In_of; assumption) | refine In_up ?_ | refine In_nw ?_)); done) | refine gt_rd (by first | assumption | (apply Ne.symm; assumption) | (exact hj _ _ (by omega) (by omega) (by omega)) | omega) ?_ | exact gt_nw (by assumption) | refine gt_odr (by first | assumption | (apply Ne.symm; assumption) | omega) ?_)
      · first | rfl | assumption
      refine Ev.ild1 dX5_crossed_75 ?_
      refine Ev.cvI (Yc := mX3_tell) (ci := 3) dX5_crossed_76 lX5_199 vX3_tell rfl (c_tell x11') ?_ rfl rfl rfl rfl ?_
      · apply Exists.intro; repeat (first | assumption | (refine gt_upI ?_; (repeat (first | exact In_of (gt_nw (by assumption)) | (apply In_of; assumption) | refine In_up ?_ | refine In_nw ?_)); done) | refine gt_rd (by first | assumption | (apply Ne.symm; assumption) | (exact hj _ _ (by omega) (by omega) (by omega)) | omega) ?_ | exact gt_nw (by assumption) | refine gt_odr (by first | assumption | (apply Ne.symm; assumption) | omega) ?_)
      rintro y2 M2 ⟨hy2, rfl⟩
      refine Ev.iret dX5_crossed_79 rfl rfl ?_
      rw [if_neg (show ¬ nI 2 = 0 by decide), if_neg (show ¬ nI 2 = 1 by decide), if_pos (show nI 2 = 2 by decide)] at hy2
      rw [an_crossed, if_neg (show ¬ nI 2 = 0 by decide), if_neg (show ¬ nI 2 = 1 by decide), if_pos (show nI 2 = 2 by decide)]
      rw [hy2, hg.2.2.1]
      exact ⟨Or.inl ⟨t1, rfl⟩, hKR⟩
    · refine Ev.lsw (off := 43) (tgt := 68) dX5_crossed_25 (by decide) (by decide) (by decide) ?_
      refine Ev.ald0 dX5_crossed_68 ?_
      apply Ev.getf dX5_crossed_69 fX5_31
      · repeat (first | assumption | (refine gt_upI ?_; (repeat (first | exact In_of (gt_nw (by assumption)) | (apply In_of; assumption) | refine In_up ?_ | refine In_nw ?_)); done) | refine gt_rd (by first | assumption | (apply Ne.symm; assumption) | (exact hj _ _ (by omega) (by omega) (by omega)) | omega) ?_ | exact gt_nw (by assumption) | refine gt_odr (by first | assumption | (apply Ne.symm; assumption) | omega) ?_)
      · first | rfl | assumption
      apply Ev.getr dX5_crossed_72 fX5_128
      · repeat (first | assumption | (refine gt_upI ?_; (repeat (first | exact In_of (gt_nw (by assumption)) | (apply In_of; assumption) | refine In_up ?_ | refine In_nw ?_)); done) | refine gt_rd (by first | assumption | (apply Ne.symm; assumption) | (exact hj _ _ (by omega) (by omega) (by omega)) | omega) ?_ | exact gt_nw (by assumption) | refine gt_odr (by first | assumption | (apply Ne.symm; assumption) | omega) ?_)
      · first | rfl | assumption
      refine Ev.ild1 dX5_crossed_75 ?_
      refine Ev.cvI (Yc := mX3_tell) (ci := 3) dX5_crossed_76 lX5_199 vX3_tell rfl (c_tell x11') ?_ rfl rfl rfl rfl ?_
      · apply Exists.intro; repeat (first | assumption | (refine gt_upI ?_; (repeat (first | exact In_of (gt_nw (by assumption)) | (apply In_of; assumption) | refine In_up ?_ | refine In_nw ?_)); done) | refine gt_rd (by first | assumption | (apply Ne.symm; assumption) | (exact hj _ _ (by omega) (by omega) (by omega)) | omega) ?_ | exact gt_nw (by assumption) | refine gt_odr (by first | assumption | (apply Ne.symm; assumption) | omega) ?_)
      rintro y2 M2 ⟨hy2, rfl⟩
      refine Ev.iret dX5_crossed_79 rfl rfl ?_
      have e3 : g1 3 = (if (xP (bas S) (-1)).1 < 0 then 0 else (xP (bas S) (-1)).2.1) := by
        rw [hg.2.2.2.1]
        by_cases c : (xP (bas S) (-1)).1 < 0
        · rw [if_pos c]; exact (hneg c).2
        · rw [if_neg c]
      rw [if_neg (show ¬ nI 3 = 0 by decide), if_neg (show ¬ nI 3 = 1 by decide), if_neg (show ¬ nI 3 = 2 by decide), if_pos (show nI 3 = 3 by decide)] at hy2
      rw [an_crossed, if_neg (show ¬ nI 3 = 0 by decide), if_neg (show ¬ nI 3 = 1 by decide), if_neg (show ¬ nI 3 = 2 by decide), if_pos (show nI 3 = 3 by decide)]
      rw [hy2, e3]
      exact ⟨Or.inl ⟨t1, rfl⟩, hKR⟩
    · refine Ev.lsw (off := 27) (tgt := 52) dX5_crossed_25 (by decide) (by decide) (by decide) ?_
      refine Ev.ald0 dX5_crossed_52 ?_
      apply Ev.getf dX5_crossed_53 fX5_31
      · repeat (first | assumption | (refine gt_upI ?_; (repeat (first | exact In_of (gt_nw (by assumption)) | (apply In_of; assumption) | refine In_up ?_ | refine In_nw ?_)); done) | refine gt_rd (by first | assumption | (apply Ne.symm; assumption) | (exact hj _ _ (by omega) (by omega) (by omega)) | omega) ?_ | exact gt_nw (by assumption) | refine gt_odr (by first | assumption | (apply Ne.symm; assumption) | omega) ?_)
      · first | rfl | assumption
      apply Ev.getf dX5_crossed_56 fX5_193
      · repeat (first | assumption | (refine gt_upI ?_; (repeat (first | exact In_of (gt_nw (by assumption)) | (apply In_of; assumption) | refine In_up ?_ | refine In_nw ?_)); done) | refine gt_rd (by first | assumption | (apply Ne.symm; assumption) | (exact hj _ _ (by omega) (by omega) (by omega)) | omega) ?_ | exact gt_nw (by assumption) | refine gt_odr (by first | assumption | (apply Ne.symm; assumption) | omega) ?_)
      · first | rfl | assumption
      refine Ev.iret dX5_crossed_59 rfl rfl ?_
      rw [an_crossed, if_neg (show ¬ nI 4 = 0 by decide), if_neg (show ¬ nI 4 = 1 by decide), if_neg (show ¬ nI 4 = 2 by decide), if_neg (show ¬ nI 4 = 3 by decide), if_pos (show nI 4 = 4 by decide)]
      exact ⟨Or.inl ⟨t1, rfl⟩, hKR⟩
    · refine Ev.lsw (off := 35) (tgt := 60) dX5_crossed_25 (by decide) (by decide) (by decide) ?_
      refine Ev.ald0 dX5_crossed_60 ?_
      apply Ev.getf dX5_crossed_61 fX5_31
      · repeat (first | assumption | (refine gt_upI ?_; (repeat (first | exact In_of (gt_nw (by assumption)) | (apply In_of; assumption) | refine In_up ?_ | refine In_nw ?_)); done) | refine gt_rd (by first | assumption | (apply Ne.symm; assumption) | (exact hj _ _ (by omega) (by omega) (by omega)) | omega) ?_ | exact gt_nw (by assumption) | refine gt_odr (by first | assumption | (apply Ne.symm; assumption) | omega) ?_)
      · first | rfl | assumption
      apply Ev.getf dX5_crossed_64 fX5_196
      · repeat (first | assumption | (refine gt_upI ?_; (repeat (first | exact In_of (gt_nw (by assumption)) | (apply In_of; assumption) | refine In_up ?_ | refine In_nw ?_)); done) | refine gt_rd (by first | assumption | (apply Ne.symm; assumption) | (exact hj _ _ (by omega) (by omega) (by omega)) | omega) ?_ | exact gt_nw (by assumption) | refine gt_odr (by first | assumption | (apply Ne.symm; assumption) | omega) ?_)
      · first | rfl | assumption
      refine Ev.iret dX5_crossed_67 rfl rfl ?_
      rw [cb2] at ho
      rw [an_crossed, if_neg (show ¬ nI 5 = 0 by decide), if_neg (show ¬ nI 5 = 1 by decide), if_neg (show ¬ nI 5 = 2 by decide), if_neg (show ¬ nI 5 = 3 by decide), if_neg (show ¬ nI 5 = 4 by decide), if_pos (show nI 5 = 5 by decide)]
      rw [ho]
      exact ⟨Or.inl ⟨t1, rfl⟩, hKR⟩
    · refine Ev.lsw (off := 43) (tgt := 68) dX5_crossed_25 (by decide) (by decide) (by decide) ?_
      refine Ev.ald0 dX5_crossed_68 ?_
      apply Ev.getf dX5_crossed_69 fX5_31
      · repeat (first | assumption | (refine gt_upI ?_; (repeat (first | exact In_of (gt_nw (by assumption)) | (apply In_of; assumption) | refine In_up ?_ | refine In_nw ?_)); done) | refine gt_rd (by first | assumption | (apply Ne.symm; assumption) | (exact hj _ _ (by omega) (by omega) (by omega)) | omega) ?_ | exact gt_nw (by assumption) | refine gt_odr (by first | assumption | (apply Ne.symm; assumption) | omega) ?_)
      · first | rfl | assumption
      apply Ev.getr dX5_crossed_72 fX5_128
      · repeat (first | assumption | (refine gt_upI ?_; (repeat (first | exact In_of (gt_nw (by assumption)) | (apply In_of; assumption) | refine In_up ?_ | refine In_nw ?_)); done) | refine gt_rd (by first | assumption | (apply Ne.symm; assumption) | (exact hj _ _ (by omega) (by omega) (by omega)) | omega) ?_ | exact gt_nw (by assumption) | refine gt_odr (by first | assumption | (apply Ne.symm; assumption) | omega) ?_)
      · first | rfl | assumption
      refine Ev.ild1 dX5_crossed_75 ?_
      refine Ev.cvI (Yc := mX3_tell) (ci := 3) dX5_crossed_76 lX5_199 vX3_tell rfl (c_tell x11') ?_ rfl rfl rfl rfl ?_
      · apply Exists.intro; repeat (first | assumption | (refine gt_upI ?_; (repeat (first | exact In_of (gt_nw (by assumption)) | (apply In_of; assumption) | refine In_up ?_ | refine In_nw ?_)); done) | refine gt_rd (by first | assumption | (apply Ne.symm; assumption) | (exact hj _ _ (by omega) (by omega) (by omega)) | omega) ?_ | exact gt_nw (by assumption) | refine gt_odr (by first | assumption | (apply Ne.symm; assumption) | omega) ?_)
      rintro y2 M2 ⟨hy2, rfl⟩
      refine Ev.iret dX5_crossed_79 rfl rfl ?_
      rw [if_neg (show ¬ nI 6 = 0 by decide), if_neg (show ¬ nI 6 = 1 by decide), if_neg (show ¬ nI 6 = 2 by decide), if_neg (show ¬ nI 6 = 3 by decide)] at hy2
      rw [an_crossed, if_neg (show ¬ nI 6 = 0 by decide), if_neg (show ¬ nI 6 = 1 by decide), if_neg (show ¬ nI 6 = 2 by decide), if_neg (show ¬ nI 6 = 3 by decide), if_neg (show ¬ nI 6 = 4 by decide), if_neg (show ¬ nI 6 = 5 by decide)]
      rw [hy2, hg.2.2.2.2]
      exact ⟨Or.inl ⟨t1, rfl⟩, hKR⟩
  · exact Ev.thr (by decide) (by decide) (by decide) ⟨Or.inr ⟨if1_f hy c7, rfl⟩, q, na, hC0, SQ.rf, Fr.rf⟩
set_option maxRecDepth 20000 in
theorem e_past {i k : Int32} (hC : CR q na S M) (hc : S.2.2.2.2.2 < 100000) : Ev G mX5_past 0 [some (.ref (q 0)), some (.int i), some (.int k)] [] M 1 6 (QX (pok S i k) (an_past S i k) q S M) := by
  have hC0 := hC
  obtain ⟨⟨hj, hna⟩, h0, ⟨-, -, g, h4, h5⟩, -⟩ := hC
  have hKR : KR q S M M := ⟨q, na, hC0, SQ.rf, Fr.rf⟩
  have em : (if (8 : Int32) < nI S.2.2.2.2.2 then (8 : Int32) else nI S.2.2.2.2.2) = nI (min 8 S.2.2.2.2.2) := by
    have : (8 : Int32) < nI S.2.2.2.2.2 ↔ 8 < S.2.2.2.2.2 := nI_ltI (a := 8) (b := S.2.2.2.2.2) (by omega) (by omega)
    by_cases c : 8 < S.2.2.2.2.2
    · rw [if_pos (this.mpr c), Nat.min_eq_left (by omega)]
      rfl
    · rw [if_neg (fun z => c (this.mp z)), Nat.min_eq_right (by omega)]
  refine Ev.ild1 dX5_past_0 ?_
  refine Ev.iconst (v := 0) dX5_past_1 (by decide) ?_
  refine Ev.ald0 dX5_past_2 ?_
  apply Ev.getf dX5_past_3 fX5_50
  · repeat (first | assumption | (refine gt_upI ?_; (repeat (first | exact In_of (gt_nw (by assumption)) | (apply In_of; assumption) | refine In_up ?_ | refine In_nw ?_)); done) | refine gt_rd (by first | assumption | (apply Ne.symm; assumption) | (exact hj _ _ (by omega) (by omega) (by omega)) | omega) ?_ | exact gt_nw (by assumption) | refine gt_odr (by first | assumption | (apply Ne.symm; assumption) | omega) ?_)
  · first | rfl | assumption
  refine Ev.bipush (v := 8) dX5_past_6 (by decide) ?_
  refine Ev.min dX5_past_8 lX5_253 rfl rfl ?_
  refine Ev.iconst (v := 1) dX5_past_11 (by decide) ?_
  refine Ev.isub dX5_past_12 ?_
  rw [em]
  refine Ev.csI (Yc := mX5_within) dX5_past_13 lX5_76 vX5_within rfl k_within rfl rfl rfl ?_
  rintro y M' ⟨hy, rfl⟩
  refine Ev.if_eq (tgt := 28) dX5_past_16 (by decide) (fun c16 => ?_) (fun c16 => ?_)
  · exact Ev.thr (by decide) (by decide) (by decide) ⟨Or.inr ⟨fun z => if1_f hy c16 z.1, rfl⟩, hKR⟩
  · have t1 := if1_t hy c16
    refine Ev.ild2 dX5_past_19 ?_
    refine Ev.iconst (v := 0) dX5_past_20 (by decide) ?_
    refine Ev.iconst (v := 3) dX5_past_21 (by decide) ?_
    refine Ev.csI (Yc := mX5_within) dX5_past_22 lX5_76 vX5_within rfl k_within rfl rfl rfl ?_
    rintro y2 M' ⟨hy2, rfl⟩
    refine Ev.if_ne (tgt := 39) dX5_past_25 (by decide) (fun c25 => ?_) (fun c25 => ?_)
    · have t2 := if1_t hy2 c25
      have hpos : 1 ≤ min 8 S.2.2.2.2.2 := by
        by_cases w : min 8 S.2.2.2.2.2 = 0
        · rw [w] at t1
          have := Int32.le_trans t1.1 t1.2
          exact absurd this (by decide)
        · omega
      have e1 : nI (min 8 S.2.2.2.2.2) - 1 = nI (min 8 S.2.2.2.2.2 - 1) := nI_subI (b := 1) hpos
      obtain ⟨a, ha, rfl⟩ : ∃ a, a ≤ min 8 S.2.2.2.2.2 - 1 ∧ i = nI a := int_le (by omega) t1.1 (by rw [← e1]; exact t1.2)
      obtain ⟨b, hb, rfl⟩ : ∃ b, b ≤ 3 ∧ k = nI b := int_le (c := 3) (by omega) t2.1 t2.2
      have ei : nI a * 4 + nI b = nI (4 * a + b) := by
        have := pk_mul a 4
        rw [show nI 4 = 4 from rfl] at this
        rw [this, nI_add, Nat.mul_comm]
      refine Ev.ald0 dX5_past_39 ?_
      apply Ev.getf dX5_past_40 fX5_46
      · repeat (first | assumption | (refine gt_upI ?_; (repeat (first | exact In_of (gt_nw (by assumption)) | (apply In_of; assumption) | refine In_up ?_ | refine In_nw ?_)); done) | refine gt_rd (by first | assumption | (apply Ne.symm; assumption) | (exact hj _ _ (by omega) (by omega) (by omega)) | omega) ?_ | exact gt_nw (by assumption) | refine gt_odr (by first | assumption | (apply Ne.symm; assumption) | omega) ?_)
      · first | rfl | assumption
      refine Ev.ild1 dX5_past_43 ?_
      refine Ev.iconst (v := 4) dX5_past_44 (by decide) ?_
      refine Ev.imul dX5_past_45 ?_
      refine Ev.ild2 dX5_past_46 ?_
      refine Ev.iadd dX5_past_47 ?_
      rw [ei]
      apply Ev.iald dX5_past_48
      · repeat (first | assumption | (refine gt_upI ?_; (repeat (first | exact In_of (gt_nw (by assumption)) | (apply In_of; assumption) | refine In_up ?_ | refine In_nw ?_)); done) | refine gt_rd (by first | assumption | (apply Ne.symm; assumption) | (exact hj _ _ (by omega) (by omega) (by omega)) | omega) ?_ | exact gt_nw (by assumption) | refine gt_odr (by first | assumption | (apply Ne.symm; assumption) | omega) ?_)
      · exact vp_in_nI (by omega) (by omega)
      refine Ev.iret dX5_past_49 rfl rfl ?_
      refine ⟨Or.inl ⟨⟨t1, t2⟩, ?_⟩, hKR⟩
      rw [nI_clamp (by omega), an_past, nI_clamp (by omega), nI_clamp (by omega), h5 _ (by omega)]
    · exact Ev.thr (by decide) (by decide) (by decide) ⟨Or.inr ⟨fun z => if1_f hy2 c25 z.2, rfl⟩, hKR⟩
end THR
