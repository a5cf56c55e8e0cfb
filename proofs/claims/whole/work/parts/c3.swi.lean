/-! swings -/
section SWI
variable {G : GP} {M : Wd} {q : Nat → Nat} {na : Nat} {S : Sg}
theorem k_rerun {h rr : Nat} {b : Nat → Int32} {x : Int32} (hb : BW 41 b) (hX : CX5 q h rr b x M) (x' : Int32) : CtV G mX0_run [.ref (q 13), .int x'] M 0 0 (fun M' => Fr (afr (aq q)) M M' ∧ AWc (aq q) M' ∧ CX5 q h rr b x' M') := by
  obtain ⟨f, r, l0, l1, D, i3, tr, hH, hCO, hRD, hj, ⟨z, z1, z2, z3⟩, r', w', ph, hB⟩ := hX
  have hB0 := hB
  have e0 : b 330 = nI r := by
    obtain ⟨so, po, tc, cn, tu, s0, s1, hs, hO, -⟩ := hH
    exact hO.h330
  rw [e0, hb.2.2.2.1, hb.2.2.2.2.1] at hB
  have nb : ∀ i, i < 20 → i ∉ [0, 1, 2, 3, 6, 7, 10, 11, 15, 16, 17, 18] → AD (aq q) h rr i ∉ afr (aq q) := fun i hi hn => nin (js := [0, 1, 2, 3, 6, 7, 10, 11, 15, 16, 17, 18]) hj hi (by decide) hn
  refine (c_run (G := G) (x := x') hj hH hB z1 z2 z3).imp ?_
  rintro M2 ⟨⟨D', h1, h2, h3⟩, hF2⟩
  exact ⟨hF2, h1.aw, f, r, l0, l1, D', i3, tr, h1, h2, h3, hj, ⟨z, hF2.rd (nb 14 (by decide) (by decide)) z1, z2, z3⟩, r', w', ph, hF2.rd (nb 13 (by decide) (by decide)) hB0⟩
set_option maxRecDepth 20000 in
theorem k_swings (hC : CR q na S M) (hS : Sok S) : CtL G mX5_swings [.ref (q 0)] M 0 0 (fun x M' => x = an_swings S ∧ KR q S M M') := by
  have hC0 := hC
  obtain ⟨⟨hj, hna⟩, h0, h1, h2, hA, ⟨f, g, g40, g41, g42, gf, gw⟩, -⟩ := hC
  have hn := hS.1.1.2.1
  have LL : S.1.1 329 ≠ 2 → ∀ d k : Nat, k + d = bn S.1.1 → ∀ (M1 : Wd) (x : Int32), CR q na S M1 → CX5 q (q 40) (q 41) S.1.1 x M1 → Fr (qfr q) M M1 → Ev G mX5_swings 33 [some (.ref (q 0)), some (.int (xP S.1.1 (-1)).1), some (.long (swg S.1.1 (xP S.1.1 (-1)).1 k)), none, some (.int (nI k))] [] M1 0 0 (fun v M' => ∃ x : Int64, v = some (.long x) ∧ x = an_swings S ∧ KR q S M M') := by
    intro h9 d
    induction d with
    | zero =>
      intro k hk M1 x hC1 hX1 hF1
      have k0 := hC1.2.1
      obtain ⟨f1, g1, k40, -⟩ := hC1.2.2.2.2.2.1
      refine Ev.ild4 dX5_swings_33 ?_
      refine Ev.ald0 dX5_swings_35 ?_
      apply Ev.getf dX5_swings_36 fX5_19
      · repeat (first | assumption | (refine gt_upI ?_; (repeat (first | exact In_of (gt_nw (by assumption)) | (apply In_of; assumption) | refine In_up ?_ | refine In_nw ?_)); done) | refine gt_rd (by first | assumption | (apply Ne.symm; assumption) | (exact hj _ _ (by omega) (by omega) (by omega)) | omega) ?_ | exact gt_nw (by assumption) | refine gt_odr (by first | assumption | (apply Ne.symm; assumption) | omega) ?_)
      · first | rfl | assumption
      apply Ev.getf dX5_swings_39 fX5_71
      · repeat (first | assumption | (refine gt_upI ?_; (repeat (first | exact In_of (gt_nw (by assumption)) | (apply In_of; assumption) | refine In_up ?_ | refine In_nw ?_)); done) | refine gt_rd (by first | assumption | (apply Ne.symm; assumption) | (exact hj _ _ (by omega) (by omega) (by omega)) | omega) ?_ | exact gt_nw (by assumption) | refine gt_odr (by first | assumption | (apply Ne.symm; assumption) | omega) ?_)
      · first | rfl | assumption
      refine Ev.icmp_ge (tgt := 97) dX5_swings_42 (by decide) (fun c9 => ?_) (fun c9 => absurd (nI_le (by omega) (by omega)) c9)
      refine Ev.lld2 dX5_swings_97 ?_
      refine Ev.lret dX5_swings_98 rfl ?_
      rw [an_swings, if_neg h9, show bn S.1.1 = k by omega]
      exact ⟨_, rfl, rfl, q, na, hC1, SQ.rf, hF1⟩
    | succ d ih =>
      intro k hk M1 x hC1 hX1 hF1
      have k0 := hC1.2.1
      obtain ⟨f1, g1, k40, k41, k42, kf, kw⟩ := hC1.2.2.2.2.2.1
      have hkn : k < bn S.1.1 := by omega
      obtain ⟨fs1, k13⟩ := hC1.2.2.2.2.1.ob
      have k13' : gt M1 (q 13) = some (ob 0 fs1) := k13
      have hg := hS.1.1.2.2.1.g01 hkn
      have e7 := kf.at (i := 7) hkn (by decide)
      refine Ev.ild4 dX5_swings_33 ?_
      refine Ev.ald0 dX5_swings_35 ?_
      apply Ev.getf dX5_swings_36 fX5_19
      · repeat (first | assumption | (refine gt_upI ?_; (repeat (first | exact In_of (gt_nw (by assumption)) | (apply In_of; assumption) | refine In_up ?_ | refine In_nw ?_)); done) | refine gt_rd (by first | assumption | (apply Ne.symm; assumption) | (exact hj _ _ (by omega) (by omega) (by omega)) | omega) ?_ | exact gt_nw (by assumption) | refine gt_odr (by first | assumption | (apply Ne.symm; assumption) | omega) ?_)
      · first | rfl | assumption
      apply Ev.getf dX5_swings_39 fX5_71
      · repeat (first | assumption | (refine gt_upI ?_; (repeat (first | exact In_of (gt_nw (by assumption)) | (apply In_of; assumption) | refine In_up ?_ | refine In_nw ?_)); done) | refine gt_rd (by first | assumption | (apply Ne.symm; assumption) | (exact hj _ _ (by omega) (by omega) (by omega)) | omega) ?_ | exact gt_nw (by assumption) | refine gt_odr (by first | assumption | (apply Ne.symm; assumption) | omega) ?_)
      · first | rfl | assumption
      refine Ev.icmp_ge (tgt := 97) dX5_swings_42 (by decide) (fun c9 => absurd c9 (nI_ge (by omega) (by omega))) (fun c9 => ?_)
      refine Ev.ald0 dX5_swings_45 ?_
      apply Ev.getf dX5_swings_46 fX5_19
      · repeat (first | assumption | (refine gt_upI ?_; (repeat (first | exact In_of (gt_nw (by assumption)) | (apply In_of; assumption) | refine In_up ?_ | refine In_nw ?_)); done) | refine gt_rd (by first | assumption | (apply Ne.symm; assumption) | (exact hj _ _ (by omega) (by omega) (by omega)) | omega) ?_ | exact gt_nw (by assumption) | refine gt_odr (by first | assumption | (apply Ne.symm; assumption) | omega) ?_)
      · first | rfl | assumption
      refine Ev.ild4 dX5_swings_49 ?_
      refine Ev.cvI (Yc := mX2_stands) (ci := 2) dX5_swings_51 lX5_93 vX2_stands rfl (c_standsN k rfl hkn k40 k41 (by omega)) ?_ rfl rfl rfl rfl ?_
      · apply Exists.intro; repeat (first | assumption | (refine gt_upI ?_; (repeat (first | exact In_of (gt_nw (by assumption)) | (apply In_of; assumption) | refine In_up ?_ | refine In_nw ?_)); done) | refine gt_rd (by first | assumption | (apply Ne.symm; assumption) | (exact hj _ _ (by omega) (by omega) (by omega)) | omega) ?_ | exact gt_nw (by assumption) | refine gt_odr (by first | assumption | (apply Ne.symm; assumption) | omega) ?_)
      rintro y M2 ⟨hy, rfl⟩
      refine Ev.if_eq (tgt := 91) dX5_swings_54 (by decide) (fun c54 => ?_) (fun c54 => ?_)
      · have n7 := if1_f hy c54
        rw [e7] at n7
        have es : swg S.1.1 (xP S.1.1 (-1)).1 (k + 1) = swg S.1.1 (xP S.1.1 (-1)).1 k := by
          rw [swg, if_neg (fun z => n7 (hg.mp z.1)), Int64.or_zero]
        apply Ev.iinc4 dX5_swings_91 rfl rfl
        · first | exact nI_inc _ | rfl
        refine Ev.goto (tgt := 33) dX5_swings_94 (by decide) ?_
        rw [← es]
        exact ih (k + 1) (by omega) _ x hC1 hX1 hF1
      · have p7 := if1_t hy c54
        rw [e7] at p7
        refine Ev.ald0 dX5_swings_57 ?_
        apply Ev.getf dX5_swings_58 fX5_31
        · repeat (first | assumption | (refine gt_upI ?_; (repeat (first | exact In_of (gt_nw (by assumption)) | (apply In_of; assumption) | refine In_up ?_ | refine In_nw ?_)); done) | refine gt_rd (by first | assumption | (apply Ne.symm; assumption) | (exact hj _ _ (by omega) (by omega) (by omega)) | omega) ?_ | exact gt_nw (by assumption) | refine gt_odr (by first | assumption | (apply Ne.symm; assumption) | omega) ?_)
        · first | rfl | assumption
        refine Ev.ild4 dX5_swings_61 ?_
        refine Ev.cvV (Yc := mX0_run) (ci := 0) dX5_swings_63 lX5_241 vX0_run rfl (k_rerun (hS.1.1.mono (by decide)) hX1 (nI k)) ?_ rfl rfl rfl rfl ?_
        · apply Exists.intro; repeat (first | assumption | (refine gt_upI ?_; (repeat (first | exact In_of (gt_nw (by assumption)) | (apply In_of; assumption) | refine In_up ?_ | refine In_nw ?_)); done) | refine gt_rd (by first | assumption | (apply Ne.symm; assumption) | (exact hj _ _ (by omega) (by omega) (by omega)) | omega) ?_ | exact gt_nw (by assumption) | refine gt_odr (by first | assumption | (apply Ne.symm; assumption) | omega) ?_)
        rintro M3 ⟨hF3, hA3, hX3⟩
        have hC3 := hC1.au hF3 hA3
        have l0 := hC3.2.1
        obtain ⟨g3, i1, i2, i3, i4, x13, x11, e0, -, -⟩ := hX3.pr
        have x11' : gt M3 (AD (aq q) (q 40) (q 41) 1) = some (cc g3) := x11
        have hF4 := hF1.tr (Fr.q (js := afj) hF3 (by decide))
        refine Ev.lld2 dX5_swings_66 ?_
        refine Ev.ald0 dX5_swings_67 ?_
        apply Ev.getf dX5_swings_68 fX5_31
        · repeat (first | assumption | (refine gt_upI ?_; (repeat (first | exact In_of (gt_nw (by assumption)) | (apply In_of; assumption) | refine In_up ?_ | refine In_nw ?_)); done) | refine gt_rd (by first | assumption | (apply Ne.symm; assumption) | (exact hj _ _ (by omega) (by omega) (by omega)) | omega) ?_ | exact gt_nw (by assumption) | refine gt_odr (by first | assumption | (apply Ne.symm; assumption) | omega) ?_)
        · first | rfl | assumption
        apply Ev.getr dX5_swings_71 fX5_128
        · repeat (first | assumption | (refine gt_upI ?_; (repeat (first | exact In_of (gt_nw (by assumption)) | (apply In_of; assumption) | refine In_up ?_ | refine In_nw ?_)); done) | refine gt_rd (by first | assumption | (apply Ne.symm; assumption) | (exact hj _ _ (by omega) (by omega) (by omega)) | omega) ?_ | exact gt_nw (by assumption) | refine gt_odr (by first | assumption | (apply Ne.symm; assumption) | omega) ?_)
        · first | rfl | assumption
        apply Ev.getf dX5_swings_74 fX5_137
        · repeat (first | assumption | (refine gt_upI ?_; (repeat (first | exact In_of (gt_nw (by assumption)) | (apply In_of; assumption) | refine In_up ?_ | refine In_nw ?_)); done) | refine gt_rd (by first | assumption | (apply Ne.symm; assumption) | (exact hj _ _ (by omega) (by omega) (by omega)) | omega) ?_ | exact gt_nw (by assumption) | refine gt_odr (by first | assumption | (apply Ne.symm; assumption) | omega) ?_)
        · first | rfl | assumption
        refine Ev.ild1 dX5_swings_77 ?_
        refine Ev.icmp_eq (tgt := 88) dX5_swings_78 (by decide) (fun c78 => ?_) (fun c78 => ?_)
        · have es : swg S.1.1 (xP S.1.1 (-1)).1 (k + 1) = swg S.1.1 (xP S.1.1 (-1)).1 k ||| 0 := by
            rw [swg, if_neg (fun z => z.2 (by rw [← e0]; exact c78))]
          refine Ev.lconst (v := 0) dX5_swings_88 (by decide) ?_
          refine Ev.lor dX5_swings_89 ?_
          refine Ev.lst2 dX5_swings_90 rfl rfl ?_
          apply Ev.iinc4 dX5_swings_91 rfl rfl
          · first | exact nI_inc _ | rfl
          refine Ev.goto (tgt := 33) dX5_swings_94 (by decide) ?_
          rw [← es]
          exact ih (k + 1) (by omega) _ _ hC3 hX3 hF4
        · have es : swg S.1.1 (xP S.1.1 (-1)).1 (k + 1) = swg S.1.1 (xP S.1.1 (-1)).1 k ||| ((1 : Int64) <<< ((nI k).toInt64 &&& 63)) := by
            rw [swg, if_pos ⟨hg.mpr p7, fun z => c78 (by rw [e0]; exact z)⟩]
          refine Ev.lconst (v := 1) dX5_swings_81 (by decide) ?_
          refine Ev.ild4 dX5_swings_82 ?_
          refine Ev.lshl dX5_swings_84 ?_
          refine Ev.goto (tgt := 89) dX5_swings_85 (by decide) ?_
          refine Ev.lor dX5_swings_89 ?_
          refine Ev.lst2 dX5_swings_90 rfl rfl ?_
          apply Ev.iinc4 dX5_swings_91 rfl rfl
          · first | exact nI_inc _ | rfl
          refine Ev.goto (tgt := 33) dX5_swings_94 (by decide) ?_
          rw [← es]
          exact ih (k + 1) (by omega) _ _ hC3 hX3 hF4
  refine Ct.of (ls := [some (.ref (q 0)), none, none, none, none]) (by decide) (by decide) rfl rfl rfl ?_
  refine Ev.ald0 dX5_swings_0 ?_
  apply Ev.getf dX5_swings_1 fX5_19
  · repeat (first | assumption | (refine gt_upI ?_; (repeat (first | exact In_of (gt_nw (by assumption)) | (apply In_of; assumption) | refine In_up ?_ | refine In_nw ?_)); done) | refine gt_rd (by first | assumption | (apply Ne.symm; assumption) | (exact hj _ _ (by omega) (by omega) (by omega)) | omega) ?_ | exact gt_nw (by assumption) | refine gt_odr (by first | assumption | (apply Ne.symm; assumption) | omega) ?_)
  · first | rfl | assumption
  apply Ev.getf dX5_swings_4 fX5_80
  · repeat (first | assumption | (refine gt_upI ?_; (repeat (first | exact In_of (gt_nw (by assumption)) | (apply In_of; assumption) | refine In_up ?_ | refine In_nw ?_)); done) | refine gt_rd (by first | assumption | (apply Ne.symm; assumption) | (exact hj _ _ (by omega) (by omega) (by omega)) | omega) ?_ | exact gt_nw (by assumption) | refine gt_odr (by first | assumption | (apply Ne.symm; assumption) | omega) ?_)
  · first | rfl | assumption
  refine Ev.iconst (v := 2) dX5_swings_7 (by decide) ?_
  refine Ev.icmp_ne (tgt := 13) dX5_swings_8 (by decide) (fun c8 => ?_) (fun c8 => ?_)
  · refine Ev.ald0 dX5_swings_13 ?_
    refine Ev.cvV (Yc := mX5_runCross) (ci := 5) dX5_swings_14 lX5_112 vX5_runCross rfl (k_runCross hC0 hS) ?_ rfl rfl rfl rfl ?_
    · apply Exists.intro; repeat (first | assumption | (refine gt_upI ?_; (repeat (first | exact In_of (gt_nw (by assumption)) | (apply In_of; assumption) | refine In_up ?_ | refine In_nw ?_)); done) | refine gt_rd (by first | assumption | (apply Ne.symm; assumption) | (exact hj _ _ (by omega) (by omega) (by omega)) | omega) ?_ | exact gt_nw (by assumption) | refine gt_odr (by first | assumption | (apply Ne.symm; assumption) | omega) ?_)
    rintro M1 ⟨hF, hC1, hX⟩
    rw [if_neg c8, show bas S = S.1.1 from if_neg c8] at hX
    have k0 := hC1.2.1
    obtain ⟨g3, i1, i2, i3, i4, x13, x11, e0, -, -⟩ := hX.pr
    have x11' : gt M1 (AD (aq q) (q 40) (q 41) 1) = some (cc g3) := x11
    refine Ev.ald0 dX5_swings_17 ?_
    apply Ev.getf dX5_swings_18 fX5_31
    · repeat (first | assumption | (refine gt_upI ?_; (repeat (first | exact In_of (gt_nw (by assumption)) | (apply In_of; assumption) | refine In_up ?_ | refine In_nw ?_)); done) | refine gt_rd (by first | assumption | (apply Ne.symm; assumption) | (exact hj _ _ (by omega) (by omega) (by omega)) | omega) ?_ | exact gt_nw (by assumption) | refine gt_odr (by first | assumption | (apply Ne.symm; assumption) | omega) ?_)
    · first | rfl | assumption
    apply Ev.getr dX5_swings_21 fX5_128
    · repeat (first | assumption | (refine gt_upI ?_; (repeat (first | exact In_of (gt_nw (by assumption)) | (apply In_of; assumption) | refine In_up ?_ | refine In_nw ?_)); done) | refine gt_rd (by first | assumption | (apply Ne.symm; assumption) | (exact hj _ _ (by omega) (by omega) (by omega)) | omega) ?_ | exact gt_nw (by assumption) | refine gt_odr (by first | assumption | (apply Ne.symm; assumption) | omega) ?_)
    · first | rfl | assumption
    apply Ev.getf dX5_swings_24 fX5_137
    · repeat (first | assumption | (refine gt_upI ?_; (repeat (first | exact In_of (gt_nw (by assumption)) | (apply In_of; assumption) | refine In_up ?_ | refine In_nw ?_)); done) | refine gt_rd (by first | assumption | (apply Ne.symm; assumption) | (exact hj _ _ (by omega) (by omega) (by omega)) | omega) ?_ | exact gt_nw (by assumption) | refine gt_odr (by first | assumption | (apply Ne.symm; assumption) | omega) ?_)
    · first | rfl | assumption
    refine Ev.ist1 dX5_swings_27 rfl rfl ?_
    refine Ev.lconst (v := 0) dX5_swings_28 (by decide) ?_
    refine Ev.lst2 dX5_swings_29 rfl rfl ?_
    refine Ev.iconst (v := 0) dX5_swings_30 (by decide) ?_
    refine Ev.ist4 dX5_swings_31 rfl rfl ?_
    rw [e0]
    exact LL c8 (bn S.1.1) 0 (by omega) M1 (-1) hC1 hX (Fr.q (js := afj) hF (by decide))
  · refine Ev.lconst (v := 0) dX5_swings_11 (by decide) ?_
    refine Ev.lret dX5_swings_12 rfl ?_
    have c8' : S.1.1 329 = 2 := c8
    rw [an_swings, if_pos c8']
    exact ⟨_, rfl, rfl, q, na, hC0, SQ.rf, Fr.rf⟩
end SWI
