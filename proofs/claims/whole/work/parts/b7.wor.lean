/-! unless the rest is worse; without -/
section WOR
variable {G : GP} {M : Wd} {q : Nat → Nat} {na : Nat} {S : Sg}
theorem st_cch {b f : Nat → Int32} {o : Int32} (hB : BW 40 b) (hf : Ar (bn b) f b) (h9 : b 329 ≠ 2) {k : Nat} (hk : k < bn b) (ho : o = nI k) (h7 : f (8 * k + 7) = 0) : cch b o := by
  have hn := hB.2.1
  have e : o.toNatClampNeg = k := by rw [ho]; exact nI_clamp (by omega)
  refine ⟨⟨by rw [ho]; exact nI_pos' (by omega), by rw [ho, hB.1]; exact (nI_ltI (by omega) (by omega)).mpr hk⟩, ?_, h9⟩
  rw [e]
  refine (hB.2.2.1.g01 hk).mpr ?_
  rw [← hf.at (i := 7) hk (by decide)]
  exact h7
theorem st_ncch {b f : Nat → Int32} {o : Int32} (hB : BW 40 b) (hf : Ar (bn b) f b) (h : ∀ k, k < bn b → o = nI k → f (8 * k + 7) ≠ 0) : ¬ cch b o := by
  rintro ⟨⟨h1, h2⟩, h3, -⟩
  have hn := hB.2.1
  rw [hB.1] at h2
  obtain ⟨k, hk, ho⟩ := nI_in_of h1 h2 (by omega)
  have e : o.toNatClampNeg = k := by rw [ho]; exact nI_clamp (by omega)
  rw [e] at h3
  refine h k hk ho ?_
  rw [hf.at (i := 7) hk (by decide)]
  exact (hB.2.2.1.g01 hk).mp h3
theorem AWc.ob {ac : Nat → Nat} (h : AWc ac M) : ∃ fs, gt M (ac 3) = some (ob 0 fs) := by
  obtain ⟨so, po, t0, r0, i1, i2, i3, i4, ov, hp, vo, re, t, g, fl, tr, sa, cn, tu, s0, s1, p0, p1, hs, q3, -⟩ := h
  exact ⟨_, q3⟩
theorem CX5.pr {b : Nat → Int32} {h rr : Nat} {x : Int32} (hX : CX5 q h rr b x M) : ∃ (g : Nat → Int32) (i1 i2 i3 i4 : Int32), gt M (q 13) = some (auc (AD (aq q) h rr) i1 i2 i3 i4) ∧ gt M (q 11) = some (cc g) ∧ g 0 = (xP b x).1 ∧ g 1 = xV b x ∧ g 2 = xR b x := by
  obtain ⟨f1, sa, g1, fl, z, i4, i3, x13, x11, x12, x17, xr, z1, z2, ar, hg, -⟩ := hX.get
  exact ⟨g1, _, _, _, _, x13, x11, hg.1, hg.2.1, hg.2.2.1⟩
set_option maxRecDepth 20000 in
theorem k_without {o : Int32} (hC : CR q na S M) (hS : Sok S) : CtI G mX5_without [.ref (q 0), .int o] M 0 0 (fun x M' => x = an_without S o ∧ KR q S M M') := by
  have hC0 := hC
  obtain ⟨⟨hj, hna⟩, h0, h1, h2, hA, ⟨f, g, g40, g41, g42, gf, gw⟩, -⟩ := hC
  have hn := hS.1.1.2.1
  obtain ⟨fs, h13⟩ := hA.ob
  have h13' : gt M (q 13) = some (ob 0 fs) := h13
  have no : ¬ cch S.1.1 o → Ev G mX5_without 22 [some (.ref (q 0)), some (.int o)] [] M 0 0 (fun v M' => ∃ x : Int32, v = some (.int x) ∧ x = an_without S o ∧ KR q S M M') := by
    intro hno
    refine Ev.bipush (v := -2) dX5_without_22 (by decide) ?_
    refine Ev.iret dX5_without_24 rfl rfl ?_
    rw [an_without, if_neg hno]
    exact ⟨_, rfl, rfl, q, na, hC0, SQ.rf, Fr.rf⟩
  refine Ct.of (ls := [some (.ref (q 0)), some (.int o)]) (by decide) (by decide) rfl rfl rfl ?_
  refine Ev.ald0 dX5_without_0 ?_
  apply Ev.getf dX5_without_1 fX5_19
  · repeat (first | assumption | (refine gt_upI ?_; (repeat (first | exact In_of (gt_nw (by assumption)) | (apply In_of; assumption) | refine In_up ?_ | refine In_nw ?_)); done) | refine gt_rd (by first | assumption | (apply Ne.symm; assumption) | (exact hj _ _ (by omega) (by omega) (by omega)) | omega) ?_ | exact gt_nw (by assumption) | refine gt_odr (by first | assumption | (apply Ne.symm; assumption) | omega) ?_)
  · first | rfl | assumption
  apply Ev.getf dX5_without_4 fX5_80
  · repeat (first | assumption | (refine gt_upI ?_; (repeat (first | exact In_of (gt_nw (by assumption)) | (apply In_of; assumption) | refine In_up ?_ | refine In_nw ?_)); done) | refine gt_rd (by first | assumption | (apply Ne.symm; assumption) | (exact hj _ _ (by omega) (by omega) (by omega)) | omega) ?_ | exact gt_nw (by assumption) | refine gt_odr (by first | assumption | (apply Ne.symm; assumption) | omega) ?_)
  · first | rfl | assumption
  refine Ev.iconst (v := 2) dX5_without_7 (by decide) ?_
  refine Ev.icmp_eq (tgt := 22) dX5_without_8 (by decide) (fun c8 => ?_) (fun c8 => ?_)
  · exact no (fun z => z.2.2 c8)
  · refine Ev.ald0 dX5_without_11 ?_
    apply Ev.getf dX5_without_12 fX5_19
    · repeat (first | assumption | (refine gt_upI ?_; (repeat (first | exact In_of (gt_nw (by assumption)) | (apply In_of; assumption) | refine In_up ?_ | refine In_nw ?_)); done) | refine gt_rd (by first | assumption | (apply Ne.symm; assumption) | (exact hj _ _ (by omega) (by omega) (by omega)) | omega) ?_ | exact gt_nw (by assumption) | refine gt_odr (by first | assumption | (apply Ne.symm; assumption) | omega) ?_)
    · first | rfl | assumption
    refine Ev.ild1 dX5_without_15 ?_
    refine Ev.cvI (Yc := mX2_stands) (ci := 2) dX5_without_16 lX5_93 vX2_stands rfl (c_stands g40 g41 (by omega)) ?_ rfl rfl rfl rfl ?_
    · apply Exists.intro; repeat (first | assumption | (refine gt_upI ?_; (repeat (first | exact In_of (gt_nw (by assumption)) | (apply In_of; assumption) | refine In_up ?_ | refine In_nw ?_)); done) | refine gt_rd (by first | assumption | (apply Ne.symm; assumption) | (exact hj _ _ (by omega) (by omega) (by omega)) | omega) ?_ | exact gt_nw (by assumption) | refine gt_odr (by first | assumption | (apply Ne.symm; assumption) | omega) ?_)
    rintro y M' ⟨rfl, hy⟩
    refine Ev.if_ne (tgt := 25) dX5_without_19 (by decide) (fun c19 => ?_) (fun c19 => ?_)
    · rcases hy with ⟨k, hk, ho, h7, -⟩ | ⟨-, hy⟩
      · have hcc := st_cch hS.1.1 gf c8 hk ho h7
        refine Ev.ald0 dX5_without_25 ?_
        apply Ev.getf dX5_without_26 fX5_31
        · repeat (first | assumption | (refine gt_upI ?_; (repeat (first | exact In_of (gt_nw (by assumption)) | (apply In_of; assumption) | refine In_up ?_ | refine In_nw ?_)); done) | refine gt_rd (by first | assumption | (apply Ne.symm; assumption) | (exact hj _ _ (by omega) (by omega) (by omega)) | omega) ?_ | exact gt_nw (by assumption) | refine gt_odr (by first | assumption | (apply Ne.symm; assumption) | omega) ?_)
        · first | rfl | assumption
        refine Ev.ald0 dX5_without_29 ?_
        apply Ev.getf dX5_without_30 fX5_19
        · repeat (first | assumption | (refine gt_upI ?_; (repeat (first | exact In_of (gt_nw (by assumption)) | (apply In_of; assumption) | refine In_up ?_ | refine In_nw ?_)); done) | refine gt_rd (by first | assumption | (apply Ne.symm; assumption) | (exact hj _ _ (by omega) (by omega) (by omega)) | omega) ?_ | exact gt_nw (by assumption) | refine gt_odr (by first | assumption | (apply Ne.symm; assumption) | omega) ?_)
        · first | rfl | assumption
        refine Ev.ald0 dX5_without_33 ?_
        apply Ev.getf dX5_without_34 fX5_19
        · repeat (first | assumption | (refine gt_upI ?_; (repeat (first | exact In_of (gt_nw (by assumption)) | (apply In_of; assumption) | refine In_up ?_ | refine In_nw ?_)); done) | refine gt_rd (by first | assumption | (apply Ne.symm; assumption) | (exact hj _ _ (by omega) (by omega) (by omega)) | omega) ?_ | exact gt_nw (by assumption) | refine gt_odr (by first | assumption | (apply Ne.symm; assumption) | omega) ?_)
        · first | rfl | assumption
        apply Ev.getr dX5_without_37 fX5_212
        · repeat (first | assumption | (refine gt_upI ?_; (repeat (first | exact In_of (gt_nw (by assumption)) | (apply In_of; assumption) | refine In_up ?_ | refine In_nw ?_)); done) | refine gt_rd (by first | assumption | (apply Ne.symm; assumption) | (exact hj _ _ (by omega) (by omega) (by omega)) | omega) ?_ | exact gt_nw (by assumption) | refine gt_odr (by first | assumption | (apply Ne.symm; assumption) | omega) ?_)
        · first | rfl | assumption
        refine Ev.cvV (Yc := mX0_hold) (ci := 0) dX5_without_40 lX5_215 vX0_hold rfl (k_hr (rr := q 41) (b := S.1.1) (hj.ad (by decide) (by decide) (by decide) (by decide) (by decide)) (hS.1.1.mono (by decide)) g40 g41 (by omega) (by omega) gf hA) ?_ rfl rfl rfl rfl ?_
        · apply Exists.intro; repeat (first | assumption | (refine gt_upI ?_; (repeat (first | exact In_of (gt_nw (by assumption)) | (apply In_of; assumption) | refine In_up ?_ | refine In_nw ?_)); done) | refine gt_rd (by first | assumption | (apply Ne.symm; assumption) | (exact hj _ _ (by omega) (by omega) (by omega)) | omega) ?_ | exact gt_nw (by assumption) | refine gt_odr (by first | assumption | (apply Ne.symm; assumption) | omega) ?_)
        rintro M1 ⟨hF, hA1, hrun⟩
        have k0 := (hC0.au hF hA1).2.1
        obtain ⟨fs1, k13⟩ := hA1.ob
        have k13' : gt M1 (q 13) = some (ob 0 fs1) := k13
        refine Ev.ald0 dX5_without_43 ?_
        apply Ev.getf dX5_without_44 fX5_31
        · repeat (first | assumption | (refine gt_upI ?_; (repeat (first | exact In_of (gt_nw (by assumption)) | (apply In_of; assumption) | refine In_up ?_ | refine In_nw ?_)); done) | refine gt_rd (by first | assumption | (apply Ne.symm; assumption) | (exact hj _ _ (by omega) (by omega) (by omega)) | omega) ?_ | exact gt_nw (by assumption) | refine gt_odr (by first | assumption | (apply Ne.symm; assumption) | omega) ?_)
        · first | rfl | assumption
        refine Ev.ild1 dX5_without_47 ?_
        refine Ev.cvV (Yc := mX0_run) (ci := 0) dX5_without_48 lX5_241 vX0_run rfl (hrun o) ?_ rfl rfl rfl rfl ?_
        · apply Exists.intro; repeat (first | assumption | (refine gt_upI ?_; (repeat (first | exact In_of (gt_nw (by assumption)) | (apply In_of; assumption) | refine In_up ?_ | refine In_nw ?_)); done) | refine gt_rd (by first | assumption | (apply Ne.symm; assumption) | (exact hj _ _ (by omega) (by omega) (by omega)) | omega) ?_ | exact gt_nw (by assumption) | refine gt_odr (by first | assumption | (apply Ne.symm; assumption) | omega) ?_)
        rintro M2 ⟨hF2, hA2, hX⟩
        have hC2 := hC0.au hF2 hA2
        have l0 := hC2.2.1
        obtain ⟨g1, i1, i2, i3, i4, x13, x11, e0, -, -⟩ := hX.pr
        have x11' : gt M2 (AD (aq q) (q 40) (q 41) 1) = some (cc g1) := x11
        refine Ev.ald0 dX5_without_51 ?_
        apply Ev.getf dX5_without_52 fX5_31
        · repeat (first | assumption | (refine gt_upI ?_; (repeat (first | exact In_of (gt_nw (by assumption)) | (apply In_of; assumption) | refine In_up ?_ | refine In_nw ?_)); done) | refine gt_rd (by first | assumption | (apply Ne.symm; assumption) | (exact hj _ _ (by omega) (by omega) (by omega)) | omega) ?_ | exact gt_nw (by assumption) | refine gt_odr (by first | assumption | (apply Ne.symm; assumption) | omega) ?_)
        · first | rfl | assumption
        apply Ev.getr dX5_without_55 fX5_128
        · repeat (first | assumption | (refine gt_upI ?_; (repeat (first | exact In_of (gt_nw (by assumption)) | (apply In_of; assumption) | refine In_up ?_ | refine In_nw ?_)); done) | refine gt_rd (by first | assumption | (apply Ne.symm; assumption) | (exact hj _ _ (by omega) (by omega) (by omega)) | omega) ?_ | exact gt_nw (by assumption) | refine gt_odr (by first | assumption | (apply Ne.symm; assumption) | omega) ?_)
        · first | rfl | assumption
        apply Ev.getf dX5_without_58 fX5_137
        · repeat (first | assumption | (refine gt_upI ?_; (repeat (first | exact In_of (gt_nw (by assumption)) | (apply In_of; assumption) | refine In_up ?_ | refine In_nw ?_)); done) | refine gt_rd (by first | assumption | (apply Ne.symm; assumption) | (exact hj _ _ (by omega) (by omega) (by omega)) | omega) ?_ | exact gt_nw (by assumption) | refine gt_odr (by first | assumption | (apply Ne.symm; assumption) | omega) ?_)
        · first | rfl | assumption
        refine Ev.iret dX5_without_61 rfl rfl ?_
        rw [an_without, if_pos hcc]
        exact ⟨_, rfl, e0, q, na, hC2, SQ.rf, Fr.q (js := afj) hF2 (by decide)⟩
      · exact absurd hy c19
    · rcases hy with ⟨k, hk, ho, h7, hy⟩ | ⟨hno, -⟩
      · rw [hy] at c19; exact absurd c19 (by decide)
      · exact no (st_ncch hS.1.1 gf hno)
set_option maxRecDepth 20000 in
theorem k_kuw {p : Bw} (hC : CR q na S M) (hS : Sok S) (hD : Bk M (q 43) (q 44) (q 45) p) (hp : BW 41 p.1) : CtI G mX5_keepUnlessWorse [.ref (q 0)] M 0 0 (fun x M' => (S.1.1 329 = 1 ∧ ab (xR S.1.1 (-1)) < ab (xR p.1 (-1))) ∧ x = 0 ∧ KR q S M M' ∨ ¬ (S.1.1 329 = 1 ∧ ab (xR S.1.1 (-1)) < ab (xR p.1 (-1))) ∧ x = 1 ∧ KR q (psh S p) M M') := by
  have hC0 := hC
  obtain ⟨⟨hj, hna⟩, h0, h1, h2, hA, ⟨f, g, g40, g41, g42, gf, gw⟩, -⟩ := hC
  have hn := hS.1.1.2.1
  obtain ⟨fs, h13⟩ := hA.ob
  have h13' : gt M (q 13) = some (ob 0 fs) := h13
  have yes : ∀ (X : Wd) (a1 : Option Value), ¬ (S.1.1 329 = 1 ∧ ab (xR S.1.1 (-1)) < ab (xR p.1 (-1))) → CR q na S X → Bk X (q 43) (q 44) (q 45) p → Fr (qfr q) M X → Ev G mX5_keepUnlessWorse 96 [some (.ref (q 0)), a1] [] X 0 0 (fun v M' => ∃ x : Int32, v = some (.int x) ∧ ((S.1.1 329 = 1 ∧ ab (xR S.1.1 (-1)) < ab (xR p.1 (-1))) ∧ x = 0 ∧ KR q S M M' ∨ ¬ (S.1.1 329 = 1 ∧ ab (xR S.1.1 (-1)) < ab (xR p.1 (-1))) ∧ x = 1 ∧ KR q (psh S p) M M')) := by
    intro X a1 hno hCX hDX hFX
    have k0 := hCX.2.1
    refine Ev.ald0 dX5_keepUnlessWorse_96 ?_
    refine Ev.cvV (Yc := mX5_keep) (ci := 5) dX5_keepUnlessWorse_97 lX5_109 vX5_keep rfl (k_keep hCX hS.2.2.1 hDX) ?_ rfl rfl rfl rfl ?_
    · apply Exists.intro; repeat (first | assumption | (refine gt_upI ?_; (repeat (first | exact In_of (gt_nw (by assumption)) | (apply In_of; assumption) | refine In_up ?_ | refine In_nw ?_)); done) | refine gt_rd (by first | assumption | (apply Ne.symm; assumption) | (exact hj _ _ (by omega) (by omega) (by omega)) | omega) ?_ | exact gt_nw (by assumption) | refine gt_odr (by first | assumption | (apply Ne.symm; assumption) | omega) ?_)
    rintro M2 ⟨hK, hF2⟩
    refine Ev.iconst (v := 1) dX5_keepUnlessWorse_100 (by decide) ?_
    refine Ev.iret dX5_keepUnlessWorse_101 rfl rfl ?_
    exact ⟨_, rfl, Or.inr ⟨hno, rfl, kr_keep hna hFX hK hF2⟩⟩
  refine Ct.of (ls := [some (.ref (q 0)), none]) (by decide) (by decide) rfl rfl rfl ?_
  refine Ev.ald0 dX5_keepUnlessWorse_0 ?_
  apply Ev.getf dX5_keepUnlessWorse_1 fX5_19
  · repeat (first | assumption | (refine gt_upI ?_; (repeat (first | exact In_of (gt_nw (by assumption)) | (apply In_of; assumption) | refine In_up ?_ | refine In_nw ?_)); done) | refine gt_rd (by first | assumption | (apply Ne.symm; assumption) | (exact hj _ _ (by omega) (by omega) (by omega)) | omega) ?_ | exact gt_nw (by assumption) | refine gt_odr (by first | assumption | (apply Ne.symm; assumption) | omega) ?_)
  · first | rfl | assumption
  apply Ev.getf dX5_keepUnlessWorse_4 fX5_80
  · repeat (first | assumption | (refine gt_upI ?_; (repeat (first | exact In_of (gt_nw (by assumption)) | (apply In_of; assumption) | refine In_up ?_ | refine In_nw ?_)); done) | refine gt_rd (by first | assumption | (apply Ne.symm; assumption) | (exact hj _ _ (by omega) (by omega) (by omega)) | omega) ?_ | exact gt_nw (by assumption) | refine gt_odr (by first | assumption | (apply Ne.symm; assumption) | omega) ?_)
  · first | rfl | assumption
  refine Ev.iconst (v := 1) dX5_keepUnlessWorse_7 (by decide) ?_
  refine Ev.icmp_ne (tgt := 96) dX5_keepUnlessWorse_8 (by decide) (fun c8 => ?_) (fun c8 => ?_)
  · exact yes M none (fun z => c8 z.1) hC0 hD Fr.rf
  · refine Ev.ald0 dX5_keepUnlessWorse_11 ?_
    apply Ev.getf dX5_keepUnlessWorse_12 fX5_31
    · repeat (first | assumption | (refine gt_upI ?_; (repeat (first | exact In_of (gt_nw (by assumption)) | (apply In_of; assumption) | refine In_up ?_ | refine In_nw ?_)); done) | refine gt_rd (by first | assumption | (apply Ne.symm; assumption) | (exact hj _ _ (by omega) (by omega) (by omega)) | omega) ?_ | exact gt_nw (by assumption) | refine gt_odr (by first | assumption | (apply Ne.symm; assumption) | omega) ?_)
    · first | rfl | assumption
    refine Ev.ald0 dX5_keepUnlessWorse_15 ?_
    apply Ev.getf dX5_keepUnlessWorse_16 fX5_19
    · repeat (first | assumption | (refine gt_upI ?_; (repeat (first | exact In_of (gt_nw (by assumption)) | (apply In_of; assumption) | refine In_up ?_ | refine In_nw ?_)); done) | refine gt_rd (by first | assumption | (apply Ne.symm; assumption) | (exact hj _ _ (by omega) (by omega) (by omega)) | omega) ?_ | exact gt_nw (by assumption) | refine gt_odr (by first | assumption | (apply Ne.symm; assumption) | omega) ?_)
    · first | rfl | assumption
    refine Ev.ald0 dX5_keepUnlessWorse_19 ?_
    apply Ev.getf dX5_keepUnlessWorse_20 fX5_19
    · repeat (first | assumption | (refine gt_upI ?_; (repeat (first | exact In_of (gt_nw (by assumption)) | (apply In_of; assumption) | refine In_up ?_ | refine In_nw ?_)); done) | refine gt_rd (by first | assumption | (apply Ne.symm; assumption) | (exact hj _ _ (by omega) (by omega) (by omega)) | omega) ?_ | exact gt_nw (by assumption) | refine gt_odr (by first | assumption | (apply Ne.symm; assumption) | omega) ?_)
    · first | rfl | assumption
    apply Ev.getr dX5_keepUnlessWorse_23 fX5_212
    · repeat (first | assumption | (refine gt_upI ?_; (repeat (first | exact In_of (gt_nw (by assumption)) | (apply In_of; assumption) | refine In_up ?_ | refine In_nw ?_)); done) | refine gt_rd (by first | assumption | (apply Ne.symm; assumption) | (exact hj _ _ (by omega) (by omega) (by omega)) | omega) ?_ | exact gt_nw (by assumption) | refine gt_odr (by first | assumption | (apply Ne.symm; assumption) | omega) ?_)
    · first | rfl | assumption
    refine Ev.cvV (Yc := mX0_hold) (ci := 0) dX5_keepUnlessWorse_26 lX5_215 vX0_hold rfl (k_hr (rr := q 41) (b := S.1.1) (hj.ad (by decide) (by decide) (by decide) (by decide) (by decide)) (hS.1.1.mono (by decide)) g40 g41 (by omega) (by omega) gf hA) ?_ rfl rfl rfl rfl ?_
    · apply Exists.intro; repeat (first | assumption | (refine gt_upI ?_; (repeat (first | exact In_of (gt_nw (by assumption)) | (apply In_of; assumption) | refine In_up ?_ | refine In_nw ?_)); done) | refine gt_rd (by first | assumption | (apply Ne.symm; assumption) | (exact hj _ _ (by omega) (by omega) (by omega)) | omega) ?_ | exact gt_nw (by assumption) | refine gt_odr (by first | assumption | (apply Ne.symm; assumption) | omega) ?_)
    rintro M1 ⟨hF, hA1, hrun⟩
    have k0 := (hC0.au hF hA1).2.1
    obtain ⟨fs1, k13⟩ := hA1.ob
    have k13' : gt M1 (q 13) = some (ob 0 fs1) := k13
    refine Ev.ald0 dX5_keepUnlessWorse_29 ?_
    apply Ev.getf dX5_keepUnlessWorse_30 fX5_31
    · repeat (first | assumption | (refine gt_upI ?_; (repeat (first | exact In_of (gt_nw (by assumption)) | (apply In_of; assumption) | refine In_up ?_ | refine In_nw ?_)); done) | refine gt_rd (by first | assumption | (apply Ne.symm; assumption) | (exact hj _ _ (by omega) (by omega) (by omega)) | omega) ?_ | exact gt_nw (by assumption) | refine gt_odr (by first | assumption | (apply Ne.symm; assumption) | omega) ?_)
    · first | rfl | assumption
    refine Ev.iconst (v := -1) dX5_keepUnlessWorse_33 (by decide) ?_
    refine Ev.cvV (Yc := mX0_run) (ci := 0) dX5_keepUnlessWorse_34 lX5_241 vX0_run rfl (hrun (-1)) ?_ rfl rfl rfl rfl ?_
    · apply Exists.intro; repeat (first | assumption | (refine gt_upI ?_; (repeat (first | exact In_of (gt_nw (by assumption)) | (apply In_of; assumption) | refine In_up ?_ | refine In_nw ?_)); done) | refine gt_rd (by first | assumption | (apply Ne.symm; assumption) | (exact hj _ _ (by omega) (by omega) (by omega)) | omega) ?_ | exact gt_nw (by assumption) | refine gt_odr (by first | assumption | (apply Ne.symm; assumption) | omega) ?_)
    rintro M2 ⟨hF2, hA2, hX⟩
    have hC2 := hC0.au hF2 hA2
    have l0 := hC2.2.1
    obtain ⟨g1, i1, i2, i3, i4, x13, x11, -, -, e2⟩ := hX.pr
    have x11' : gt M2 (AD (aq q) (q 40) (q 41) 1) = some (cc g1) := x11
    have NA : ∀ i, i < 82 → i ∉ afj → q i ∉ afr (aq q) := fun i h1 h2 => ninQ (js := afj) hj h1 (by decide) h2
    have hD2 : Bk M2 (q 43) (q 44) (q 45) p := hD.fr hF2 (NA 43 (by decide) (by decide)) (NA 44 (by decide) (by decide)) (NA 45 (by decide) (by decide))
    have hD2' := hD2
    obtain ⟨f3, g3, d43, d44, d45, df, dw⟩ := hD2
    have hpn := hp.2.1
    refine Ev.ald0 dX5_keepUnlessWorse_37 ?_
    apply Ev.getf dX5_keepUnlessWorse_38 fX5_31
    · repeat (first | assumption | (refine gt_upI ?_; (repeat (first | exact In_of (gt_nw (by assumption)) | (apply In_of; assumption) | refine In_up ?_ | refine In_nw ?_)); done) | refine gt_rd (by first | assumption | (apply Ne.symm; assumption) | (exact hj _ _ (by omega) (by omega) (by omega)) | omega) ?_ | exact gt_nw (by assumption) | refine gt_odr (by first | assumption | (apply Ne.symm; assumption) | omega) ?_)
    · first | rfl | assumption
    apply Ev.getr dX5_keepUnlessWorse_41 fX5_128
    · repeat (first | assumption | (refine gt_upI ?_; (repeat (first | exact In_of (gt_nw (by assumption)) | (apply In_of; assumption) | refine In_up ?_ | refine In_nw ?_)); done) | refine gt_rd (by first | assumption | (apply Ne.symm; assumption) | (exact hj _ _ (by omega) (by omega) (by omega)) | omega) ?_ | exact gt_nw (by assumption) | refine gt_odr (by first | assumption | (apply Ne.symm; assumption) | omega) ?_)
    · first | rfl | assumption
    apply Ev.getf dX5_keepUnlessWorse_44 fX5_287
    · repeat (first | assumption | (refine gt_upI ?_; (repeat (first | exact In_of (gt_nw (by assumption)) | (apply In_of; assumption) | refine In_up ?_ | refine In_nw ?_)); done) | refine gt_rd (by first | assumption | (apply Ne.symm; assumption) | (exact hj _ _ (by omega) (by omega) (by omega)) | omega) ?_ | exact gt_nw (by assumption) | refine gt_odr (by first | assumption | (apply Ne.symm; assumption) | omega) ?_)
    · first | rfl | assumption
    refine Ev.abs dX5_keepUnlessWorse_47 lX5_288 rfl rfl ?_
    refine Ev.ist1 dX5_keepUnlessWorse_50 rfl rfl ?_
    refine Ev.ald0 dX5_keepUnlessWorse_51 ?_
    apply Ev.getf dX5_keepUnlessWorse_52 fX5_31
    · repeat (first | assumption | (refine gt_upI ?_; (repeat (first | exact In_of (gt_nw (by assumption)) | (apply In_of; assumption) | refine In_up ?_ | refine In_nw ?_)); done) | refine gt_rd (by first | assumption | (apply Ne.symm; assumption) | (exact hj _ _ (by omega) (by omega) (by omega)) | omega) ?_ | exact gt_nw (by assumption) | refine gt_odr (by first | assumption | (apply Ne.symm; assumption) | omega) ?_)
    · first | rfl | assumption
    refine Ev.ald0 dX5_keepUnlessWorse_55 ?_
    apply Ev.getf dX5_keepUnlessWorse_56 fX5_23
    · repeat (first | assumption | (refine gt_upI ?_; (repeat (first | exact In_of (gt_nw (by assumption)) | (apply In_of; assumption) | refine In_up ?_ | refine In_nw ?_)); done) | refine gt_rd (by first | assumption | (apply Ne.symm; assumption) | (exact hj _ _ (by omega) (by omega) (by omega)) | omega) ?_ | exact gt_nw (by assumption) | refine gt_odr (by first | assumption | (apply Ne.symm; assumption) | omega) ?_)
    · first | rfl | assumption
    refine Ev.ald0 dX5_keepUnlessWorse_59 ?_
    apply Ev.getf dX5_keepUnlessWorse_60 fX5_23
    · repeat (first | assumption | (refine gt_upI ?_; (repeat (first | exact In_of (gt_nw (by assumption)) | (apply In_of; assumption) | refine In_up ?_ | refine In_nw ?_)); done) | refine gt_rd (by first | assumption | (apply Ne.symm; assumption) | (exact hj _ _ (by omega) (by omega) (by omega)) | omega) ?_ | exact gt_nw (by assumption) | refine gt_odr (by first | assumption | (apply Ne.symm; assumption) | omega) ?_)
    · first | rfl | assumption
    apply Ev.getr dX5_keepUnlessWorse_63 fX5_212
    · repeat (first | assumption | (refine gt_upI ?_; (repeat (first | exact In_of (gt_nw (by assumption)) | (apply In_of; assumption) | refine In_up ?_ | refine In_nw ?_)); done) | refine gt_rd (by first | assumption | (apply Ne.symm; assumption) | (exact hj _ _ (by omega) (by omega) (by omega)) | omega) ?_ | exact gt_nw (by assumption) | refine gt_odr (by first | assumption | (apply Ne.symm; assumption) | omega) ?_)
    · first | rfl | assumption
    refine Ev.cvV (Yc := mX0_hold) (ci := 0) dX5_keepUnlessWorse_66 lX5_215 vX0_hold rfl (k_hr (rr := q 44) (b := p.1) (hj.ad (by decide) (by decide) (by decide) (by decide) (by decide)) hp d43 d44 (by omega) (by omega) df hA2) ?_ rfl rfl rfl rfl ?_
    · apply Exists.intro; repeat (first | assumption | (refine gt_upI ?_; (repeat (first | exact In_of (gt_nw (by assumption)) | (apply In_of; assumption) | refine In_up ?_ | refine In_nw ?_)); done) | refine gt_rd (by first | assumption | (apply Ne.symm; assumption) | (exact hj _ _ (by omega) (by omega) (by omega)) | omega) ?_ | exact gt_nw (by assumption) | refine gt_odr (by first | assumption | (apply Ne.symm; assumption) | omega) ?_)
    rintro M3 ⟨hF3, hA3, hrun3⟩
    have m0 := (hC2.au hF3 hA3).2.1
    obtain ⟨fs3, m13⟩ := hA3.ob
    have m13' : gt M3 (q 13) = some (ob 0 fs3) := m13
    refine Ev.ald0 dX5_keepUnlessWorse_69 ?_
    apply Ev.getf dX5_keepUnlessWorse_70 fX5_31
    · repeat (first | assumption | (refine gt_upI ?_; (repeat (first | exact In_of (gt_nw (by assumption)) | (apply In_of; assumption) | refine In_up ?_ | refine In_nw ?_)); done) | refine gt_rd (by first | assumption | (apply Ne.symm; assumption) | (exact hj _ _ (by omega) (by omega) (by omega)) | omega) ?_ | exact gt_nw (by assumption) | refine gt_odr (by first | assumption | (apply Ne.symm; assumption) | omega) ?_)
    · first | rfl | assumption
    refine Ev.iconst (v := -1) dX5_keepUnlessWorse_73 (by decide) ?_
    refine Ev.cvV (Yc := mX0_run) (ci := 0) dX5_keepUnlessWorse_74 lX5_241 vX0_run rfl (hrun3 (-1)) ?_ rfl rfl rfl rfl ?_
    · apply Exists.intro; repeat (first | assumption | (refine gt_upI ?_; (repeat (first | exact In_of (gt_nw (by assumption)) | (apply In_of; assumption) | refine In_up ?_ | refine In_nw ?_)); done) | refine gt_rd (by first | assumption | (apply Ne.symm; assumption) | (exact hj _ _ (by omega) (by omega) (by omega)) | omega) ?_ | exact gt_nw (by assumption) | refine gt_odr (by first | assumption | (apply Ne.symm; assumption) | omega) ?_)
    rintro M4 ⟨hF4, hA4, hX4⟩
    have hC4 := hC2.au hF4 hA4
    have n0 := hC4.2.1
    obtain ⟨g4, j1, j2, j3, j4, y13, y11, -, -, e4⟩ := hX4.pr
    have y11' : gt M4 (AD (aq q) (q 43) (q 44) 1) = some (cc g4) := y11
    have hFX : Fr (qfr q) M M4 := (Fr.q (js := afj) hF2 (by decide)).tr (Fr.q (js := afj) hF4 (by decide))
    refine Ev.ald0 dX5_keepUnlessWorse_77 ?_
    apply Ev.getf dX5_keepUnlessWorse_78 fX5_31
    · repeat (first | assumption | (refine gt_upI ?_; (repeat (first | exact In_of (gt_nw (by assumption)) | (apply In_of; assumption) | refine In_up ?_ | refine In_nw ?_)); done) | refine gt_rd (by first | assumption | (apply Ne.symm; assumption) | (exact hj _ _ (by omega) (by omega) (by omega)) | omega) ?_ | exact gt_nw (by assumption) | refine gt_odr (by first | assumption | (apply Ne.symm; assumption) | omega) ?_)
    · first | rfl | assumption
    apply Ev.getr dX5_keepUnlessWorse_81 fX5_128
    · repeat (first | assumption | (refine gt_upI ?_; (repeat (first | exact In_of (gt_nw (by assumption)) | (apply In_of; assumption) | refine In_up ?_ | refine In_nw ?_)); done) | refine gt_rd (by first | assumption | (apply Ne.symm; assumption) | (exact hj _ _ (by omega) (by omega) (by omega)) | omega) ?_ | exact gt_nw (by assumption) | refine gt_odr (by first | assumption | (apply Ne.symm; assumption) | omega) ?_)
    · first | rfl | assumption
    apply Ev.getf dX5_keepUnlessWorse_84 fX5_287
    · repeat (first | assumption | (refine gt_upI ?_; (repeat (first | exact In_of (gt_nw (by assumption)) | (apply In_of; assumption) | refine In_up ?_ | refine In_nw ?_)); done) | refine gt_rd (by first | assumption | (apply Ne.symm; assumption) | (exact hj _ _ (by omega) (by omega) (by omega)) | omega) ?_ | exact gt_nw (by assumption) | refine gt_odr (by first | assumption | (apply Ne.symm; assumption) | omega) ?_)
    · first | rfl | assumption
    refine Ev.abs dX5_keepUnlessWorse_87 lX5_288 rfl rfl ?_
    refine Ev.ild1 dX5_keepUnlessWorse_90 ?_
    have t8 : S.1.1 329 = 1 := c8
    refine Ev.icmp_le (tgt := 96) dX5_keepUnlessWorse_91 (by decide) (fun c91 => ?_) (fun c91 => ?_)
    · refine yes M4 _ ?_ hC4 (hD2'.fr hF4 (NA 43 (by decide) (by decide)) (NA 44 (by decide) (by decide)) (NA 45 (by decide) (by decide))) hFX
      rintro ⟨-, z⟩
      rw [← e2, ← e4] at z
      exact absurd z (Int32.not_lt.mpr c91)
    · refine Ev.iconst (v := 0) dX5_keepUnlessWorse_94 (by decide) ?_
      refine Ev.iret dX5_keepUnlessWorse_95 rfl rfl ?_
      refine ⟨_, rfl, Or.inl ⟨⟨t8, ?_⟩, rfl, q, na, hC4, SQ.rf, hFX⟩⟩
      rw [← e2, ← e4]
      exact Int32.not_le.mp c91
end WOR
