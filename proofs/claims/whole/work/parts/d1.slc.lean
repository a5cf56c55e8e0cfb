/-! slice -/
theorem AH.side {ac : Nat → Nat} {h rr : Nat} {f m : Nat → Int32} {n r lo hi : Nat} {l0 l1 : List (Nat × Nat)} {D : R5} {i1 i2 i3 : Int32} {tr : Nat → Int32} {M : Wd} (hA : AH ac h rr f m n r lo hi l0 l1 D i1 i2 i3 tr M) {j : Nat} (hj : j < 2) : ∃ (so : Nat → Option Nat) (cn s : Nat → Int32) (l : List (Nat × Nat)) (i4 : Int32), gt M (ac 3) = some (auc (AD ac h rr) i1 i2 i3 i4) ∧ gt M (ac 8) = some (ra 4 2 so) ∧ gt M (ac 10) = some (ia 0 2 cn) ∧ gt M (AD ac h rr (15 + j)) = some (ia 0 82 s) ∧ so j = some (AD ac h rr (15 + j)) ∧ cn j = nI l.length ∧ l.length ≤ 82 ∧ (∀ i, i < l.length → ∃ o, o < n ∧ s i &&& 63 = nI o) ∧ LSl f n j s l ∧ OW f n ∧ n ≤ 41 ∧ Ar n f m := by
  obtain ⟨so, po, tc, cn, tu, s0, s1, hs, hO, hc, ⟨t, ov, hp, vo, re, q3, q0, q1, q2, q7, q17, q18⟩, q6, q8, q9, q10, q11, q15, q16⟩ := hA
  obtain ⟨e1, e2, -, e4, e5⟩ := hO.cnt
  have : j = 0 ∨ j = 1 := by omega
  rcases this with rfl | rfl
  · exact ⟨so, cn, s0, l0, _, q3, q8, q10, q15, hs.1, hc.1, e1, e4, hO.l0, hO.ow, hO.hn, hO.ar⟩
  · exact ⟨so, cn, s1, l1, _, q3, q8, q10, q16, hs.2.1, hc.2.1, e2, e5, hO.l1, hO.ow, hO.hn, hO.ar⟩
section SLC
variable {G : GP} {M : Wd} {q : Nat → Nat} {na : Nat} {S : Sg}
set_option maxRecDepth 20000 in
theorem k_slice {s p i k : Int32} (hC : CR q na S M) (hS : Sok S) : CtI G mX5_slice [.ref (q 0), .int s, .int p, .int i, .int k] M 0 0 (fun x M' => x = an_slice S s p i k ∧ KR q S M M') := by
  have hC0 := hC
  obtain ⟨⟨hj, hna⟩, h0, h1, h2, hA, ⟨f, g, g40, g41, g42, gf, gw⟩, -⟩ := hC
  have hn := hS.1.1.2.1
  have no : ¬ ((0 ≤ s ∧ s ≤ 1) ∧ (1 ≤ p ∧ p ≤ 999) ∧ (0 ≤ k ∧ k ≤ 1)) → Ev G mX5_slice 24 [some (.ref (q 0)), some (.int s), some (.int p), some (.int i), some (.int k), none] [] M 0 0 (fun v M' => ∃ x : Int32, v = some (.int x) ∧ x = an_slice S s p i k ∧ KR q S M M') := by
    intro hno
    refine Ev.iconst (v := -1) dX5_slice_24 (by decide) ?_
    refine Ev.iret dX5_slice_25 rfl rfl ?_
    rw [an_slice, if_neg (fun z => hno ⟨z.1, z.2.1, z.2.2.2⟩)]
    exact ⟨_, rfl, rfl, q, na, hC0, SQ.rf, Fr.rf⟩
  refine Ct.of (ls := [some (.ref (q 0)), some (.int s), some (.int p), some (.int i), some (.int k), none]) (by decide) (by decide) rfl rfl rfl ?_
  refine Ev.ild1 dX5_slice_0 ?_
  refine Ev.csI (Yc := mX5_isSide) dX5_slice_1 lX5_209 vX5_isSide rfl k_isSide rfl rfl rfl ?_
  rintro y M' ⟨hy, rfl⟩
  refine Ev.if_eq (tgt := 24) dX5_slice_4 (by decide) (fun c4 => ?_) (fun c4 => ?_)
  · exact no (fun z => if1_f hy c4 (sd01.mpr z.1))
  · have t1 := sd01.mp (if1_t hy c4)
    refine Ev.ild2 dX5_slice_7 ?_
    refine Ev.csI (Yc := mX5_isPrice) dX5_slice_8 lX5_146 vX5_isPrice rfl k_isPrice rfl rfl rfl ?_
    rintro y2 M' ⟨hy2, rfl⟩
    refine Ev.if_eq (tgt := 24) dX5_slice_11 (by decide) (fun c11 => ?_) (fun c11 => ?_)
    · exact no (fun z => if1_f hy2 c11 z.2.1)
    · have t2 := if1_t hy2 c11
      refine Ev.ild4 dX5_slice_14 ?_
      refine Ev.iconst (v := 0) dX5_slice_16 (by decide) ?_
      refine Ev.iconst (v := 1) dX5_slice_17 (by decide) ?_
      refine Ev.csI (Yc := mX5_within) dX5_slice_18 lX5_76 vX5_within rfl k_within rfl rfl rfl ?_
      rintro y3 M' ⟨hy3, rfl⟩
      refine Ev.if_ne (tgt := 26) dX5_slice_21 (by decide) (fun c21 => ?_) (fun c21 => ?_)
      · have t3 := if1_t hy3 c21
        obtain ⟨j, hj1, rfl⟩ : ∃ j, j ≤ 1 ∧ s = nI j := int_le (c := 1) (by omega) t1.1 t1.2
        have hB := hS.1.1
        obtain ⟨e8, hn40, hO, elo, ehi, b1, b2, b3, rf, r1, r2, e0⟩ := hB
        have g40' := g40
        rw [e0, elo, ehi] at g40'
        obtain ⟨fs1, k13⟩ := hA.ob
        have k13' : gt M' (q 13) = some (ob 0 fs1) := k13
        refine Ev.ald0 dX5_slice_26 ?_
        apply Ev.getf dX5_slice_27 fX5_31
        · repeat (first | assumption | (refine gt_upI ?_; (repeat (first | exact In_of (gt_nw (by assumption)) | (apply In_of; assumption) | refine In_up ?_ | refine In_nw ?_)); done) | refine gt_rd (by first | assumption | (apply Ne.symm; assumption) | (exact hj _ _ (by omega) (by omega) (by omega)) | omega) ?_ | exact gt_nw (by assumption) | refine gt_odr (by first | assumption | (apply Ne.symm; assumption) | omega) ?_)
        · first | rfl | assumption
        refine Ev.ald0 dX5_slice_30 ?_
        apply Ev.getf dX5_slice_31 fX5_19
        · repeat (first | assumption | (refine gt_upI ?_; (repeat (first | exact In_of (gt_nw (by assumption)) | (apply In_of; assumption) | refine In_up ?_ | refine In_nw ?_)); done) | refine gt_rd (by first | assumption | (apply Ne.symm; assumption) | (exact hj _ _ (by omega) (by omega) (by omega)) | omega) ?_ | exact gt_nw (by assumption) | refine gt_odr (by first | assumption | (apply Ne.symm; assumption) | omega) ?_)
        · first | rfl | assumption
        refine Ev.ald0 dX5_slice_34 ?_
        apply Ev.getf dX5_slice_35 fX5_19
        · repeat (first | assumption | (refine gt_upI ?_; (repeat (first | exact In_of (gt_nw (by assumption)) | (apply In_of; assumption) | refine In_up ?_ | refine In_nw ?_)); done) | refine gt_rd (by first | assumption | (apply Ne.symm; assumption) | (exact hj _ _ (by omega) (by omega) (by omega)) | omega) ?_ | exact gt_nw (by assumption) | refine gt_odr (by first | assumption | (apply Ne.symm; assumption) | omega) ?_)
        · first | rfl | assumption
        apply Ev.getr dX5_slice_38 fX5_212
        · repeat (first | assumption | (refine gt_upI ?_; (repeat (first | exact In_of (gt_nw (by assumption)) | (apply In_of; assumption) | refine In_up ?_ | refine In_nw ?_)); done) | refine gt_rd (by first | assumption | (apply Ne.symm; assumption) | (exact hj _ _ (by omega) (by omega) (by omega)) | omega) ?_ | exact gt_nw (by assumption) | refine gt_odr (by first | assumption | (apply Ne.symm; assumption) | omega) ?_)
        · first | rfl | assumption
        refine Ev.cvV (Yc := mX0_hold) (ci := 0) dX5_slice_41 lX5_215 vX0_hold rfl (c_hold (ac := aq q) (m := S.1.1) hA (hj.ad (a := 40) (b := 41) (by decide) (by decide) (by decide) (by decide) (by decide)) g40' g41 (by omega) (by omega) (hO.cm gf.sy) (by omega) gf e0 (by omega) b1 b2 b3) ?_ rfl rfl rfl rfl ?_
        · apply Exists.intro; repeat (first | assumption | (refine gt_upI ?_; (repeat (first | exact In_of (gt_nw (by assumption)) | (apply In_of; assumption) | refine In_up ?_ | refine In_nw ?_)); done) | refine gt_rd (by first | assumption | (apply Ne.symm; assumption) | (exact hj _ _ (by omega) (by omega) (by omega)) | omega) ?_ | exact gt_nw (by assumption) | refine gt_odr (by first | assumption | (apply Ne.symm; assumption) | omega) ?_)
        rintro M1 ⟨⟨l0, l1, D, i1, i2, i3, tr, hH⟩, hF⟩
        have hC1 := hC0.au hF hH.aw
        have k0 := hC1.2.1
        have hKR : KR q S M' M1 := ⟨q, na, hC1, SQ.rf, Fr.q (js := afj) hF (by decide)⟩
        obtain ⟨so, cn, sj, l, i4, x3, x8, x10, x15, hso, hcn, hl82, hks, hL, hOf, hnf, har⟩ := hH.side (j := j) (by omega)
        have x3' : gt M1 (q 13) = some (auc (AD (aq q) (q 40) (q 41)) i1 i2 i3 i4) := x3
        have x41 : gt M1 (q 41) = some (ia 0 328 f) := by
          obtain ⟨f9, g9, z40, z41, -⟩ := hC1.2.2.2.2.2.1
          exact Fr.rd (L := afj.map q) hF (ninQ hj (by decide) (by decide) (by decide)) g41
        have hct : ∀ k, k < bn S.1.1 → f (8 * k + 7) = 0 → ct0 S.1.1 (-1) k ≠ 0 := by
          intro k hk h7
          rw [har.at (i := 7) hk (by decide)] at h7
          rw [ct0, if_neg (fun z => by
            rcases z with z | z
            · rw [h7] at z; exact absurd z (by decide)
            · have := nI_pos' (n := k) (by omega)
              rw [z] at this
              exact absurd this (by decide))]
          decide
        have hg : ∀ k, k < bn S.1.1 → ct0 S.1.1 (-1) k ≠ 0 → f (8 * k + 7) = 0 := by
          intro k hk hz
          rw [har.at (i := 7) hk (by decide)]
          refine (hO.g01 hk).mp (fun w => hz ?_)
          rw [ct0, if_pos (Or.inl w)]
        have eS : slp S.1.1 (ct0 S.1.1 (-1)) (nI j) p = (lwv (ct0 S.1.1 (-1)) f p l).map (fun q => (q.1, ptf S.1.1 (qt S.1.1) q.1 (nI q.2))) := by
          rw [slp, slc_cm (m' := f) (ct' := ct0 S.1.1 (-1)) (my' := qt f) har.sy (fun _ _ => rfl) (qt_cm har.sy), slc_lw hOf hnf (by omega) hL hg]
        have hpos : (¬ i < -1) → an_slice S (nI j) p i k = (if i = -1 then nI (lwv (ct0 S.1.1 (-1)) f p l).length else if i < nI (lwv (ct0 S.1.1 (-1)) f p l).length then slq (((lwv (ct0 S.1.1 (-1)) f p l)[i.toNatClampNeg]?).map (fun q => (q.1, ptf S.1.1 (qt S.1.1) q.1 (nI q.2)))) k else -1) := by
          intro w
          rw [an_slice, if_pos ⟨t1, t2, w, t3⟩, eS, List.length_map, List.getElem?_map]
        have hlen : (lwv (ct0 S.1.1 (-1)) f p l).length ≤ 82 := Nat.le_trans (by rw [lwv]; exact List.length_filter_le _ _) hl82
        refine Ev.ild3 dX5_slice_44 ?_
        refine Ev.iconst (v := -1) dX5_slice_45 (by decide) ?_
        refine Ev.icmp_ne (tgt := 59) dX5_slice_46 (by decide) (fun c46 => ?_) (fun c46 => ?_)
        · refine Ev.ald0 dX5_slice_59 ?_
          apply Ev.getf dX5_slice_60 fX5_31
          · repeat (first | assumption | (refine gt_upI ?_; (repeat (first | exact In_of (gt_nw (by assumption)) | (apply In_of; assumption) | refine In_up ?_ | refine In_nw ?_)); done) | refine gt_rd (by first | assumption | (apply Ne.symm; assumption) | (exact hj _ _ (by omega) (by omega) (by omega)) | omega) ?_ | exact gt_nw (by assumption) | refine gt_odr (by first | assumption | (apply Ne.symm; assumption) | omega) ?_)
          · first | rfl | assumption
          refine Ev.ild1 dX5_slice_63 ?_
          refine Ev.ild2 dX5_slice_64 ?_
          refine Ev.ild3 dX5_slice_65 ?_
          refine Ev.cvI (Yc := mX0_findSlice) (ci := 0) dX5_slice_66 lX5_222 vX0_findSlice rfl (a_findSlice (ad := AD (aq q) (q 40) (q 41)) (n := bn S.1.1) (j := j) rfl (by omega) x3 x8 x10 x41 x15 hso hcn hl82 hnf (by omega) (by omega) hks) ?_ rfl rfl rfl rfl ?_
          · apply Exists.intro; repeat (first | assumption | (refine gt_upI ?_; (repeat (first | exact In_of (gt_nw (by assumption)) | (apply In_of; assumption) | refine In_up ?_ | refine In_nw ?_)); done) | refine gt_rd (by first | assumption | (apply Ne.symm; assumption) | (exact hj _ _ (by omega) (by omega) (by omega)) | omega) ?_ | exact gt_nw (by assumption) | refine gt_odr (by first | assumption | (apply Ne.symm; assumption) | omega) ?_)
          rintro y4 M2 ⟨hy4, rfl⟩
          by_cases ci : i < -1
          · have hm : y4 = -1 := by
              rw [hy4, ← nI_0]
              exact fds_neg _ _ _ (by omega) (Int32.lt_trans ci (by decide))
            subst hm
            refine Ev.ist5 dX5_slice_69 rfl rfl ?_
            refine Ev.ild5 dX5_slice_71 ?_
            refine Ev.iconst (v := -1) dX5_slice_73 (by decide) ?_
            refine Ev.icmp_ne (tgt := 79) dX5_slice_74 (by decide) (fun c => absurd rfl c) (fun c => ?_)
            refine Ev.iconst (v := -1) dX5_slice_77 (by decide) ?_
            refine Ev.iret dX5_slice_78 rfl rfl ?_
            rw [an_slice, if_neg (fun z => z.2.2.1 ci)]
            exact ⟨_, rfl, rfl, hKR⟩
          · have hi0 : ¬ i < 0 := by
              intro w
              have w1 := Int32.lt_iff_toInt_lt.mp w
              have w2 : ¬ i.toInt < (-1 : Int32).toInt := fun z => ci (Int32.lt_iff_toInt_lt.mpr z)
              have w3 : (-1 : Int32).toInt = -1 := by decide
              have w4 : (0 : Int32).toInt = 0 := by decide
              exact c46 (Int32.toInt_inj.mp (by omega))
            obtain ⟨w, hw, rfl⟩ := nI_of hi0
            have hfd := fds_sp hOf hnf hL hct (p := p) hw l.length 0 0 (by omega) (by omega) (by omega)
            rw [nI_0, ← hy4, List.drop_zero, Nat.sub_zero] at hfd
            rw [hpos ci, if_neg c46, nI_clamp hw]
            cases hq : (lwv (ct0 S.1.1 (-1)) f p l)[w]? with
            | none =>
              rw [hq] at hfd
              have hge : (lwv (ct0 S.1.1 (-1)) f p l).length ≤ w := List.getElem?_eq_none_iff.mp hq
              have hy9 : y4 = -1 := hfd
              subst hy9
              refine Ev.ist5 dX5_slice_69 rfl rfl ?_
              refine Ev.ild5 dX5_slice_71 ?_
              refine Ev.iconst (v := -1) dX5_slice_73 (by decide) ?_
              refine Ev.icmp_ne (tgt := 79) dX5_slice_74 (by decide) (fun c => absurd rfl c) (fun c => ?_)
              refine Ev.iconst (v := -1) dX5_slice_77 (by decide) ?_
              refine Ev.iret dX5_slice_78 rfl rfl ?_
              rw [if_neg (fun z => by have := (nI_ltI hw (by omega)).mp z; omega)]
              exact ⟨_, rfl, rfl, hKR⟩
            | some r =>
              rw [hq] at hfd
              have hy9 : y4 = nI (skey f r.1 r.2) := hfd
              have hlt : w < (lwv (ct0 S.1.1 (-1)) f p l).length := (List.getElem?_eq_some_iff.mp hq).1
              have hm := (hL.2.2 r.1 r.2).mp (lwv_mem.mp (List.mem_of_getElem? hq)).1
              have hsz := siz_sp hOf hnf hm.1 hm.2
              have hsk := skey_lt (t := r.2) hOf hnf hm.1
              have hne : ¬ y4 = -1 := fun z => by
                have := nI_pos' (n := skey f r.1 r.2) (by omega)
                rw [← hy9, z] at this
                exact absurd this (by decide)
              rw [← hy9] at hsz
              refine Ev.ist5 dX5_slice_69 rfl rfl ?_
              refine Ev.ild5 dX5_slice_71 ?_
              refine Ev.iconst (v := -1) dX5_slice_73 (by decide) ?_
              refine Ev.icmp_ne (tgt := 79) dX5_slice_74 (by decide) (fun c => ?_) (fun c => absurd c hne)
              rw [if_pos ((nI_ltI hw (by omega)).mpr hlt)]
              refine Ev.ild4 dX5_slice_79 ?_
              refine Ev.if_ne (tgt := 92) dX5_slice_81 (by decide) (fun c81 => ?_) (fun c81 => ?_)
              · refine Ev.ald0 dX5_slice_92 ?_
                apply Ev.getf dX5_slice_93 fX5_31
                · repeat (first | assumption | (refine gt_upI ?_; (repeat (first | exact In_of (gt_nw (by assumption)) | (apply In_of; assumption) | refine In_up ?_ | refine In_nw ?_)); done) | refine gt_rd (by first | assumption | (apply Ne.symm; assumption) | (exact hj _ _ (by omega) (by omega) (by omega)) | omega) ?_ | exact gt_nw (by assumption) | refine gt_odr (by first | assumption | (apply Ne.symm; assumption) | omega) ?_)
                · first | rfl | assumption
                refine Ev.ild5 dX5_slice_96 ?_
                refine Ev.cvI (Yc := mX0_sizeOf) (ci := 0) dX5_slice_98 lX5_229 vX0_sizeOf rfl (a_sizeOf r.1 hsz.1 x3' rfl x41 (by have := hm.1; omega) (by omega)) ?_ rfl rfl rfl rfl ?_
                · apply Exists.intro; repeat (first | assumption | (refine gt_upI ?_; (repeat (first | exact In_of (gt_nw (by assumption)) | (apply In_of; assumption) | refine In_up ?_ | refine In_nw ?_)); done) | refine gt_rd (by first | assumption | (apply Ne.symm; assumption) | (exact hj _ _ (by omega) (by omega) (by omega)) | omega) ?_ | exact gt_nw (by assumption) | refine gt_odr (by first | assumption | (apply Ne.symm; assumption) | omega) ?_)
                rintro y5 M3 ⟨hy5, rfl⟩
                refine Ev.iret dX5_slice_101 rfl rfl ?_
                refine ⟨_, rfl, ?_, hKR⟩
                rw [hy5, hsz.2]
                show _ = slq (some (r.1, ptf S.1.1 (qt S.1.1) r.1 (nI r.2))) k
                rw [slq, if_neg c81]
                exact ptf_cm har hm.1 (qt_cm har _ hm.1)
              · refine Ev.ild5 dX5_slice_84 ?_
                refine Ev.csI (Yc := mX0_numberOf) dX5_slice_86 lX5_226 vX0_numberOf rfl a_numberOf rfl rfl rfl ?_
                rintro y5 M3 ⟨hy5, rfl⟩
                refine Ev.goto (tgt := 101) dX5_slice_89 (by decide) ?_
                refine Ev.iret dX5_slice_101 rfl rfl ?_
                refine ⟨_, rfl, ?_, hKR⟩
                rw [hy5, hsz.1]
                show _ = slq (some (r.1, ptf S.1.1 (qt S.1.1) r.1 (nI r.2))) k
                have c81' : k = 0 := by first | exact c81 | exact Classical.not_not.mp c81
                rw [slq, if_pos c81']
        · have c46' : i = -1 := by first | exact c46 | exact Classical.not_not.mp c46
          refine Ev.ald0 dX5_slice_49 ?_
          apply Ev.getf dX5_slice_50 fX5_31
          · repeat (first | assumption | (refine gt_upI ?_; (repeat (first | exact In_of (gt_nw (by assumption)) | (apply In_of; assumption) | refine In_up ?_ | refine In_nw ?_)); done) | refine gt_rd (by first | assumption | (apply Ne.symm; assumption) | (exact hj _ _ (by omega) (by omega) (by omega)) | omega) ?_ | exact gt_nw (by assumption) | refine gt_odr (by first | assumption | (apply Ne.symm; assumption) | omega) ?_)
          · first | rfl | assumption
          refine Ev.ild1 dX5_slice_53 ?_
          refine Ev.ild2 dX5_slice_54 ?_
          refine Ev.cvI (Yc := mX0_countSlices) (ci := 0) dX5_slice_55 lX5_219 vX0_countSlices rfl (a_countSlices (ad := AD (aq q) (q 40) (q 41)) (n := bn S.1.1) (j := j) rfl (by omega) x3 x8 x10 x41 x15 hso hcn hl82 hnf (by omega) (by omega) hks) ?_ rfl rfl rfl rfl ?_
          · apply Exists.intro; repeat (first | assumption | (refine gt_upI ?_; (repeat (first | exact In_of (gt_nw (by assumption)) | (apply In_of; assumption) | refine In_up ?_ | refine In_nw ?_)); done) | refine gt_rd (by first | assumption | (apply Ne.symm; assumption) | (exact hj _ _ (by omega) (by omega) (by omega)) | omega) ?_ | exact gt_nw (by assumption) | refine gt_odr (by first | assumption | (apply Ne.symm; assumption) | omega) ?_)
          rintro y4 M2 ⟨hy4, rfl⟩
          refine Ev.iret dX5_slice_58 rfl rfl ?_
          refine ⟨_, rfl, ?_, hKR⟩
          rw [hpos (by rw [c46']; decide), if_pos c46', hy4, cts_sp hOf hnf hL hct _ (Nat.le_refl _), List.take_length]
      · exact no (fun z => if1_f hy3 c21 z.2.2)
end SLC
