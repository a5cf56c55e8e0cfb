/-! owner -/
/-- owners are the same ahead of a crossing and behind it -/
def Own (p : Bw) : Prop := p.1 329 = 2 → ∀ o, o < bn p.1 → p.2 (8 * o + 6) = p.1 (8 * o + 6)
theorem cnO_osm {w b f : Nat → Int32} {ow : Int32} {n : Nat} (hf : Ar n f b) (ho : ∀ o, o < n → w (8 * o + 6) = b (8 * o + 6)) : ∀ i, i ≤ n → cnO f ow i = osm w b ow 3 i
  | 0, _ => rfl
  | i + 1, hi => by
    have hi' : i < n := by omega
    rw [cnO, osm, cnO_osm hf ho i (by omega), hf.at (i := 7) hi' (by decide), hf.at (i := 6) hi' (by decide), ho i hi', if_pos rfl]
    by_cases c1 : b (8 * i + 6) = ow
    · rw [if_pos c1]
      by_cases c2 : b (8 * i + 7) = 0
      · rw [if_pos ⟨c2, c1⟩, if_pos c2]
      · rw [if_neg (fun z => c2 z.1), if_neg c2]
    · rw [if_neg (fun z => c1 z.2), if_neg c1]
theorem fof_osm {w b f fl : Nat → Int32} {ow sd : Int32} (hB : BW 41 w) (hf : Ar (bn w) f w) (hl : ∀ k, k < bn w → fl k = xF w (-1) k) (hsd : ¬ sd = 3) : ∀ i, i ≤ bn w → fof f fl ow sd i = osm w b ow sd i
  | 0, _ => rfl
  | i + 1, hi => by
    have hi' : i < bn w := by omega
    rw [fof, osm, fof_osm hB hf hl hsd i (by omega), hf.at (i := 0) hi' (by decide), hf.at (i := 6) hi' (by decide), hl i hi', xfl_F hB, if_neg hsd]
    by_cases c1 : w (8 * i + 6) = ow
    · rw [if_pos c1]
      by_cases c2 : w (8 * i + 0) = sd
      · rw [if_pos ⟨c1, c2⟩, if_pos c2]
      · rw [if_neg (fun z => c2 z.2), if_neg c2]
    · rw [if_neg (fun z => c1 z.1), if_neg c1]
theorem twn_otr {w f tr : Nat → Int32} {ow : Int32} {T : List (Nat × Nat × Nat)} (hn : bn w ≤ 41) (hf : Ar (bn w) f w) (hT : TCl tr T.length T) (eT : T.map gq = xT w) : ∀ i, i ≤ T.length → twn f tr ow i = otr w ow (xT w) i
  | 0, _ => rfl
  | i + 1, hi => by
    have hg : T[i]? = some T[i] := List.getElem?_eq_getElem (by omega)
    obtain ⟨t0, t1, t2⟩ := hT.2 i _ hg
    have hx : (xT w)[i]? = some (gq T[i]) := by rw [← eT, List.getElem?_map, hg]; rfl
    have hm := xT_mem (List.mem_of_getElem? hx)
    have m1 : T[i].1 < bn w := hm.1
    have m2 : T[i].2.1 < bn w := hm.2
    rw [twn, otr, twn_otr hn hf hT eT i (by omega), hx, t0, t1, t2, nI_clamp (by omega), nI_clamp (by omega), hf.at (i := 6) m1 (by decide), hf.at (i := 6) m2 (by decide)]
    rfl
section OWN
variable {G : GP} {M : Wd} {q : Nat → Nat} {na : Nat} {S : Sg}
set_option maxRecDepth 20000 in
theorem k_owner {o k : Int32} (hC : CR q na S M) (hS : Sok S) (hW : Own S.1) : CtI G mX5_owner [.ref (q 0), .int o, .int k] M 0 0 (fun x M' => x = an_owner S o k ∧ KR q S M M') := by
  have hC0 := hC
  obtain ⟨⟨hj, hna⟩, h0, h1, h2, hA, ⟨f, g, g40, g41, g42, gf, gw⟩, -⟩ := hC
  obtain ⟨cb1, cb2, cb3, cb4, cb5⟩ := hS.1.cb
  have hb41 : BW 41 (bas S) := cb1.mono (by decide)
  have hn := hS.1.1.2.1
  have hn2 := cb1.2.1
  have no : ¬ ((0 ≤ o ∧ o ≤ 7) ∧ (0 ≤ k ∧ k ≤ 3)) → Ev G mX5_owner 19 [some (.ref (q 0)), some (.int o), some (.int k)] [] M 0 0 (fun v M' => ∃ x : Int32, v = some (.int x) ∧ x = an_owner S o k ∧ KR q S M M') := by
    intro hno
    refine Ev.iconst (v := -1) dX5_owner_19 (by decide) ?_
    refine Ev.iret dX5_owner_20 rfl rfl ?_
    rw [an_owner, if_neg hno]
    exact ⟨_, rfl, rfl, q, na, hC0, SQ.rf, Fr.rf⟩
  refine Ct.of (ls := [some (.ref (q 0)), some (.int o), some (.int k)]) (by decide) (by decide) rfl rfl rfl ?_
  refine Ev.ild1 dX5_owner_0 ?_
  refine Ev.iconst (v := 0) dX5_owner_1 (by decide) ?_
  refine Ev.bipush (v := 7) dX5_owner_2 (by decide) ?_
  refine Ev.csI (Yc := mX5_within) dX5_owner_4 lX5_76 vX5_within rfl k_within rfl rfl rfl ?_
  rintro y M' ⟨hy, rfl⟩
  refine Ev.if_eq (tgt := 19) dX5_owner_7 (by decide) (fun c7 => ?_) (fun c7 => ?_)
  · exact no (fun z => if1_f hy c7 z.1)
  · have t1 := if1_t hy c7
    refine Ev.ild2 dX5_owner_10 ?_
    refine Ev.iconst (v := 0) dX5_owner_11 (by decide) ?_
    refine Ev.iconst (v := 3) dX5_owner_12 (by decide) ?_
    refine Ev.csI (Yc := mX5_within) dX5_owner_13 lX5_76 vX5_within rfl k_within rfl rfl rfl ?_
    rintro y2 M' ⟨hy2, rfl⟩
    refine Ev.if_ne (tgt := 21) dX5_owner_16 (by decide) (fun c16 => ?_) (fun c16 => ?_)
    · have t2 := if1_t hy2 c16
      rw [an_owner, if_pos ⟨t1, t2⟩]
      refine Ev.ild2 dX5_owner_21 ?_
      refine Ev.iconst (v := 3) dX5_owner_22 (by decide) ?_
      refine Ev.icmp_ne (tgt := 35) dX5_owner_23 (by decide) (fun c23 => ?_) (fun c23 => ?_)
      · refine Ev.ald0 dX5_owner_35 ?_
        refine Ev.cvV (Yc := mX5_runCross) (ci := 5) dX5_owner_36 lX5_112 vX5_runCross rfl (k_runCross hC0 hS) ?_ rfl rfl rfl rfl ?_
        · apply Exists.intro; repeat (first | assumption | (refine gt_upI ?_; (repeat (first | exact In_of (gt_nw (by assumption)) | (apply In_of; assumption) | refine In_up ?_ | refine In_nw ?_)); done) | refine gt_rd (by first | assumption | (apply Ne.symm; assumption) | (exact hj _ _ (by omega) (by omega) (by omega)) | omega) ?_ | exact gt_nw (by assumption) | refine gt_odr (by first | assumption | (apply Ne.symm; assumption) | omega) ?_)
        rintro M1 ⟨hF, hC1, hX⟩
        have k0 := hC1.2.1
        have hF1 := Fr.q (js := afj) hF (by decide)
        refine Ev.ild2 dX5_owner_39 ?_
        refine Ev.iconst (v := 2) dX5_owner_40 (by decide) ?_
        refine Ev.icmp_ne (tgt := 60) dX5_owner_41 (by decide) (fun c41 => ?_) (fun c41 => ?_)
        · obtain ⟨f1, sa, g1, fl, z, i4, i3, x13, x11, x12, x17, xr, z1, z2, ar, hg, hfl, -, -⟩ := hX.get
          obtain ⟨-, -, -, -, -, -, -, -, -, -, -, -, r, w, ph, hB⟩ := hX
          refine Ev.ald0 dX5_owner_60 ?_
          apply Ev.getf dX5_owner_61 fX5_31
          · repeat (first | assumption | (refine gt_upI ?_; (repeat (first | exact In_of (gt_nw (by assumption)) | (apply In_of; assumption) | refine In_up ?_ | refine In_nw ?_)); done) | refine gt_rd (by first | assumption | (apply Ne.symm; assumption) | (exact hj _ _ (by omega) (by omega) (by omega)) | omega) ?_ | exact gt_nw (by assumption) | refine gt_odr (by first | assumption | (apply Ne.symm; assumption) | omega) ?_)
          · first | rfl | assumption
          refine Ev.ild1 dX5_owner_64 ?_
          refine Ev.ild2 dX5_owner_65 ?_
          refine Ev.cvI (Yc := mX0_filledOf) (ci := 0) dX5_owner_66 lX5_266 vX0_filledOf rfl (a_filledOf (ad := AD (aq q) (q 40) (if S.1.1 329 = 2 then q 42 else q 41)) x13 x12 hB xr (by omega) z1 z2) ?_ rfl rfl rfl rfl ?_
          · apply Exists.intro; repeat (first | assumption | (refine gt_upI ?_; (repeat (first | exact In_of (gt_nw (by assumption)) | (apply In_of; assumption) | refine In_up ?_ | refine In_nw ?_)); done) | refine gt_rd (by first | assumption | (apply Ne.symm; assumption) | (exact hj _ _ (by omega) (by omega) (by omega)) | omega) ?_ | exact gt_nw (by assumption) | refine gt_odr (by first | assumption | (apply Ne.symm; assumption) | omega) ?_)
          rintro y3 M2 ⟨hy3, rfl⟩
          refine Ev.iret dX5_owner_69 rfl rfl ?_
          refine ⟨_, rfl, ?_, q, na, hC1, SQ.rf, hF1⟩
          rw [if_neg c41, hy3, fof_osm hb41 ar hfl c23 _ (Nat.le_refl _), cb2]
        · have c41' : k = 2 := c41
          obtain ⟨fs1, k13⟩ := hC1.2.2.2.2.1.ob
          have k13' : gt M1 (q 13) = some (ob 0 fs1) := k13
          refine Ev.ald0 dX5_owner_44 ?_
          apply Ev.getf dX5_owner_45 fX5_31
          · repeat (first | assumption | (refine gt_upI ?_; (repeat (first | exact In_of (gt_nw (by assumption)) | (apply In_of; assumption) | refine In_up ?_ | refine In_nw ?_)); done) | refine gt_rd (by first | assumption | (apply Ne.symm; assumption) | (exact hj _ _ (by omega) (by omega) (by omega)) | omega) ?_ | exact gt_nw (by assumption) | refine gt_odr (by first | assumption | (apply Ne.symm; assumption) | omega) ?_)
          · first | rfl | assumption
          refine Ev.cvV (Yc := mX0_match) (ci := 0) dX5_owner_48 lX5_115 vX0_match rfl (k_match hX) ?_ rfl rfl rfl rfl ?_
          · apply Exists.intro; repeat (first | assumption | (refine gt_upI ?_; (repeat (first | exact In_of (gt_nw (by assumption)) | (apply In_of; assumption) | refine In_up ?_ | refine In_nw ?_)); done) | refine gt_rd (by first | assumption | (apply Ne.symm; assumption) | (exact hj _ _ (by omega) (by omega) (by omega)) | omega) ?_ | exact gt_nw (by assumption) | refine gt_odr (by first | assumption | (apply Ne.symm; assumption) | omega) ?_)
          rintro M2 ⟨hF2, hA2, f1, sa, g1, fl, tr, z, i4, T, x13, x11, x12, x17, x16, xr, hz, hg, hfl, tT, eT, lT⟩
          have hC2 := hC1.au hF2 hA2
          have l0 := hC2.2.1
          refine Ev.ald0 dX5_owner_51 ?_
          apply Ev.getf dX5_owner_52 fX5_31
          · repeat (first | assumption | (refine gt_upI ?_; (repeat (first | exact In_of (gt_nw (by assumption)) | (apply In_of; assumption) | refine In_up ?_ | refine In_nw ?_)); done) | refine gt_rd (by first | assumption | (apply Ne.symm; assumption) | (exact hj _ _ (by omega) (by omega) (by omega)) | omega) ?_ | exact gt_nw (by assumption) | refine gt_odr (by first | assumption | (apply Ne.symm; assumption) | omega) ?_)
          · first | rfl | assumption
          refine Ev.ild1 dX5_owner_55 ?_
          have htr : ∀ k, k < T.length → ∃ a b, a < bn (bas S) ∧ b < bn (bas S) ∧ tr (3 * k + 0) = nI a ∧ tr (3 * k + 1) = nI b := by
            intro k hk
            have hg : T[k]? = some T[k] := List.getElem?_eq_getElem hk
            obtain ⟨t0, t1, t2⟩ := tT.2 k _ hg
            have hx : (xT (bas S))[k]? = some (gq T[k]) := by rw [← eT, List.getElem?_map, hg]; rfl
            have hm := xT_mem (List.mem_of_getElem? hx)
            exact ⟨T[k].1, T[k].2.1, hm.1, hm.2, t0, t1⟩
          refine Ev.cvI (Yc := mX0_tradedWithin) (ci := 0) dX5_owner_56 lX5_263 vX0_tradedWithin rfl (a_tradedWithin (n := bn (bas S)) (ad := AD (aq q) (q 40) (if S.1.1 329 = 2 then q 42 else q 41)) x13 x16 xr lT (by omega) hz.1 hz.2.1 htr) ?_ rfl rfl rfl rfl ?_
          · apply Exists.intro; repeat (first | assumption | (refine gt_upI ?_; (repeat (first | exact In_of (gt_nw (by assumption)) | (apply In_of; assumption) | refine In_up ?_ | refine In_nw ?_)); done) | refine gt_rd (by first | assumption | (apply Ne.symm; assumption) | (exact hj _ _ (by omega) (by omega) (by omega)) | omega) ?_ | exact gt_nw (by assumption) | refine gt_odr (by first | assumption | (apply Ne.symm; assumption) | omega) ?_)
          rintro y3 M3 ⟨hy3, rfl⟩
          refine Ev.iret dX5_owner_59 rfl rfl ?_
          refine ⟨_, rfl, ?_, q, na, hC2, SQ.rf, hF1.tr (Fr.q (js := afj) hF2 (by decide))⟩
          rw [if_pos c41', hy3, twn_otr (by omega) hz.2.2 tT eT _ (Nat.le_refl _), ← eT, List.length_map]
      · have c23' : k = 3 := c23
        refine Ev.ald0 dX5_owner_26 ?_
        apply Ev.getf dX5_owner_27 fX5_19
        · repeat (first | assumption | (refine gt_upI ?_; (repeat (first | exact In_of (gt_nw (by assumption)) | (apply In_of; assumption) | refine In_up ?_ | refine In_nw ?_)); done) | refine gt_rd (by first | assumption | (apply Ne.symm; assumption) | (exact hj _ _ (by omega) (by omega) (by omega)) | omega) ?_ | exact gt_nw (by assumption) | refine gt_odr (by first | assumption | (apply Ne.symm; assumption) | omega) ?_)
        · first | rfl | assumption
        refine Ev.ild1 dX5_owner_30 ?_
        refine Ev.cvI (Yc := mX2_countOf) (ci := 2) dX5_owner_31 lX5_260 vX2_countOf rfl (c_countOf g40 g41 (by omega)) ?_ rfl rfl rfl rfl ?_
        · apply Exists.intro; repeat (first | assumption | (refine gt_upI ?_; (repeat (first | exact In_of (gt_nw (by assumption)) | (apply In_of; assumption) | refine In_up ?_ | refine In_nw ?_)); done) | refine gt_rd (by first | assumption | (apply Ne.symm; assumption) | (exact hj _ _ (by omega) (by omega) (by omega)) | omega) ?_ | exact gt_nw (by assumption) | refine gt_odr (by first | assumption | (apply Ne.symm; assumption) | omega) ?_)
        rintro y3 M' ⟨hy3, rfl⟩
        refine Ev.iret dX5_owner_34 rfl rfl ?_
        refine ⟨_, rfl, ?_, q, na, hC0, SQ.rf, Fr.rf⟩
        rw [c23', if_neg (by decide), hy3]
        refine cnO_osm gf (fun o ho => ?_) _ (Nat.le_refl _)
        rw [bas]
        by_cases c : S.1.1 329 = 2
        · rw [if_pos c]
          exact hW c o ho
        · rw [if_neg c]
    · exact no (fun z => if1_f hy2 c16 z.2)
end OWN
