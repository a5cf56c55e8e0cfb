section MMJ
variable {G : GP} {a : Nat → Nat} {M0 M : Wd} {v : Nat → Int32} {L : Int64} {X : Nat → Nat → Int32} {S : Sg} {b : Nat → Int32}
set_option maxRecDepth 20000 in
theorem m_notice {k : Int32} (hS : Sok S) (hR : MR v X S) (hZ : MZ a M0 v L X M) : CtI G mX6_notice [.ref (a 0), .int k] M 0 0 (fun x M' => ∃ (v' : Nat → Int32) (X' : Nat → Nat → Int32), MZ a M0 v' L X' M' ∧ MR v' X' S ∧ (((0 ≤ k ∧ k ≤ 3) ∨ k = 6) ∧ v' 0 = 0 ∧ x = an_notice S k ∨ ¬ ((0 ≤ k ∧ k ≤ 3) ∨ k = 6) ∧ v' 0 = 1)) := by
  have hB : BW 40 S.1.1 := hS.1.1
  have hn := hB.2.1
  generalize hQ : (fun (u : Option Value) (M' : Wd) => ∃ x, u = some (.int x) ∧ ∃ (v' : Nat → Int32) (X' : Nat → Nat → Int32), MZ a M0 v' L X' M' ∧ MR v' X' S ∧ (((0 ≤ k ∧ k ≤ 3) ∨ k = 6) ∧ v' 0 = 0 ∧ x = an_notice S k ∨ ¬ ((0 ≤ k ∧ k ≤ 3) ∨ k = 6) ∧ v' 0 = 1)) = Q
  have J : ∀ (c : Int32) (M : Wd), ((0 ≤ k ∧ k ≤ 3) ∨ k = 6) ∧ c = 0 ∨ ¬ ((0 ≤ k ∧ k ≤ 3) ∨ k = 6) ∧ c = 1 → MZ a M0 v L X M → Ev G mX6_notice 24 [some (.ref (a 0)), some (.int k)] [.int c, .ref (a 0)] M 0 0 Q := by
    intro c M hc hZ
    rcases hc with ⟨hc, rfl⟩ | ⟨hc, rfl⟩
    · refine Ev.mput (kx := 0) dX6_notice_24 fX6_1 hZ rfl rfl (fun M hZ => ?_)
      refine Ev.ald0 dX6_notice_27 ?_
      refine Ev.mgv (kx := 0) dX6_notice_28 fX6_1 hZ rfl ?_
      rw [pk_us]
      refine Ev.if_le (tgt := 36) dX6_notice_31 (by decide) (fun c31 => ?_) (fun c31 => by first | exact absurd (by decide) c31 | exact absurd c31 (by decide))
      refine Ev.ald0 dX6_notice_36 ?_
      refine Ev.cvV (Yc := mX6_laysNotice) (ci := 6) dX6_notice_37 lX6_321 vX6_laysNotice rfl (m_laysNotice hR.1.1 hB hZ) ⟨_, hZ.2.1.1⟩ rfl rfl rfl rfl ?_
      rintro M1 ⟨v1, X1, hZ, b1, b2, b3, b4, b5, b6⟩
      skip
      have hR1 : MR v1 X1 S := by
        refine hR.q (QT.rf.t.tr ⟨b1 3 (by decide), b1 5 (by decide), b1 6 (by decide), b1 8 (by decide), b2 2 (by decide), b2 4 (by decide), b2 7 (by decide)⟩) ?_
        rw [b2 1 (by decide)]
        exact hR.1
      have t0 : v1 0 = 0 := b1 0 (by decide)
      have hq : ∀ y, y = an_notice S k → Q (some (.int y)) M1 := fun y hy => by
        rw [← hQ]
        exact ⟨y, rfl, v1, X1, hZ, hR1, Or.inl ⟨hc, t0, hy⟩⟩
      rcases rP_pr (m := S.1.1) (ct := nct S.1.1) (my := nmy S.1.1) (n := bn S.1.1) (lo := blo S.1.1) (hi := bhi S.1.1) with hp | ⟨p, p1, p2, hp⟩
      · rw [hp] at b3
        have ng : (-1 : Int32) < 0 := by decide
        refine Ev.ild1 dX6_notice_40 ?_
        refine Ev.if_ne (tgt := 49) dX6_notice_41 (by decide) (fun c41 => ?_) (fun c41 => ?_)
        · refine Ev.ild1 dX6_notice_49 ?_
          refine Ev.bipush (v := 6) dX6_notice_50 (by decide) ?_
          refine Ev.icmp_ne (tgt := 60) dX6_notice_52 (by decide) (fun c52 => ?_) (fun c52 => ?_)
          · refine Ev.ald0 dX6_notice_60 ?_
            refine Ev.mgv (kx := 28) dX6_notice_61 fX6_223 hZ rfl ?_
            rw [b3]
            refine Ev.if_ge (tgt := 71) dX6_notice_64 (by decide) (fun c64 => by first | exact absurd c64 (by decide) | exact absurd (by decide) c64) (fun c64 => ?_)
            refine Ev.iconst (v := 0) dX6_notice_67 (by decide) ?_
            refine Ev.goto (tgt := 107) dX6_notice_68 (by decide) ?_
            refine Ev.iret dX6_notice_107 rfl rfl ?_
            exact hq _ (by rw [an_notice, if_neg c41, if_neg c52, hp, if_pos ng])
          · refine Ev.ald0 dX6_notice_55 ?_
            refine Ev.mgv (kx := 30) dX6_notice_56 fX6_229 hZ rfl ?_
            refine Ev.iret dX6_notice_59 rfl rfl ?_
            exact hq _ (by rw [b5, an_notice, if_neg c41, if_pos c52])
        · refine Ev.ald0 dX6_notice_44 ?_
          refine Ev.mgv (kx := 28) dX6_notice_45 fX6_223 hZ rfl ?_
          rw [b3]
          refine Ev.iret dX6_notice_48 rfl rfl ?_
          exact hq _ (by rw [an_notice, if_pos c41, hp])
      · rw [hp] at b3
        have h6 := hB.2.2.2.2.2.1
        have h8 := hB.2.2.2.2.2.2.2.1
        have ng : ¬ nI p < 0 := nI_pos (by omega)
        have bb := b6 p (by omega) (by omega)
        refine Ev.ild1 dX6_notice_40 ?_
        refine Ev.if_ne (tgt := 49) dX6_notice_41 (by decide) (fun c41 => ?_) (fun c41 => ?_)
        · refine Ev.ild1 dX6_notice_49 ?_
          refine Ev.bipush (v := 6) dX6_notice_50 (by decide) ?_
          refine Ev.icmp_ne (tgt := 60) dX6_notice_52 (by decide) (fun c52 => ?_) (fun c52 => ?_)
          · refine Ev.ald0 dX6_notice_60 ?_
            refine Ev.mgv (kx := 28) dX6_notice_61 fX6_223 hZ rfl ?_
            rw [b3]
            refine Ev.if_ge (tgt := 71) dX6_notice_64 (by decide) (fun c64 => ?_) (fun c64 => by first | exact absurd (nI_pos' (by omega)) c64 | exact absurd c64 (nI_pos' (by omega)))
            refine Ev.ild1 dX6_notice_71 ?_
            refine Ev.iconst (v := 1) dX6_notice_72 (by decide) ?_
            refine Ev.icmp_ne (tgt := 87) dX6_notice_73 (by decide) (fun c73 => ?_) (fun c73 => ?_)
            · refine Ev.ild1 dX6_notice_87 ?_
              refine Ev.iconst (v := 2) dX6_notice_88 (by decide) ?_
              refine Ev.icmp_ne (tgt := 103) dX6_notice_89 (by decide) (fun c89 => ?_) (fun c89 => ?_)
              · refine Ev.ald0 dX6_notice_103 ?_
                refine Ev.mgv (kx := 29) dX6_notice_104 fX6_226 hZ rfl ?_
                rw [b4]
                refine Ev.iret dX6_notice_107 rfl rfl ?_
                exact hq _ (by rw [an_notice, if_neg c41, if_neg c52, hp, if_neg ng, if_neg c73, if_neg c89])
              · refine Ev.ald0 dX6_notice_92 ?_
                refine Ev.ald0 dX6_notice_93 ?_
                refine Ev.mgv (kx := 28) dX6_notice_94 fX6_223 hZ rfl ?_
                rw [b3]
                refine Ev.cvI (Yc := mX6_restAt) (ci := 6) dX6_notice_97 lX6_233 vX6_restAt rfl (m_res p rfl hZ.2.1 (by omega)) ⟨_, hZ.2.1.1⟩ rfl rfl rfl rfl ?_
                rintro y M3 ⟨hy, rfl⟩
                refine Ev.goto (tgt := 107) dX6_notice_100 (by decide) ?_
                refine Ev.iret dX6_notice_107 rfl rfl ?_
                exact hq _ (by rw [hy, bb.2, an_notice, if_neg c41, if_neg c52, hp, if_neg ng, if_neg c73, if_pos c89])
            · refine Ev.ald0 dX6_notice_76 ?_
              refine Ev.ald0 dX6_notice_77 ?_
              refine Ev.mgv (kx := 28) dX6_notice_78 fX6_223 hZ rfl ?_
              rw [b3]
              refine Ev.cvI (Yc := mX6_volumeAt) (ci := 6) dX6_notice_81 lX6_220 vX6_volumeAt rfl (m_vol p rfl hZ.2.1 (by omega)) ⟨_, hZ.2.1.1⟩ rfl rfl rfl rfl ?_
              rintro y M3 ⟨hy, rfl⟩
              refine Ev.goto (tgt := 107) dX6_notice_84 (by decide) ?_
              refine Ev.iret dX6_notice_107 rfl rfl ?_
              exact hq _ (by rw [hy, bb.1, an_notice, if_neg c41, if_neg c52, hp, if_neg ng, if_pos c73])
          · refine Ev.ald0 dX6_notice_55 ?_
            refine Ev.mgv (kx := 30) dX6_notice_56 fX6_229 hZ rfl ?_
            rw [b5]
            refine Ev.iret dX6_notice_59 rfl rfl ?_
            exact hq _ (by rw [an_notice, if_neg c41, if_pos c52])
        · refine Ev.ald0 dX6_notice_44 ?_
          refine Ev.mgv (kx := 28) dX6_notice_45 fX6_223 hZ rfl ?_
          rw [b3]
          refine Ev.iret dX6_notice_48 rfl rfl ?_
          exact hq _ (by rw [an_notice, if_pos c41, hp])
    · refine Ev.mput (kx := 0) dX6_notice_24 fX6_1 hZ rfl rfl (fun M hZ => ?_)
      refine Ev.ald0 dX6_notice_27 ?_
      refine Ev.mgv (kx := 0) dX6_notice_28 fX6_1 hZ rfl ?_
      rw [pk_us]
      refine Ev.if_le (tgt := 36) dX6_notice_31 (by decide) (fun c31 => by first | exact absurd c31 (by decide) | exact absurd (by decide) c31) (fun c31 => ?_)
      refine Ev.iconst (v := 0) dX6_notice_34 (by decide) ?_
      refine Ev.iret dX6_notice_35 rfl rfl ?_
      rw [← hQ]
      exact ⟨_, rfl, _, _, hZ, hR.q QT.rf.t hR.1, Or.inr ⟨hc, pk_us⟩⟩
  show Ct G mX6_notice _ M 0 0 (fun u M' => ∃ x, u = some (.int x) ∧ ∃ (v' : Nat → Int32) (X' : Nat → Nat → Int32), MZ a M0 v' L X' M' ∧ MR v' X' S ∧ (((0 ≤ k ∧ k ≤ 3) ∨ k = 6) ∧ v' 0 = 0 ∧ x = an_notice S k ∨ ¬ ((0 ≤ k ∧ k ≤ 3) ∨ k = 6) ∧ v' 0 = 1))
  rw [hQ]
  refine Ct.of (ls := [some (.ref (a 0)), some (.int k)]) (by decide) (by decide) rfl rfl rfl ?_
  refine Ev.ald0 dX6_notice_0 ?_
  refine Ev.ild1 dX6_notice_1 ?_
  refine Ev.i2l dX6_notice_2 ?_
  refine Ev.lconst (v := 0) dX6_notice_3 (by decide) ?_
  refine Ev.ldc2 dX6_notice_4 kX6_138 ?_
  refine Ev.csI (Yc := mX6_within) dX6_notice_7 lX6_93 vX6_within rfl (m_wI (y := 0) (z := 3) (by decide) (by decide)) rfl rfl rfl ?_
  rintro y7 M9 ⟨hy7, rfl⟩
  refine Ev.if_ne (tgt := 19) dX6_notice_10 (by decide) (fun c10 => ?_) (fun c10 => ?_)
  · refine Ev.iconst (v := 0) dX6_notice_19 (by decide) ?_
    refine Ev.goto (tgt := 24) dX6_notice_20 (by decide) ?_
    exact J 0 _ (Or.inl ⟨Or.inl (v01_t hy7 c10), rfl⟩) hZ
  · refine Ev.ild1 dX6_notice_13 ?_
    refine Ev.bipush (v := 6) dX6_notice_14 (by decide) ?_
    refine Ev.icmp_ne (tgt := 23) dX6_notice_16 (by decide) (fun c16 => ?_) (fun c16 => ?_)
    · refine Ev.iconst (v := 1) dX6_notice_23 (by decide) ?_
      exact J 1 _ (Or.inr ⟨fun z => z.elim (v01_f hy7 c10) c16, rfl⟩) hZ
    · refine Ev.iconst (v := 0) dX6_notice_19 (by decide) ?_
      refine Ev.goto (tgt := 24) dX6_notice_20 (by decide) ?_
      exact J 0 _ (Or.inl ⟨Or.inr c16, rfl⟩) hZ
set_option maxRecDepth 20000 in
theorem m_moves {s k : Int32} (hS : Sok S) (hR : MR v X S) (hZ : MZ a M0 v L X M) : CtI G mX6_moves [.ref (a 0), .int s, .int k] M 0 0 (fun x M' => x = an_moves S s k ∧ ∃ (v' : Nat → Int32) (X' : Nat → Nat → Int32), MZ a M0 v' L X' M' ∧ MR v' X' S) := by
  have hB : BW 40 S.1.1 := hS.1.1
  have hn := hB.2.1
  have e9 : X 1 329 = S.1.1 329 := hR.1.1.2.2.1
  by_cases hok : (0 ≤ s ∧ s ≤ 1) ∧ (0 ≤ k ∧ k ≤ 1) ∧ S.1.1 329 ≠ 2
  · rw [an_moves, if_pos hok]
    generalize hnow : (xP S.1.1 (-1)).1 = now
    have KL : ∀ (e q : Nat) (v1 : Nat → Int32) (X1 : Nat → Nat → Int32) (M : Wd) (a5 : Option Value), q + e = 201 → 1 ≤ q → MZ a M0 v1 L X1 M → QT v v1 X X1 → Ag (X1 1) S.1.1 → Ev G mX6_moves 48 [some (.ref (a 0)), some (.int s), some (.int k), some (.int now), some (.int (nI q)), a5] [] M 0 0 (fun u M' => ∃ x, u = some (.int x) ∧ x = mvs S.1.1 s k now e q ∧ ∃ (v' : Nat → Int32) (X' : Nat → Nat → Int32), MZ a M0 v' L X' M' ∧ MR v' X' S) := by
      intro e
      induction e with
      | zero =>
        intro q v1 X1 M a5 hq hq1 hZ hqt hA
        have : q = 201 := by omega
        subst this
        refine Ev.ild4 dX6_moves_48 ?_
        refine Ev.sipush (v := 200) dX6_moves_50 (by decide) ?_
        refine Ev.icmp_gt (tgt := 91) dX6_moves_53 (by decide) (fun c53 => ?_) (fun c53 => by first | exact absurd (by decide) c53 | exact absurd c53 (by decide))
        refine Ev.iconst (v := -1) dX6_moves_91 (by decide) ?_
        refine Ev.iret dX6_moves_92 rfl rfl ?_
        exact ⟨_, rfl, rfl, _, _, hZ, hR.q hqt ⟨hA, fun z => absurd z hok.2.2⟩⟩
      | succ e ih =>
        intro q v1 X1 M a5 hq hq1 hZ hqt hA
        have hT : isT s 0 (nI q) 0 := ⟨hok.1, ⟨by decide, by decide⟩, ⟨nI_le (a := 1) (by omega) (by omega), nI_le (b := 9999) (by omega) (by omega)⟩, Or.inl rfl⟩
        have h200 : ¬ 200 < nI q := nI_nlt (a := 200) (by omega) (by omega)
        refine Ev.ild4 dX6_moves_48 ?_
        refine Ev.sipush (v := 200) dX6_moves_50 (by decide) ?_
        refine Ev.icmp_gt (tgt := 91) dX6_moves_53 (by decide) (fun c53 => by first | exact absurd c53 h200 | exact absurd h200 c53) (fun c53 => ?_)
        refine Ev.ald0 dX6_moves_56 ?_
        refine Ev.ild1 dX6_moves_57 ?_
        refine Ev.iconst (v := 0) dX6_moves_58 (by decide) ?_
        refine Ev.ild4 dX6_moves_59 ?_
        refine Ev.iconst (v := 0) dX6_moves_61 (by decide) ?_
        refine Ev.cvI (Yc := mX6_priceWith) (ci := 6) dX6_moves_62 lX6_327 vX6_priceWith rfl (m_priceWith hT hA hB hZ) ⟨_, hZ.2.1.1⟩ rfl rfl rfl rfl ?_
        rintro y62 M1 ⟨hy62, v2, X2, hZ, hq2, t0, hA2⟩
        refine Ev.ist5 dX6_moves_65 rfl rfl ?_
        refine Ev.ild5 dX6_moves_67 ?_
        refine Ev.ild3 dX6_moves_69 ?_
        refine Ev.icmp_eq (tgt := 85) dX6_moves_70 (by decide) (fun c70 => ?_) (fun c70 => ?_)
        · apply Ev.iinc4 dX6_moves_85 rfl rfl
          · first | exact nI_inc _ | rfl
          refine Ev.goto (tgt := 48) dX6_moves_88 (by decide) ?_
          refine Ev.post (ih (q + 1) v2 X2 M1 _ (by omega) (by omega) hZ (hqt.tr hq2) hA2) ?_
          rintro u M' ⟨x, x1, x2, x3⟩
          refine ⟨x, x1, ?_, x3⟩
          rw [mvs, if_pos (hy62.symm.trans c70)]
          exact x2
        · refine Ev.ild2 dX6_moves_73 ?_
          refine Ev.if_ne (tgt := 82) dX6_moves_74 (by decide) (fun c74 => ?_) (fun c74 => ?_)
          · refine Ev.ild5 dX6_moves_82 ?_
            refine Ev.iret dX6_moves_84 rfl rfl ?_
            exact ⟨_, rfl, by rw [mvs, if_neg (fun z => c70 (hy62.trans z)), if_neg c74]; exact hy62, _, _, hZ, hR.q (hqt.tr hq2) ⟨hA2, fun z => absurd z hok.2.2⟩⟩
          · refine Ev.ild4 dX6_moves_77 ?_
            refine Ev.goto (tgt := 84) dX6_moves_79 (by decide) ?_
            refine Ev.iret dX6_moves_84 rfl rfl ?_
            exact ⟨_, rfl, by rw [mvs, if_neg (fun z => c70 (hy62.trans z)), if_pos c74], _, _, hZ, hR.q (hqt.tr hq2) ⟨hA2, fun z => absurd z hok.2.2⟩⟩
    refine Ct.of (ls := [some (.ref (a 0)), some (.int s), some (.int k), none, none, none]) (by decide) (by decide) rfl rfl rfl ?_
    refine Ev.ald0 dX6_moves_0 ?_
    refine Ev.iconst (v := 0) dX6_moves_1 (by decide) ?_
    refine Ev.mput (kx := 0) dX6_moves_2 fX6_1 hZ rfl rfl (fun M hZ => ?_)
    refine Ev.ild1 dX6_moves_5 ?_
    refine Ev.i2l dX6_moves_6 ?_
    refine Ev.lconst (v := 0) dX6_moves_7 (by decide) ?_
    refine Ev.lconst (v := 1) dX6_moves_8 (by decide) ?_
    refine Ev.csI (Yc := mX6_within) dX6_moves_9 lX6_93 vX6_within rfl (m_wI (y := 0) (z := 1) (by decide) (by decide)) rfl rfl rfl ?_
    rintro y9 M9 ⟨hy9, rfl⟩
    rw [if_pos hok.1] at hy9
    refine Ev.if_eq (tgt := 37) dX6_moves_12 (by decide) (fun c12 => by first | exact absurd c12 (by rw [hy9]; decide) | exact absurd (by rw [hy9]; decide) c12) (fun c12 => ?_)
    refine Ev.ild2 dX6_moves_15 ?_
    refine Ev.i2l dX6_moves_16 ?_
    refine Ev.lconst (v := 0) dX6_moves_17 (by decide) ?_
    refine Ev.lconst (v := 1) dX6_moves_18 (by decide) ?_
    refine Ev.csI (Yc := mX6_within) dX6_moves_19 lX6_93 vX6_within rfl (m_wI (y := 0) (z := 1) (by decide) (by decide)) rfl rfl rfl ?_
    rintro y19 M9 ⟨hy19, rfl⟩
    rw [if_pos hok.2.1] at hy19
    refine Ev.if_eq (tgt := 37) dX6_moves_22 (by decide) (fun c22 => by first | exact absurd c22 (by rw [hy19]; decide) | exact absurd (by rw [hy19]; decide) c22) (fun c22 => ?_)
    refine Ev.ald0 dX6_moves_25 ?_
    refine Ev.mgr (kx := 1) dX6_moves_26 fX6_13 hZ rfl ?_
    refine Ev.sipush (v := 329) dX6_moves_29 (by decide) ?_
    refine Ev.mld (j := 329) mq1 dX6_moves_32 hZ (by first | assumption | (simp only [nI, Int32.ofNat_add, Int32.ofNat_mul]; done) | (simp only [nI, Int32.ofNat_add, Int32.ofNat_mul]; rfl) | rfl) (by omega) ?_
    (try simp only [ux_s, ux_n, ne_eq, Nat.reduceEqDiff, Nat.succ_ne_self, not_false_eq_true])
    rw [e9]
    refine Ev.iconst (v := 2) dX6_moves_33 (by decide) ?_
    refine Ev.icmp_ne (tgt := 39) dX6_moves_34 (by decide) (fun c34 => ?_) (fun c34 => by first | exact absurd hok.2.2 c34 | exact absurd c34 hok.2.2)
    refine Ev.ald0 dX6_moves_39 ?_
    refine Ev.iconst (v := -1) dX6_moves_40 (by decide) ?_
    refine Ev.cvI (Yc := mX6_priceWithout) (ci := 6) dX6_moves_41 lX6_324 vX6_priceWithout rfl (m_priceWithout hZ hR.1.1 (hB.mono (by omega)) (Or.inl rfl)) ⟨_, hZ.2.1.1⟩ rfl rfl rfl rfl ?_
    rintro y41 M1 ⟨hy41, v1, X1, hZ, hK⟩
    rw [hnow] at hy41
    subst hy41
    refine Ev.ist3 dX6_moves_44 rfl rfl ?_
    refine Ev.iconst (v := 1) dX6_moves_45 (by decide) ?_
    refine Ev.ist4 dX6_moves_46 rfl rfl ?_
    exact KL 200 1 v1 X1 M1 _ rfl (by omega) hZ (QT.rf.t.tr hK.q) (by rw [hK.1 1 (by decide)]; exact hR.1.1)
  · rw [an_moves, if_neg hok]
    refine Ct.of (ls := [some (.ref (a 0)), some (.int s), some (.int k), none, none, none]) (by decide) (by decide) rfl rfl rfl ?_
    refine Ev.ald0 dX6_moves_0 ?_
    refine Ev.iconst (v := 0) dX6_moves_1 (by decide) ?_
    refine Ev.mput (kx := 0) dX6_moves_2 fX6_1 hZ rfl rfl (fun M hZ => ?_)
    refine Ev.ild1 dX6_moves_5 ?_
    refine Ev.i2l dX6_moves_6 ?_
    refine Ev.lconst (v := 0) dX6_moves_7 (by decide) ?_
    refine Ev.lconst (v := 1) dX6_moves_8 (by decide) ?_
    refine Ev.csI (Yc := mX6_within) dX6_moves_9 lX6_93 vX6_within rfl (m_wI (y := 0) (z := 1) (by decide) (by decide)) rfl rfl rfl ?_
    rintro y9 M9 ⟨hy9, rfl⟩
    refine Ev.if_eq (tgt := 37) dX6_moves_12 (by decide) (fun c12 => ?_) (fun c12 => ?_)
    · refine Ev.iconst (v := -1) dX6_moves_37 (by decide) ?_
      refine Ev.iret dX6_moves_38 rfl rfl ?_
      exact ⟨_, rfl, rfl, _, _, hZ, hR.q QT.rf.t hR.1⟩
    · refine Ev.ild2 dX6_moves_15 ?_
      refine Ev.i2l dX6_moves_16 ?_
      refine Ev.lconst (v := 0) dX6_moves_17 (by decide) ?_
      refine Ev.lconst (v := 1) dX6_moves_18 (by decide) ?_
      refine Ev.csI (Yc := mX6_within) dX6_moves_19 lX6_93 vX6_within rfl (m_wI (y := 0) (z := 1) (by decide) (by decide)) rfl rfl rfl ?_
      rintro y19 M9 ⟨hy19, rfl⟩
      refine Ev.if_eq (tgt := 37) dX6_moves_22 (by decide) (fun c22 => ?_) (fun c22 => ?_)
      · refine Ev.iconst (v := -1) dX6_moves_37 (by decide) ?_
        refine Ev.iret dX6_moves_38 rfl rfl ?_
        exact ⟨_, rfl, rfl, _, _, hZ, hR.q QT.rf.t hR.1⟩
      · refine Ev.ald0 dX6_moves_25 ?_
        refine Ev.mgr (kx := 1) dX6_moves_26 fX6_13 hZ rfl ?_
        refine Ev.sipush (v := 329) dX6_moves_29 (by decide) ?_
        refine Ev.mld (j := 329) mq1 dX6_moves_32 hZ (by first | assumption | (simp only [nI, Int32.ofNat_add, Int32.ofNat_mul]; done) | (simp only [nI, Int32.ofNat_add, Int32.ofNat_mul]; rfl) | rfl) (by omega) ?_
        (try simp only [ux_s, ux_n, ne_eq, Nat.reduceEqDiff, Nat.succ_ne_self, not_false_eq_true])
        rw [e9]
        refine Ev.iconst (v := 2) dX6_moves_33 (by decide) ?_
        refine Ev.icmp_ne (tgt := 39) dX6_moves_34 (by decide) (fun c34 => ?_) (fun c34 => ?_)
        · exact absurd ⟨v01_t hy9 c12, v01_t hy19 c22, c34⟩ hok
        · refine Ev.iconst (v := -1) dX6_moves_37 (by decide) ?_
          refine Ev.iret dX6_moves_38 rfl rfl ?_
          exact ⟨_, rfl, rfl, _, _, hZ, hR.q QT.rf.t hR.1⟩
set_option maxRecDepth 20000 in
theorem m_swings (hS : Sok S) (hR : MR v X S) (hZ : MZ a M0 v L X M) : CtL G mX6_swings [.ref (a 0)] M 0 0 (fun x M' => x = an_swings S ∧ ∃ (v' : Nat → Int32) (X' : Nat → Nat → Int32), MZ a M0 v' L X' M' ∧ MR v' X' S) := by
  have hB : BW 40 S.1.1 := hS.1.1
  have hn := hB.2.1
  have hA := hR.1.1
  have e9 : X 1 329 = S.1.1 329 := hA.2.2.1
  by_cases hph : S.1.1 329 = 2
  · rw [an_swings, if_pos hph]
    refine Ct.of (ls := [some (.ref (a 0)), none, none, none, none]) (by decide) (by decide) rfl rfl rfl ?_
    refine Ev.ald0 dX6_swings_0 ?_
    refine Ev.iconst (v := 0) dX6_swings_1 (by decide) ?_
    refine Ev.mput (kx := 0) dX6_swings_2 fX6_1 hZ rfl rfl (fun M hZ => ?_)
    refine Ev.lconst (v := 0) dX6_swings_5 (by decide) ?_
    refine Ev.lst1 dX6_swings_6 rfl rfl ?_
    refine Ev.ald0 dX6_swings_7 ?_
    refine Ev.mgr (kx := 1) dX6_swings_8 fX6_13 hZ rfl ?_
    refine Ev.sipush (v := 329) dX6_swings_11 (by decide) ?_
    refine Ev.mld (j := 329) mq1 dX6_swings_14 hZ (by first | assumption | (simp only [nI, Int32.ofNat_add, Int32.ofNat_mul]; done) | (simp only [nI, Int32.ofNat_add, Int32.ofNat_mul]; rfl) | rfl) (by omega) ?_
    (try simp only [ux_s, ux_n, ne_eq, Nat.reduceEqDiff, Nat.succ_ne_self, not_false_eq_true])
    rw [e9]
    refine Ev.iconst (v := 2) dX6_swings_15 (by decide) ?_
    refine Ev.icmp_ne (tgt := 21) dX6_swings_16 (by decide) (fun c16 => by first | exact absurd c16 hph | exact absurd hph c16) (fun c16 => ?_)
    refine Ev.lld1 dX6_swings_19 ?_
    refine Ev.lret dX6_swings_20 rfl ?_
    exact ⟨_, rfl, rfl, _, _, hZ, hR.q QT.rf.t hR.1⟩
  · rw [an_swings, if_neg hph]
    generalize hnow : (xP S.1.1 (-1)).1 = now
    have KL : ∀ (v1 : Nat → Int32) (X1 : Nat → Nat → Int32) (M : Wd), MZ a M0 v1 L X1 M → QT v v1 X X1 → X1 1 = X 1 → Ev G mX6_swings 30 [some (.ref (a 0)), some (.long (swg S.1.1 now 0)), none, some (.int now), some (.int (nI 0))] [] M 0 0 (fun u M' => ∃ x, u = some (.long x) ∧ x = swg S.1.1 now (bn S.1.1) ∧ ∃ (v' : Nat → Int32) (X' : Nat → Nat → Int32), MZ a M0 v' L X' M' ∧ MR v' X' S) := by
      refine ev_ind (bn S.1.1) (fun t => ∀ (v1 : Nat → Int32) (X1 : Nat → Nat → Int32) (M : Wd), MZ a M0 v1 L X1 M → QT v v1 X X1 → X1 1 = X 1 → Ev G mX6_swings 30 [some (.ref (a 0)), some (.long (swg S.1.1 now t)), none, some (.int now), some (.int (nI t))] [] M 0 0 (fun u M' => ∃ x, u = some (.long x) ∧ x = swg S.1.1 now (bn S.1.1) ∧ ∃ (v' : Nat → Int32) (X' : Nat → Nat → Int32), MZ a M0 v' L X' M' ∧ MR v' X' S)) ?_ ?_
      · intro v1 X1 M hZ hq x1
        refine Ev.ild4 dX6_swings_30 ?_
        refine Ev.ald0 dX6_swings_32 ?_
        refine Ev.mgr (kx := 1) dX6_swings_33 fX6_13 hZ rfl ?_
        refine Ev.sipush (v := 328) dX6_swings_36 (by decide) ?_
        refine Ev.mld (j := 328) mq1 dX6_swings_39 hZ (by first | assumption | (simp only [nI, Int32.ofNat_add, Int32.ofNat_mul]; done) | (simp only [nI, Int32.ofNat_add, Int32.ofNat_mul]; rfl) | rfl) (by omega) ?_
        (try simp only [ux_s, ux_n, ne_eq, Nat.reduceEqDiff, Nat.succ_ne_self, not_false_eq_true])
        rw [x1, hA.2.1, hB.1]
        refine Ev.icmp_ge (tgt := 79) dX6_swings_40 (by decide) (fun c40 => ?_) (fun c40 => by first | exact absurd (Int32.le_refl _) c40 | exact absurd c40 (Int32.le_refl _))
        refine Ev.lld1 dX6_swings_79 ?_
        refine Ev.lret dX6_swings_80 rfl ?_
        exact ⟨_, rfl, rfl, _, _, hZ, hR.q hq (by rw [x1]; exact hR.1)⟩
      · intro t ht ih v1 X1 M hZ hq x1
        have e7 : X1 1 (8 * t + 7) = S.1.1 (8 * t + 7) := by rw [x1]; exact hA.1.at ht (by omega)
        have hs : ∀ y, y = (if ¬ S.1.1 (8 * t + 7) = 1 ∧ ¬ (xP S.1.1 (nI t)).1 = now then (1 : Int64) <<< ((nI t).toInt64 &&& 63) else 0) → swg S.1.1 now t ||| y = swg S.1.1 now (t + 1) := fun y hy => by rw [swg, hy]
        refine Ev.ild4 dX6_swings_30 ?_
        refine Ev.ald0 dX6_swings_32 ?_
        refine Ev.mgr (kx := 1) dX6_swings_33 fX6_13 hZ rfl ?_
        refine Ev.sipush (v := 328) dX6_swings_36 (by decide) ?_
        refine Ev.mld (j := 328) mq1 dX6_swings_39 hZ (by first | assumption | (simp only [nI, Int32.ofNat_add, Int32.ofNat_mul]; done) | (simp only [nI, Int32.ofNat_add, Int32.ofNat_mul]; rfl) | rfl) (by omega) ?_
        (try simp only [ux_s, ux_n, ne_eq, Nat.reduceEqDiff, Nat.succ_ne_self, not_false_eq_true])
        rw [x1, hA.2.1, hB.1]
        refine Ev.icmp_ge (tgt := 79) dX6_swings_40 (by decide) (fun c40 => by first | exact absurd c40 (nI_ge ht (by omega)) | exact absurd (nI_ge ht (by omega)) c40) (fun c40 => ?_)
        refine Ev.lld1 dX6_swings_43 ?_
        refine Ev.ald0 dX6_swings_44 ?_
        refine Ev.ild4 dX6_swings_45 ?_
        refine Ev.cvI (Yc := mX6_isGone) (ci := 6) dX6_swings_47 lX6_205 vX6_isGone rfl (m_isGone (t) (by first | assumption | (simp only [nI, Int32.ofNat_add, Int32.ofNat_mul]; done) | (simp only [nI, Int32.ofNat_add, Int32.ofNat_mul]; rfl) | rfl) hZ.2.1.1 hZ.2.1.g1 (by omega)) ⟨_, hZ.2.1.1⟩ rfl rfl rfl rfl ?_
        rintro y47 M9 ⟨hy47, rfl⟩
        rw [e7] at hy47
        refine Ev.if_ne (tgt := 70) dX6_swings_50 (by decide) (fun c50 => ?_) (fun c50 => ?_)
        · refine Ev.lconst (v := 0) dX6_swings_70 (by decide) ?_
          refine Ev.lor dX6_swings_71 ?_
          refine Ev.lst1 dX6_swings_72 rfl rfl ?_
          apply Ev.iinc4 dX6_swings_73 rfl rfl
          · first | exact nI_inc _ | rfl
          refine Ev.goto (tgt := 30) dX6_swings_76 (by decide) ?_
          rw [hs _ (if_neg (fun z => z.1 (v01_t hy47 c50))).symm]
          exact ih v1 X1 _ hZ hq x1
        · refine Ev.ald0 dX6_swings_53 ?_
          refine Ev.ild4 dX6_swings_54 ?_
          refine Ev.cvI (Yc := mX6_priceWithout) (ci := 6) dX6_swings_56 lX6_324 vX6_priceWithout rfl (m_priceWithout hZ (by rw [x1]; exact hA) (hB.mono (by omega)) (Or.inr ⟨t, ht, rfl⟩)) ⟨_, hZ.2.1.1⟩ rfl rfl rfl rfl ?_
          rintro y56 M1 ⟨hy56, v2, X2, hZ, hK⟩
          refine Ev.ild3 dX6_swings_59 ?_
          refine Ev.icmp_eq (tgt := 70) dX6_swings_60 (by decide) (fun c60 => ?_) (fun c60 => ?_)
          · refine Ev.lconst (v := 0) dX6_swings_70 (by decide) ?_
            refine Ev.lor dX6_swings_71 ?_
            refine Ev.lst1 dX6_swings_72 rfl rfl ?_
            apply Ev.iinc4 dX6_swings_73 rfl rfl
            · first | exact nI_inc _ | rfl
            refine Ev.goto (tgt := 30) dX6_swings_76 (by decide) ?_
            rw [hs _ (if_neg (fun z => z.2 (hy56.symm.trans c60))).symm]
            exact ih v2 X2 _ hZ (hq.tr hK.q) ((hK.1 1 (by decide)).trans x1)
          · refine Ev.lconst (v := 1) dX6_swings_63 (by decide) ?_
            refine Ev.ild4 dX6_swings_64 ?_
            refine Ev.lshl dX6_swings_66 ?_
            refine Ev.goto (tgt := 71) dX6_swings_67 (by decide) ?_
            refine Ev.lor dX6_swings_71 ?_
            refine Ev.lst1 dX6_swings_72 rfl rfl ?_
            apply Ev.iinc4 dX6_swings_73 rfl rfl
            · first | exact nI_inc _ | rfl
            refine Ev.goto (tgt := 30) dX6_swings_76 (by decide) ?_
            rw [hs _ (if_pos ⟨v01_f hy47 c50, fun z => c60 (hy56.trans z)⟩).symm]
            exact ih v2 X2 _ hZ (hq.tr hK.q) ((hK.1 1 (by decide)).trans x1)
    refine Ct.of (ls := [some (.ref (a 0)), none, none, none, none]) (by decide) (by decide) rfl rfl rfl ?_
    refine Ev.ald0 dX6_swings_0 ?_
    refine Ev.iconst (v := 0) dX6_swings_1 (by decide) ?_
    refine Ev.mput (kx := 0) dX6_swings_2 fX6_1 hZ rfl rfl (fun M hZ => ?_)
    refine Ev.lconst (v := 0) dX6_swings_5 (by decide) ?_
    refine Ev.lst1 dX6_swings_6 rfl rfl ?_
    refine Ev.ald0 dX6_swings_7 ?_
    refine Ev.mgr (kx := 1) dX6_swings_8 fX6_13 hZ rfl ?_
    refine Ev.sipush (v := 329) dX6_swings_11 (by decide) ?_
    refine Ev.mld (j := 329) mq1 dX6_swings_14 hZ (by first | assumption | (simp only [nI, Int32.ofNat_add, Int32.ofNat_mul]; done) | (simp only [nI, Int32.ofNat_add, Int32.ofNat_mul]; rfl) | rfl) (by omega) ?_
    (try simp only [ux_s, ux_n, ne_eq, Nat.reduceEqDiff, Nat.succ_ne_self, not_false_eq_true])
    rw [e9]
    refine Ev.iconst (v := 2) dX6_swings_15 (by decide) ?_
    refine Ev.icmp_ne (tgt := 21) dX6_swings_16 (by decide) (fun c16 => ?_) (fun c16 => by first | exact absurd hph c16 | exact absurd c16 hph)
    refine Ev.ald0 dX6_swings_21 ?_
    refine Ev.iconst (v := -1) dX6_swings_22 (by decide) ?_
    refine Ev.cvI (Yc := mX6_priceWithout) (ci := 6) dX6_swings_23 lX6_324 vX6_priceWithout rfl (m_priceWithout hZ hA (hB.mono (by omega)) (Or.inl rfl)) ⟨_, hZ.2.1.1⟩ rfl rfl rfl rfl ?_
    rintro y23 M1 ⟨hy23, v1, X1, hZ, hK⟩
    rw [hnow] at hy23
    subst hy23
    refine Ev.ist3 dX6_swings_26 rfl rfl ?_
    refine Ev.iconst (v := 0) dX6_swings_27 (by decide) ?_
    refine Ev.ist4 dX6_swings_28 rfl rfl ?_
    exact KL v1 X1 M1 hZ (QT.rf.t.tr hK.q) (hK.1 1 (by decide))
end MMJ
