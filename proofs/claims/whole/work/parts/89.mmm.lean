section MMM
variable {G : GP} {a : Nat → Nat} {M0 M : Wd} {v : Nat → Int32} {L : Int64} {X : Nat → Nat → Int32} {S : Sg} {b w : Nat → Int32}
set_option maxRecDepth 20000 in
theorem m_gain (hS : Sok S) (hR : MR v X S) (hZ : MZ a M0 v L X M) : CtL G mX6_gain [.ref (a 0)] M 0 0 (fun x M' => x = an_gain S ∧ ∃ (v' : Nat → Int32) (X' : Nat → Nat → Int32), MZ a M0 v' L X' M' ∧ MR v' X' S) := by
  have hB : BW 40 S.1.1 := hS.1.1
  have hn := hB.2.1
  refine Ct.of (ls := [some (.ref (a 0)), none, none, none, none, none]) (by decide) (by decide) rfl rfl rfl ?_
  refine Ev.ald0 dX6_gain_0 ?_
  refine Ev.iconst (v := 0) dX6_gain_1 (by decide) ?_
  refine Ev.mput (kx := 0) dX6_gain_2 fX6_1 hZ rfl rfl (fun M hZ => ?_)
  refine Ev.ald0 dX6_gain_5 ?_
  refine Ev.cvV (Yc := mX6_lays) (ci := 6) dX6_gain_6 lX6_314 vX6_lays rfl (m_lyS hS hR QT.rf.t hZ) ⟨_, hZ.2.1.1⟩ rfl rfl rfl rfl ?_
  rintro M1 ⟨v1, X1, hZ, t0, hR1, hx⟩
  refine Ev.lconst (v := 0) dX6_gain_9 (by decide) ?_
  refine Ev.lst1 dX6_gain_10 rfl rfl ?_
  refine Ev.iconst (v := 0) dX6_gain_11 (by decide) ?_
  refine Ev.ist3 dX6_gain_12 rfl rfl ?_
  skip
  have e8 : X1 1 328 = nI (bn S.1.1) := hR1.1.1.2.1.trans hB.1
  obtain ⟨y1, y2, y3, y4, y5, y6, y7, y8, y9⟩ := hx
  rw [bas_n hS] at y7 y8
  by_cases hp : 0 < (xP (bas S) (-1)).1
  · rw [an_gain, if_pos hp]
    generalize (xP (bas S) (-1)).1 = pr at y1 hp
    have hp2 : ¬ pr ≤ 0 := Int32.not_le.mpr hp
    have KL : ∀ a4 a5, Ev G mX6_gain 13 [some (.ref (a 0)), some (.long (gsm (bas S) pr 0)), none, some (.int (nI 0)), a4, a5] [] M1 0 0 (fun u M' => ∃ x, u = some (.long x) ∧ x = gsm (bas S) pr (bn S.1.1) ∧ ∃ (v' : Nat → Int32) (X' : Nat → Nat → Int32), MZ a M0 v' L X' M' ∧ MR v' X' S) := by
      refine ev_ind (bn S.1.1) (fun t => ∀ a4 a5, Ev G mX6_gain 13 [some (.ref (a 0)), some (.long (gsm (bas S) pr t)), none, some (.int (nI t)), a4, a5] [] M1 0 0 (fun u M' => ∃ x, u = some (.long x) ∧ x = gsm (bas S) pr (bn S.1.1) ∧ ∃ (v' : Nat → Int32) (X' : Nat → Nat → Int32), MZ a M0 v' L X' M' ∧ MR v' X' S)) ?_ ?_
      · intro a4 a5
        refine Ev.ild3 dX6_gain_13 ?_
        refine Ev.ald0 dX6_gain_14 ?_
        refine Ev.mgr (kx := 1) dX6_gain_15 fX6_13 hZ rfl ?_
        refine Ev.sipush (v := 328) dX6_gain_18 (by decide) ?_
        refine Ev.mld (j := 328) mq1 dX6_gain_21 hZ (by first | assumption | (simp only [nI, Int32.ofNat_add, Int32.ofNat_mul]; done) | (simp only [nI, Int32.ofNat_add, Int32.ofNat_mul]; rfl) | rfl) (by omega) ?_
        (try simp only [ux_s, ux_n, ne_eq, Nat.reduceEqDiff, Nat.succ_ne_self, not_false_eq_true])
        rw [e8]
        refine Ev.icmp_ge (tgt := 113) dX6_gain_22 (by decide) (fun c22 => ?_) (fun c22 => by first | exact absurd (Int32.le_refl _) c22 | exact absurd c22 (Int32.le_refl _))
        refine Ev.lld1 dX6_gain_113 ?_
        refine Ev.lret dX6_gain_114 rfl ?_
        exact ⟨_, rfl, rfl, _, _, hZ, hR1⟩
      · intro t ht ih a4 a5
        have f0 : X1 1 (380 + (8 * t + 0)) = bas S (8 * t + 0) := y8 _ (by omega)
        have f1 : X1 1 (380 + (8 * t + 1)) = bas S (8 * t + 1) := y8 _ (by omega)
        have f3 : X1 1 (380 + (8 * t + 3)) = bas S (8 * t + 3) := y8 _ (by omega)
        rw [gsm] at ih
        have J : ∀ y, y = (if bas S (8 * t + 0) = 0 then bas S (8 * t + 3) - pr else pr - bas S (8 * t + 3)) → ∀ a4 a5, Ev G mX6_gain 80 [some (.ref (a 0)), some (.long (gsm (bas S) pr t)), none, some (.int (nI t)), a4, a5] [.long y.toInt64] M1 0 0 (fun u M' => ∃ x, u = some (.long x) ∧ x = gsm (bas S) pr (bn S.1.1) ∧ ∃ (v' : Nat → Int32) (X' : Nat → Nat → Int32), MZ a M0 v' L X' M' ∧ MR v' X' S) := by
          intro y hy a4 a5
          rw [← hy] at ih
          refine Ev.lst4 dX6_gain_80 rfl rfl ?_
          refine Ev.lld1 dX6_gain_82 ?_
          refine Ev.ald0 dX6_gain_83 ?_
          refine Ev.ild3 dX6_gain_84 ?_
          refine Ev.iconst (v := 1) dX6_gain_85 (by decide) ?_
          refine Ev.cvI (Yc := mX6_xOf) (ci := 6) dX6_gain_86 lX6_337 vX6_xOf rfl (m_xOf t 1 rfl rfl (by omega) (by omega) hZ) ⟨_, hZ.2.1.1⟩ rfl rfl rfl rfl ?_
          rintro y86 M9 ⟨hy86, rfl⟩
          rw [f1] at hy86
          subst hy86
          refine Ev.if_ne (tgt := 96) dX6_gain_89 (by decide) (fun c89 => ?_) (fun c89 => ?_)
          · refine Ev.lld4 dX6_gain_96 ?_
            refine Ev.ald0 dX6_gain_98 ?_
            refine Ev.ild3 dX6_gain_99 ?_
            refine Ev.cvI (Yc := mX6_xFill) (ci := 6) dX6_gain_100 lX6_340 vX6_xFill rfl (m_xFill t rfl (by omega) (y7 t ht) hZ) ⟨_, hZ.2.1.1⟩ rfl rfl rfl rfl ?_
            rintro y100 M9 ⟨hy100, rfl⟩
            have hy100 : y100 = xfl (bas S) t := hy100
            subst hy100
            refine Ev.i2l dX6_gain_103 ?_
            refine Ev.lmul dX6_gain_104 ?_
            refine Ev.ladd dX6_gain_105 ?_
            refine Ev.lst1 dX6_gain_106 rfl rfl ?_
            apply Ev.iinc3 dX6_gain_107 rfl rfl
            · first | exact nI_inc _ | rfl
            refine Ev.goto (tgt := 13) dX6_gain_110 (by decide) ?_
            rw [if_neg c89] at ih
            exact ih _ _
          · refine Ev.lconst (v := 0) dX6_gain_92 (by decide) ?_
            refine Ev.goto (tgt := 105) dX6_gain_93 (by decide) ?_
            refine Ev.ladd dX6_gain_105 ?_
            refine Ev.lst1 dX6_gain_106 rfl rfl ?_
            apply Ev.iinc3 dX6_gain_107 rfl rfl
            · first | exact nI_inc _ | rfl
            refine Ev.goto (tgt := 13) dX6_gain_110 (by decide) ?_
            rw [if_pos c89] at ih
            exact ih _ _
        refine Ev.ild3 dX6_gain_13 ?_
        refine Ev.ald0 dX6_gain_14 ?_
        refine Ev.mgr (kx := 1) dX6_gain_15 fX6_13 hZ rfl ?_
        refine Ev.sipush (v := 328) dX6_gain_18 (by decide) ?_
        refine Ev.mld (j := 328) mq1 dX6_gain_21 hZ (by first | assumption | (simp only [nI, Int32.ofNat_add, Int32.ofNat_mul]; done) | (simp only [nI, Int32.ofNat_add, Int32.ofNat_mul]; rfl) | rfl) (by omega) ?_
        (try simp only [ux_s, ux_n, ne_eq, Nat.reduceEqDiff, Nat.succ_ne_self, not_false_eq_true])
        rw [e8]
        refine Ev.icmp_ge (tgt := 113) dX6_gain_22 (by decide) (fun c22 => by first | exact absurd c22 (nI_ge ht (by omega)) | exact absurd (nI_ge ht (by omega)) c22) (fun c22 => ?_)
        refine Ev.ald0 dX6_gain_25 ?_
        refine Ev.mgr (kx := 1) dX6_gain_26 fX6_13 hZ rfl ?_
        refine Ev.sipush (v := 333) dX6_gain_29 (by decide) ?_
        refine Ev.mld (j := 333) mq1 dX6_gain_32 hZ (by first | assumption | (simp only [nI, Int32.ofNat_add, Int32.ofNat_mul]; done) | (simp only [nI, Int32.ofNat_add, Int32.ofNat_mul]; rfl) | rfl) (by omega) ?_
        (try simp only [ux_s, ux_n, ne_eq, Nat.reduceEqDiff, Nat.succ_ne_self, not_false_eq_true])
        rw [y1]
        refine Ev.if_le (tgt := 113) dX6_gain_33 (by decide) (fun c33 => by first | exact absurd c33 hp2 | exact absurd hp2 c33) (fun c33 => ?_)
        refine Ev.ald0 dX6_gain_36 ?_
        refine Ev.ild3 dX6_gain_37 ?_
        refine Ev.iconst (v := 0) dX6_gain_38 (by decide) ?_
        refine Ev.cvI (Yc := mX6_xOf) (ci := 6) dX6_gain_39 lX6_337 vX6_xOf rfl (m_xOf t 0 rfl rfl (by omega) (by omega) hZ) ⟨_, hZ.2.1.1⟩ rfl rfl rfl rfl ?_
        rintro y39 M9 ⟨hy39, rfl⟩
        rw [f0] at hy39
        subst hy39
        refine Ev.if_ne (tgt := 64) dX6_gain_42 (by decide) (fun c42 => ?_) (fun c42 => ?_)
        · refine Ev.ald0 dX6_gain_64 ?_
          refine Ev.mgr (kx := 1) dX6_gain_65 fX6_13 hZ rfl ?_
          refine Ev.sipush (v := 333) dX6_gain_68 (by decide) ?_
          refine Ev.mld (j := 333) mq1 dX6_gain_71 hZ (by first | assumption | (simp only [nI, Int32.ofNat_add, Int32.ofNat_mul]; done) | (simp only [nI, Int32.ofNat_add, Int32.ofNat_mul]; rfl) | rfl) (by omega) ?_
          (try simp only [ux_s, ux_n, ne_eq, Nat.reduceEqDiff, Nat.succ_ne_self, not_false_eq_true])
          rw [y1]
          refine Ev.ald0 dX6_gain_72 ?_
          refine Ev.ild3 dX6_gain_73 ?_
          refine Ev.iconst (v := 3) dX6_gain_74 (by decide) ?_
          refine Ev.cvI (Yc := mX6_xOf) (ci := 6) dX6_gain_75 lX6_337 vX6_xOf rfl (m_xOf t 3 rfl rfl (by omega) (by omega) hZ) ⟨_, hZ.2.1.1⟩ rfl rfl rfl rfl ?_
          rintro y75 M9 ⟨hy75, rfl⟩
          rw [f3] at hy75
          subst hy75
          refine Ev.isub dX6_gain_78 ?_
          refine Ev.i2l dX6_gain_79 ?_
          exact J _ (if_neg c42).symm _ _
        · refine Ev.ald0 dX6_gain_45 ?_
          refine Ev.ild3 dX6_gain_46 ?_
          refine Ev.iconst (v := 3) dX6_gain_47 (by decide) ?_
          refine Ev.cvI (Yc := mX6_xOf) (ci := 6) dX6_gain_48 lX6_337 vX6_xOf rfl (m_xOf t 3 rfl rfl (by omega) (by omega) hZ) ⟨_, hZ.2.1.1⟩ rfl rfl rfl rfl ?_
          rintro y48 M9 ⟨hy48, rfl⟩
          rw [f3] at hy48
          subst hy48
          refine Ev.ald0 dX6_gain_51 ?_
          refine Ev.mgr (kx := 1) dX6_gain_52 fX6_13 hZ rfl ?_
          refine Ev.sipush (v := 333) dX6_gain_55 (by decide) ?_
          refine Ev.mld (j := 333) mq1 dX6_gain_58 hZ (by first | assumption | (simp only [nI, Int32.ofNat_add, Int32.ofNat_mul]; done) | (simp only [nI, Int32.ofNat_add, Int32.ofNat_mul]; rfl) | rfl) (by omega) ?_
          (try simp only [ux_s, ux_n, ne_eq, Nat.reduceEqDiff, Nat.succ_ne_self, not_false_eq_true])
          rw [y1]
          refine Ev.isub dX6_gain_59 ?_
          refine Ev.i2l dX6_gain_60 ?_
          refine Ev.goto (tgt := 80) dX6_gain_61 (by decide) ?_
          exact J _ (if_pos c42).symm _ _
    exact KL _ _
  · rw [an_gain, if_neg hp]
    have hp2 : (xP (bas S) (-1)).1 ≤ 0 := Int32.not_lt.mp hp
    refine Ev.ild3 dX6_gain_13 ?_
    refine Ev.ald0 dX6_gain_14 ?_
    refine Ev.mgr (kx := 1) dX6_gain_15 fX6_13 hZ rfl ?_
    refine Ev.sipush (v := 328) dX6_gain_18 (by decide) ?_
    refine Ev.mld (j := 328) mq1 dX6_gain_21 hZ (by first | assumption | (simp only [nI, Int32.ofNat_add, Int32.ofNat_mul]; done) | (simp only [nI, Int32.ofNat_add, Int32.ofNat_mul]; rfl) | rfl) (by omega) ?_
    (try simp only [ux_s, ux_n, ne_eq, Nat.reduceEqDiff, Nat.succ_ne_self, not_false_eq_true])
    rw [e8]
    refine Ev.icmp_ge (tgt := 113) dX6_gain_22 (by decide) (fun c22 => ?_) (fun c22 => ?_)
    · refine Ev.lld1 dX6_gain_113 ?_
      refine Ev.lret dX6_gain_114 rfl ?_
      exact ⟨_, rfl, rfl, _, _, hZ, hR1⟩
    · refine Ev.ald0 dX6_gain_25 ?_
      refine Ev.mgr (kx := 1) dX6_gain_26 fX6_13 hZ rfl ?_
      refine Ev.sipush (v := 333) dX6_gain_29 (by decide) ?_
      refine Ev.mld (j := 333) mq1 dX6_gain_32 hZ (by first | assumption | (simp only [nI, Int32.ofNat_add, Int32.ofNat_mul]; done) | (simp only [nI, Int32.ofNat_add, Int32.ofNat_mul]; rfl) | rfl) (by omega) ?_
      (try simp only [ux_s, ux_n, ne_eq, Nat.reduceEqDiff, Nat.succ_ne_self, not_false_eq_true])
      rw [y1]
      refine Ev.if_le (tgt := 113) dX6_gain_33 (by decide) (fun c33 => ?_) (fun c33 => by first | exact absurd hp2 c33 | exact absurd c33 hp2)
      refine Ev.lld1 dX6_gain_113 ?_
      refine Ev.lret dX6_gain_114 rfl ?_
      exact ⟨_, rfl, rfl, _, _, hZ, hR1⟩
set_option maxRecDepth 20000 in
theorem m_leftOf {sd p : Int32} (hA : Ag (X 1) b) (hB : BW 40 b) (x7 : ∀ o, o < bn b → X 1 (339 + o) = xf w o) (x8 : ∀ j, j < 8 * bn b → X 1 (380 + j) = w j) (hZ : MZ a M0 v L X M) : CtI G mX6_leftOf [.ref (a 0), .int sd, .int p] M 0 0 (fun x M' => x = lfo w sd p (bn b) ∧ M' = M) := by
  have hn := hB.2.1
  have e8 : X 1 328 = nI (bn b) := hA.2.1.trans hB.1
  have KL : ∀ a5 a6 a7, Ev G mX6_leftOf 5 [some (.ref (a 0)), some (.int sd), some (.int p), some (.int (lfo w sd p 0)), some (.int (nI 0)), a5, a6, a7] [] M 0 0 (fun u M' => ∃ x, u = some (.int x) ∧ x = lfo w sd p (bn b) ∧ M' = M) := by
    refine ev_ind (bn b) (fun t => ∀ a5 a6 a7, Ev G mX6_leftOf 5 [some (.ref (a 0)), some (.int sd), some (.int p), some (.int (lfo w sd p t)), some (.int (nI t)), a5, a6, a7] [] M 0 0 (fun u M' => ∃ x, u = some (.int x) ∧ x = lfo w sd p (bn b) ∧ M' = M)) ?_ ?_
    · intro a5 a6 a7
      refine Ev.ild4 dX6_leftOf_5 ?_
      refine Ev.ald0 dX6_leftOf_7 ?_
      refine Ev.mgr (kx := 1) dX6_leftOf_8 fX6_13 hZ rfl ?_
      refine Ev.sipush (v := 328) dX6_leftOf_11 (by decide) ?_
      refine Ev.mld (j := 328) mq1 dX6_leftOf_14 hZ (by first | assumption | (simp only [nI, Int32.ofNat_add, Int32.ofNat_mul]; done) | (simp only [nI, Int32.ofNat_add, Int32.ofNat_mul]; rfl) | rfl) (by omega) ?_
      (try simp only [ux_s, ux_n, ne_eq, Nat.reduceEqDiff, Nat.succ_ne_self, not_false_eq_true])
      rw [e8]
      refine Ev.icmp_ge (tgt := 153) dX6_leftOf_15 (by decide) (fun c15 => ?_) (fun c15 => by first | exact absurd (Int32.le_refl _) c15 | exact absurd c15 (Int32.le_refl _))
      refine Ev.ild3 dX6_leftOf_153 ?_
      refine Ev.iret dX6_leftOf_154 rfl rfl ?_
      exact ⟨_, rfl, rfl, rfl⟩
    · intro t ht ih a5 a6 a7
      have ef := x7 t ht
      have f0 : X 1 (380 + (8 * t + 0)) = w (8 * t + 0) := x8 _ (by omega)
      have f1 : X 1 (380 + (8 * t + 1)) = w (8 * t + 1) := x8 _ (by omega)
      have f2 : X 1 (380 + (8 * t + 2)) = w (8 * t + 2) := x8 _ (by omega)
      have f3 : X 1 (380 + (8 * t + 3)) = w (8 * t + 3) := x8 _ (by omega)
      rw [lfo] at ih
      have J2 : ∀ (is wi : Int32) a5 a7, is = (if 0 ≤ xf w t ∧ w (8 * t + 1) ≠ 0 ∧ w (8 * t + 1) ≠ 4 ∧ w (8 * t + 0) = sd then 1 else 0) → wi = (if sd = 0 ∧ p ≤ w (8 * t + 3) ∨ sd ≠ 0 ∧ w (8 * t + 3) ≤ p then 1 else 0) → Ev G mX6_leftOf 109 [some (.ref (a 0)), some (.int sd), some (.int p), some (.int (lfo w sd p t)), some (.int (nI t)), a5, some (.int is), a7] [.int wi] M 0 0 (fun u M' => ∃ x, u = some (.int x) ∧ x = lfo w sd p (bn b) ∧ M' = M) := by
        intro is wi a5 a7 his hwi
        refine Ev.ist7 dX6_leftOf_109 rfl rfl ?_
        refine Ev.ild3 dX6_leftOf_111 ?_
        refine Ev.ild6 dX6_leftOf_112 ?_
        refine Ev.if_eq (tgt := 144) dX6_leftOf_114 (by decide) (fun c114 => ?_) (fun c114 => ?_)
        · refine Ev.iconst (v := 0) dX6_leftOf_144 (by decide) ?_
          refine Ev.iadd dX6_leftOf_145 ?_
          refine Ev.ist3 dX6_leftOf_146 rfl rfl ?_
          apply Ev.iinc4 dX6_leftOf_147 rfl rfl
          · first | exact nI_inc _ | rfl
          refine Ev.goto (tgt := 5) dX6_leftOf_150 (by decide) ?_
          rw [if_neg (fun z => v01_f his c114 z.1)] at ih
          exact ih _ _ _
        · refine Ev.ild7 dX6_leftOf_117 ?_
          refine Ev.if_eq (tgt := 144) dX6_leftOf_119 (by decide) (fun c119 => ?_) (fun c119 => ?_)
          · refine Ev.iconst (v := 0) dX6_leftOf_144 (by decide) ?_
            refine Ev.iadd dX6_leftOf_145 ?_
            refine Ev.ist3 dX6_leftOf_146 rfl rfl ?_
            apply Ev.iinc4 dX6_leftOf_147 rfl rfl
            · first | exact nI_inc _ | rfl
            refine Ev.goto (tgt := 5) dX6_leftOf_150 (by decide) ?_
            rw [if_neg (fun z => v01_f hwi c119 z.2)] at ih
            exact ih _ _ _
          · refine Ev.ald0 dX6_leftOf_122 ?_
            refine Ev.ild4 dX6_leftOf_123 ?_
            refine Ev.iconst (v := 2) dX6_leftOf_125 (by decide) ?_
            refine Ev.cvI (Yc := mX6_xOf) (ci := 6) dX6_leftOf_126 lX6_337 vX6_xOf rfl (m_xOf t 2 rfl rfl (by omega) (by omega) hZ) ⟨_, hZ.2.1.1⟩ rfl rfl rfl rfl ?_
            rintro y126 M9 ⟨hy126, rfl⟩
            rw [f2] at hy126
            subst hy126
            refine Ev.ald0 dX6_leftOf_129 ?_
            refine Ev.mgr (kx := 1) dX6_leftOf_130 fX6_13 hZ rfl ?_
            refine Ev.sipush (v := 339) dX6_leftOf_133 (by decide) ?_
            refine Ev.ild4 dX6_leftOf_136 ?_
            refine Ev.iadd dX6_leftOf_138 ?_
            refine Ev.mld (j := (339 + t)) mq1 dX6_leftOf_139 hZ (by first | assumption | (simp only [nI, Int32.ofNat_add, Int32.ofNat_mul]; done) | (simp only [nI, Int32.ofNat_add, Int32.ofNat_mul]; rfl) | rfl) (by omega) ?_
            (try simp only [ux_s, ux_n, ne_eq, Nat.reduceEqDiff, Nat.succ_ne_self, not_false_eq_true])
            rw [ef]
            refine Ev.isub dX6_leftOf_140 ?_
            refine Ev.goto (tgt := 145) dX6_leftOf_141 (by decide) ?_
            refine Ev.iadd dX6_leftOf_145 ?_
            refine Ev.ist3 dX6_leftOf_146 rfl rfl ?_
            apply Ev.iinc4 dX6_leftOf_147 rfl rfl
            · first | exact nI_inc _ | rfl
            refine Ev.goto (tgt := 5) dX6_leftOf_150 (by decide) ?_
            rw [if_pos ⟨v01_t his c114, v01_t hwi c119⟩] at ih
            exact ih _ _ _
      have J1 : ∀ (is z5 : Int32) a6 a7, is = (if 0 ≤ xf w t ∧ w (8 * t + 1) ≠ 0 ∧ w (8 * t + 1) ≠ 4 ∧ w (8 * t + 0) = sd then 1 else 0) → Ev G mX6_leftOf 68 [some (.ref (a 0)), some (.int sd), some (.int p), some (.int (lfo w sd p t)), some (.int (nI t)), some (.int z5), a6, a7] [.int is] M 0 0 (fun u M' => ∃ x, u = some (.int x) ∧ x = lfo w sd p (bn b) ∧ M' = M) := by
        intro is z5 a6 a7 his
        refine Ev.ist6 dX6_leftOf_68 rfl rfl ?_
        refine Ev.ild1 dX6_leftOf_70 ?_
        refine Ev.if_ne (tgt := 93) dX6_leftOf_71 (by decide) (fun c71 => ?_) (fun c71 => ?_)
        · refine Ev.ald0 dX6_leftOf_93 ?_
          refine Ev.ild4 dX6_leftOf_94 ?_
          refine Ev.iconst (v := 3) dX6_leftOf_96 (by decide) ?_
          refine Ev.cvI (Yc := mX6_xOf) (ci := 6) dX6_leftOf_97 lX6_337 vX6_xOf rfl (m_xOf t 3 rfl rfl (by omega) (by omega) hZ) ⟨_, hZ.2.1.1⟩ rfl rfl rfl rfl ?_
          rintro y97 M9 ⟨hy97, rfl⟩
          rw [f3] at hy97
          subst hy97
          refine Ev.ild2 dX6_leftOf_100 ?_
          refine Ev.icmp_gt (tgt := 108) dX6_leftOf_101 (by decide) (fun c101 => ?_) (fun c101 => ?_)
          · refine Ev.iconst (v := 0) dX6_leftOf_108 (by decide) ?_
            exact J2 _ _ _ _ his (if_neg (fun z => z.elim (fun y => c71 y.1) (fun y => absurd c101 (Int32.not_lt.mpr y.2)))).symm
          · refine Ev.iconst (v := 1) dX6_leftOf_104 (by decide) ?_
            refine Ev.goto (tgt := 109) dX6_leftOf_105 (by decide) ?_
            exact J2 _ _ _ _ his (if_pos (Or.inr ⟨c71, Int32.not_lt.mp c101⟩)).symm
        · refine Ev.ald0 dX6_leftOf_74 ?_
          refine Ev.ild4 dX6_leftOf_75 ?_
          refine Ev.iconst (v := 3) dX6_leftOf_77 (by decide) ?_
          refine Ev.cvI (Yc := mX6_xOf) (ci := 6) dX6_leftOf_78 lX6_337 vX6_xOf rfl (m_xOf t 3 rfl rfl (by omega) (by omega) hZ) ⟨_, hZ.2.1.1⟩ rfl rfl rfl rfl ?_
          rintro y78 M9 ⟨hy78, rfl⟩
          rw [f3] at hy78
          subst hy78
          refine Ev.ild2 dX6_leftOf_81 ?_
          refine Ev.icmp_lt (tgt := 89) dX6_leftOf_82 (by decide) (fun c82 => ?_) (fun c82 => ?_)
          · refine Ev.iconst (v := 0) dX6_leftOf_89 (by decide) ?_
            refine Ev.goto (tgt := 109) dX6_leftOf_90 (by decide) ?_
            exact J2 _ _ _ _ his (if_neg (fun z => z.elim (fun y => absurd c82 (Int32.not_lt.mpr y.2)) (fun y => y.1 c71))).symm
          · refine Ev.iconst (v := 1) dX6_leftOf_85 (by decide) ?_
            refine Ev.goto (tgt := 109) dX6_leftOf_86 (by decide) ?_
            exact J2 _ _ _ _ his (if_pos (Or.inl ⟨c71, Int32.not_lt.mp c82⟩)).symm
      refine Ev.ild4 dX6_leftOf_5 ?_
      refine Ev.ald0 dX6_leftOf_7 ?_
      refine Ev.mgr (kx := 1) dX6_leftOf_8 fX6_13 hZ rfl ?_
      refine Ev.sipush (v := 328) dX6_leftOf_11 (by decide) ?_
      refine Ev.mld (j := 328) mq1 dX6_leftOf_14 hZ (by first | assumption | (simp only [nI, Int32.ofNat_add, Int32.ofNat_mul]; done) | (simp only [nI, Int32.ofNat_add, Int32.ofNat_mul]; rfl) | rfl) (by omega) ?_
      (try simp only [ux_s, ux_n, ne_eq, Nat.reduceEqDiff, Nat.succ_ne_self, not_false_eq_true])
      rw [e8]
      refine Ev.icmp_ge (tgt := 153) dX6_leftOf_15 (by decide) (fun c15 => by first | exact absurd c15 (nI_ge ht (by omega)) | exact absurd (nI_ge ht (by omega)) c15) (fun c15 => ?_)
      refine Ev.ald0 dX6_leftOf_18 ?_
      refine Ev.ild4 dX6_leftOf_19 ?_
      refine Ev.iconst (v := 1) dX6_leftOf_21 (by decide) ?_
      refine Ev.cvI (Yc := mX6_xOf) (ci := 6) dX6_leftOf_22 lX6_337 vX6_xOf rfl (m_xOf t 1 rfl rfl (by omega) (by omega) hZ) ⟨_, hZ.2.1.1⟩ rfl rfl rfl rfl ?_
      rintro y22 M9 ⟨hy22, rfl⟩
      rw [f1] at hy22
      subst hy22
      refine Ev.ist5 dX6_leftOf_25 rfl rfl ?_
      refine Ev.ald0 dX6_leftOf_27 ?_
      refine Ev.mgr (kx := 1) dX6_leftOf_28 fX6_13 hZ rfl ?_
      refine Ev.sipush (v := 339) dX6_leftOf_31 (by decide) ?_
      refine Ev.ild4 dX6_leftOf_34 ?_
      refine Ev.iadd dX6_leftOf_36 ?_
      refine Ev.mld (j := (339 + t)) mq1 dX6_leftOf_37 hZ (by first | assumption | (simp only [nI, Int32.ofNat_add, Int32.ofNat_mul]; done) | (simp only [nI, Int32.ofNat_add, Int32.ofNat_mul]; rfl) | rfl) (by omega) ?_
      (try simp only [ux_s, ux_n, ne_eq, Nat.reduceEqDiff, Nat.succ_ne_self, not_false_eq_true])
      rw [ef]
      refine Ev.if_lt (tgt := 67) dX6_leftOf_38 (by decide) (fun c38 => ?_) (fun c38 => ?_)
      · refine Ev.iconst (v := 0) dX6_leftOf_67 (by decide) ?_
        exact J1 _ _ _ _ (if_neg (fun z => absurd c38 (Int32.not_lt.mpr z.1))).symm
      · refine Ev.ild5 dX6_leftOf_41 ?_
        refine Ev.if_eq (tgt := 67) dX6_leftOf_43 (by decide) (fun c43 => ?_) (fun c43 => ?_)
        · refine Ev.iconst (v := 0) dX6_leftOf_67 (by decide) ?_
          exact J1 _ _ _ _ (if_neg (fun z => z.2.1 c43)).symm
        · refine Ev.ild5 dX6_leftOf_46 ?_
          refine Ev.iconst (v := 4) dX6_leftOf_48 (by decide) ?_
          refine Ev.icmp_eq (tgt := 67) dX6_leftOf_49 (by decide) (fun c49 => ?_) (fun c49 => ?_)
          · refine Ev.iconst (v := 0) dX6_leftOf_67 (by decide) ?_
            exact J1 _ _ _ _ (if_neg (fun z => z.2.2.1 c49)).symm
          · refine Ev.ald0 dX6_leftOf_52 ?_
            refine Ev.ild4 dX6_leftOf_53 ?_
            refine Ev.iconst (v := 0) dX6_leftOf_55 (by decide) ?_
            refine Ev.cvI (Yc := mX6_xOf) (ci := 6) dX6_leftOf_56 lX6_337 vX6_xOf rfl (m_xOf t 0 rfl rfl (by omega) (by omega) hZ) ⟨_, hZ.2.1.1⟩ rfl rfl rfl rfl ?_
            rintro y56 M9 ⟨hy56, rfl⟩
            rw [f0] at hy56
            subst hy56
            refine Ev.ild1 dX6_leftOf_59 ?_
            refine Ev.icmp_ne (tgt := 67) dX6_leftOf_60 (by decide) (fun c60 => ?_) (fun c60 => ?_)
            · refine Ev.iconst (v := 0) dX6_leftOf_67 (by decide) ?_
              exact J1 _ _ _ _ (if_neg (fun z => c60 z.2.2.2)).symm
            · refine Ev.iconst (v := 1) dX6_leftOf_63 (by decide) ?_
              refine Ev.goto (tgt := 68) dX6_leftOf_64 (by decide) ?_
              exact J1 _ _ _ _ (if_pos ⟨Int32.not_lt.mp c38, c43, c49, c60⟩).symm
  refine Ct.of (ls := [some (.ref (a 0)), some (.int sd), some (.int p), none, none, none, none, none]) (by decide) (by decide) rfl rfl rfl ?_
  refine Ev.iconst (v := 0) dX6_leftOf_0 (by decide) ?_
  refine Ev.ist3 dX6_leftOf_1 rfl rfl ?_
  refine Ev.iconst (v := 0) dX6_leftOf_2 (by decide) ?_
  refine Ev.ist4 dX6_leftOf_3 rfl rfl ?_
  exact KL _ _ _
set_option maxRecDepth 20000 in
theorem m_left (hS : Sok S) (hR : MR v X S) (hZ : MZ a M0 v L X M) : CtI G mX6_left [.ref (a 0)] M 0 0 (fun x M' => x = an_left S ∧ ∃ (v' : Nat → Int32) (X' : Nat → Nat → Int32), MZ a M0 v' L X' M' ∧ MR v' X' S) := by
  have hB : BW 40 S.1.1 := hS.1.1
  have hn := hB.2.1
  obtain ⟨-, -, -, h4, h5, h6, h7, h8, -⟩ := hS.1.1
  refine Ct.of (ls := [some (.ref (a 0)), none, none, none]) (by decide) (by decide) rfl rfl rfl ?_
  refine Ev.ald0 dX6_left_0 ?_
  refine Ev.iconst (v := 0) dX6_left_1 (by decide) ?_
  refine Ev.mput (kx := 0) dX6_left_2 fX6_1 hZ rfl rfl (fun M hZ => ?_)
  refine Ev.ald0 dX6_left_5 ?_
  refine Ev.cvV (Yc := mX6_lays) (ci := 6) dX6_left_6 lX6_314 vX6_lays rfl (m_lyS hS hR QT.rf.t hZ) ⟨_, hZ.2.1.1⟩ rfl rfl rfl rfl ?_
  rintro M1 ⟨v1, X1, hZ, t0, hR1, hx⟩
  have e31 : X1 1 331 = nI (blo S.1.1) := hR1.1.1.2.2.2.2.1.trans h4
  have e32 : X1 1 332 = nI (bhi S.1.1) := hR1.1.1.2.2.2.2.2.trans h5
  refine Ev.iconst (v := 0) dX6_left_9 (by decide) ?_
  refine Ev.ist1 dX6_left_10 rfl rfl ?_
  refine Ev.ald0 dX6_left_11 ?_
  refine Ev.mgr (kx := 1) dX6_left_12 fX6_13 hZ rfl ?_
  refine Ev.sipush (v := 331) dX6_left_15 (by decide) ?_
  refine Ev.mld (j := 331) mq1 dX6_left_18 hZ (by first | assumption | (simp only [nI, Int32.ofNat_add, Int32.ofNat_mul]; done) | (simp only [nI, Int32.ofNat_add, Int32.ofNat_mul]; rfl) | rfl) (by omega) ?_
  (try simp only [ux_s, ux_n, ne_eq, Nat.reduceEqDiff, Nat.succ_ne_self, not_false_eq_true])
  rw [e31]
  refine Ev.ist2 dX6_left_19 rfl rfl ?_
  skip
  obtain ⟨y1, y2, y3, y4, y5, y6, y7, y8, y9⟩ := hx
  rw [bas_n hS] at y7 y8
  rw [an_left]
  have KL : ∀ a3, Ev G mX6_left 20 [some (.ref (a 0)), some (.int (lmx (bas S) (bn S.1.1) (blo S.1.1) 0)), some (.int (nI (blo S.1.1 + 0))), a3] [] M1 0 0 (fun u M' => ∃ x, u = some (.int x) ∧ x = lmx (bas S) (bn S.1.1) (blo S.1.1) (bhi S.1.1 + 1 - blo S.1.1) ∧ ∃ (v' : Nat → Int32) (X' : Nat → Nat → Int32), MZ a M0 v' L X' M' ∧ MR v' X' S) := by
    refine ev_ind (bhi S.1.1 + 1 - blo S.1.1) (fun t => ∀ a3, Ev G mX6_left 20 [some (.ref (a 0)), some (.int (lmx (bas S) (bn S.1.1) (blo S.1.1) t)), some (.int (nI (blo S.1.1 + t))), a3] [] M1 0 0 (fun u M' => ∃ x, u = some (.int x) ∧ x = lmx (bas S) (bn S.1.1) (blo S.1.1) (bhi S.1.1 + 1 - blo S.1.1) ∧ ∃ (v' : Nat → Int32) (X' : Nat → Nat → Int32), MZ a M0 v' L X' M' ∧ MR v' X' S)) ?_ ?_
    · intro a3
      refine Ev.ild2 dX6_left_20 ?_
      refine Ev.ald0 dX6_left_21 ?_
      refine Ev.mgr (kx := 1) dX6_left_22 fX6_13 hZ rfl ?_
      refine Ev.sipush (v := 332) dX6_left_25 (by decide) ?_
      refine Ev.mld (j := 332) mq1 dX6_left_28 hZ (by first | assumption | (simp only [nI, Int32.ofNat_add, Int32.ofNat_mul]; done) | (simp only [nI, Int32.ofNat_add, Int32.ofNat_mul]; rfl) | rfl) (by omega) ?_
      (try simp only [ux_s, ux_n, ne_eq, Nat.reduceEqDiff, Nat.succ_ne_self, not_false_eq_true])
      rw [e32]
      refine Ev.icmp_gt (tgt := 65) dX6_left_29 (by decide) (fun c29 => ?_) (fun c29 => by first | exact absurd (nI_lt (by omega) (by omega)) c29 | exact absurd c29 (nI_lt (by omega) (by omega)))
      refine Ev.ild1 dX6_left_65 ?_
      refine Ev.iret dX6_left_66 rfl rfl ?_
      exact ⟨_, rfl, rfl, _, _, hZ, hR1⟩
    · intro t ht ih a3
      have hle : ¬ nI (bhi S.1.1) < nI (blo S.1.1 + t) := nI_nlt (by omega) (by omega)
      rw [lmx] at ih
      refine Ev.ild2 dX6_left_20 ?_
      refine Ev.ald0 dX6_left_21 ?_
      refine Ev.mgr (kx := 1) dX6_left_22 fX6_13 hZ rfl ?_
      refine Ev.sipush (v := 332) dX6_left_25 (by decide) ?_
      refine Ev.mld (j := 332) mq1 dX6_left_28 hZ (by first | assumption | (simp only [nI, Int32.ofNat_add, Int32.ofNat_mul]; done) | (simp only [nI, Int32.ofNat_add, Int32.ofNat_mul]; rfl) | rfl) (by omega) ?_
      (try simp only [ux_s, ux_n, ne_eq, Nat.reduceEqDiff, Nat.succ_ne_self, not_false_eq_true])
      rw [e32]
      refine Ev.icmp_gt (tgt := 65) dX6_left_29 (by decide) (fun c29 => by first | exact absurd c29 hle | exact absurd hle c29) (fun c29 => ?_)
      refine Ev.ald0 dX6_left_32 ?_
      refine Ev.iconst (v := 0) dX6_left_33 (by decide) ?_
      refine Ev.ild2 dX6_left_34 ?_
      refine Ev.cvI (Yc := mX6_leftOf) (ci := 6) dX6_left_35 lX6_343 vX6_leftOf rfl (m_leftOf (b := S.1.1) (w := bas S) hR1.1.1 hB y7 y8 hZ) ⟨_, hZ.2.1.1⟩ rfl rfl rfl rfl ?_
      rintro y35 M9 ⟨hy35, rfl⟩
      subst hy35
      refine Ev.ald0 dX6_left_38 ?_
      refine Ev.iconst (v := 1) dX6_left_39 (by decide) ?_
      refine Ev.ild2 dX6_left_40 ?_
      refine Ev.cvI (Yc := mX6_leftOf) (ci := 6) dX6_left_41 lX6_343 vX6_leftOf rfl (m_leftOf (b := S.1.1) (w := bas S) hR1.1.1 hB y7 y8 hZ) ⟨_, hZ.2.1.1⟩ rfl rfl rfl rfl ?_
      rintro y41 M9 ⟨hy41, rfl⟩
      subst hy41
      refine Ev.csI (Yc := mX6_lesser) dX6_left_44 lX6_211 vX6_lesser rfl m_lesser rfl rfl rfl ?_
      rintro y44 M9 ⟨hy44, rfl⟩
      subst hy44
      refine Ev.ist3 dX6_left_47 rfl rfl ?_
      refine Ev.ild3 dX6_left_48 ?_
      refine Ev.ild1 dX6_left_49 ?_
      refine Ev.icmp_le (tgt := 57) dX6_left_50 (by decide) (fun c50 => ?_) (fun c50 => ?_)
      · refine Ev.ild1 dX6_left_57 ?_
        refine Ev.ist1 dX6_left_58 rfl rfl ?_
        apply Ev.iinc2 dX6_left_59 rfl rfl
        · first | exact nI_inc _ | rfl
        refine Ev.goto (tgt := 20) dX6_left_62 (by decide) ?_
        rw [if_neg (Int32.not_lt.mpr c50)] at ih
        exact ih _
      · refine Ev.ild3 dX6_left_53 ?_
        refine Ev.goto (tgt := 58) dX6_left_54 (by decide) ?_
        refine Ev.ist1 dX6_left_58 rfl rfl ?_
        apply Ev.iinc2 dX6_left_59 rfl rfl
        · first | exact nI_inc _ | rfl
        refine Ev.goto (tgt := 20) dX6_left_62 (by decide) ?_
        rw [if_pos (Int32.not_le.mp c50)] at ih
        exact ih _
  exact KL _
end MMM
