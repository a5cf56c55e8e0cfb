/-! the reference's questions: curve, notice, moves, swings -/
def nct (b : Nat → Int32) (k : Nat) : Int32 := if b (8 * k + 7) = 1 ∨ b (8 * k + 1) = 2 then 0 else 1
def nmy (b : Nat → Int32) (k : Nat) : Int32 := if b (8 * k + 1) = 3 then b (8 * k + 4) else b (8 * k + 2)
noncomputable def an_notice (S : Sg) (k : Int32) : Int32 := if k = 0 then (rP S.1.1 (nct S.1.1) (nmy S.1.1) (bn S.1.1) (blo S.1.1) (bhi S.1.1)).1 else if k = 6 then (rP S.1.1 (nct S.1.1) (nmy S.1.1) (bn S.1.1) (blo S.1.1) (bhi S.1.1)).2.2 else if (rP S.1.1 (nct S.1.1) (nmy S.1.1) (bn S.1.1) (blo S.1.1) (bhi S.1.1)).1 < 0 then 0 else if k = 1 then vof (bs4 S.1.1 (nct S.1.1) (nmy S.1.1) (rP S.1.1 (nct S.1.1) (nmy S.1.1) (bn S.1.1) (blo S.1.1) (bhi S.1.1)).1 (bn S.1.1)) else if k = 2 then ref (bs4 S.1.1 (nct S.1.1) (nmy S.1.1) (rP S.1.1 (nct S.1.1) (nmy S.1.1) (bn S.1.1) (blo S.1.1) (bhi S.1.1)).1 (bn S.1.1)) else (rP S.1.1 (nct S.1.1) (nmy S.1.1) (bn S.1.1) (blo S.1.1) (bhi S.1.1)).2.1
noncomputable def mvs (b : Nat → Int32) (s k now : Int32) : Nat → Nat → Int32
  | 0, _ => -1
  | e + 1, q => if (xP (ad1 b s 0 (nI q) 0 (nI q) 0 0) (-1)).1 = now then mvs b s k now e (q + 1) else if k = 0 then nI q else (xP (ad1 b s 0 (nI q) 0 (nI q) 0 0) (-1)).1
noncomputable def an_moves (S : Sg) (s k : Int32) : Int32 := if (0 ≤ s ∧ s ≤ 1) ∧ (0 ≤ k ∧ k ≤ 1) ∧ S.1.1 329 ≠ 2 then mvs S.1.1 s k (xP S.1.1 (-1)).1 200 1 else -1
noncomputable def swg (b : Nat → Int32) (now : Int32) : Nat → Int64
  | 0 => 0
  | k + 1 => swg b now k ||| (if ¬ b (8 * k + 7) = 1 ∧ ¬ (xP b (nI k)).1 = now then (1 : Int64) <<< ((nI k).toInt64 &&& 63) else 0)
noncomputable def an_swings (S : Sg) : Int64 := if S.1.1 329 = 2 then 0 else swg S.1.1 (xP S.1.1 (-1)).1 (bn S.1.1)
theorem ux_sw {X : Nat → Nat → Int32} {i j : Nat} {f g k : Nat → Int32} (h : i ≠ j) : ux (ux (ux X i f) j g) i k = ux (ux X i k) j g := by
  funext q
  by_cases h1 : q = i
  · subst h1
    rw [ux_s, ux_n h, ux_s]
  · rw [ux_n h1]
    by_cases h2 : q = j
    · subst h2; rw [ux_s, ux_s]
    · rw [ux_n h2, ux_n h1, ux_n h2, ux_n h1]
section MMI
variable {G : GP} {a : Nat → Nat} {M0 M : Wd} {v : Nat → Int32} {L : Int64} {X : Nat → Nat → Int32} {S : Sg} {b ct my : Nat → Int32}
set_option maxRecDepth 20000 in
theorem m_curve {p k : Int32} (hS : Sok S) (hR : MR v X S) (hZ : MZ a M0 v L X M) : CtI G mX6_curve [.ref (a 0), .int p, .int k] M 0 0 (fun x M' => ∃ (v' : Nat → Int32) (X' : Nat → Nat → Int32), MZ a M0 v' L X' M' ∧ MR v' X' S ∧ (((1 ≤ p ∧ p ≤ 999) ∧ (0 ≤ k ∧ k ≤ 5)) ∧ v' 0 = 0 ∧ x = an_curve S p k ∨ ¬ ((1 ≤ p ∧ p ≤ 999) ∧ (0 ≤ k ∧ k ≤ 5)) ∧ v' 0 = 1)) := by
  have hB : BW 40 S.1.1 := hS.1.1
  have hn := hB.2.1
  by_cases hok : (1 ≤ p ∧ p ≤ 999) ∧ (0 ≤ k ∧ k ≤ 5)
  · obtain ⟨q, q1, q2, rfl⟩ := int_le1 (c := 999) (by omega) hok.1.1 hok.1.2
    obtain ⟨j, hj, rfl⟩ := int_le (c := 5) (by omega) hok.2.1 hok.2.2
    refine Ct.of (ls := [some (.ref (a 0)), some (.int (nI q)), some (.int (nI j))]) (by decide) (by decide) rfl rfl rfl ?_
    refine Ev.ald0 dX6_curve_0 ?_
    refine Ev.ild1 dX6_curve_1 ?_
    refine Ev.i2l dX6_curve_2 ?_
    refine Ev.lconst (v := 1) dX6_curve_3 (by decide) ?_
    refine Ev.ldc2 dX6_curve_4 kX6_288 ?_
    refine Ev.csI (Yc := mX6_within) dX6_curve_7 lX6_93 vX6_within rfl (m_wI (y := 1) (z := 999) (by decide) (by decide)) rfl rfl rfl ?_
    rintro y7 M9 ⟨hy7, rfl⟩
    rw [if_pos hok.1] at hy7
    refine Ev.if_eq (tgt := 29) dX6_curve_10 (by decide) (fun c10 => by first | exact absurd c10 (by rw [hy7]; decide) | exact absurd (by rw [hy7]; decide) c10) (fun c10 => ?_)
    refine Ev.ild2 dX6_curve_13 ?_
    refine Ev.i2l dX6_curve_14 ?_
    refine Ev.lconst (v := 0) dX6_curve_15 (by decide) ?_
    refine Ev.ldc2 dX6_curve_16 kX6_140 ?_
    refine Ev.csI (Yc := mX6_within) dX6_curve_19 lX6_93 vX6_within rfl (m_wI (y := 0) (z := 5) (by decide) (by decide)) rfl rfl rfl ?_
    rintro y19 M9 ⟨hy19, rfl⟩
    rw [if_pos hok.2] at hy19
    refine Ev.if_eq (tgt := 29) dX6_curve_22 (by decide) (fun c22 => by first | exact absurd c22 (by rw [hy19]; decide) | exact absurd (by rw [hy19]; decide) c22) (fun c22 => ?_)
    refine Ev.iconst (v := 0) dX6_curve_25 (by decide) ?_
    refine Ev.goto (tgt := 30) dX6_curve_26 (by decide) ?_
    refine Ev.mput (kx := 0) dX6_curve_30 fX6_1 hZ rfl rfl (fun M hZ => ?_)
    refine Ev.ald0 dX6_curve_33 ?_
    refine Ev.mgv (kx := 0) dX6_curve_34 fX6_1 hZ rfl ?_
    rw [pk_us]
    refine Ev.if_le (tgt := 42) dX6_curve_37 (by decide) (fun c37 => ?_) (fun c37 => by first | exact absurd (by decide) c37 | exact absurd c37 (by decide))
    refine Ev.ald0 dX6_curve_42 ?_
    refine Ev.cvV (Yc := mX6_countsAll) (ci := 6) dX6_curve_43 lX6_260 vX6_countsAll rfl (m_ctA hZ hR.1.1 (hB.mono (by omega))) ⟨_, hZ.2.1.1⟩ rfl rfl rfl rfl ?_
    rintro M1 ⟨X1, hZ, a1, a2, a3⟩
    refine Ev.ald0 dX6_curve_46 ?_
    refine Ev.cvV (Yc := mX6_laysSums) (ci := 6) dX6_curve_47 lX6_217 vX6_laysSums rfl (m_smA (b := S.1.1) hZ (by rw [a1 1 (by decide) (by decide)]; exact hR.1.1) (hB.mono (by omega)) a2 a3) ⟨_, hZ.2.1.1⟩ rfl rfl rfl rfl ?_
    rintro M2 ⟨X2, hZ, b2, b3⟩
    refine Ev.ild2 dX6_curve_50 ?_
    skip
    have x : ∀ j, j ≠ 22 → j ≠ 23 → j ∉ [24, 25, 26, 27] → X2 j = X j := fun j q1 q2 q3 => (b2 j q3).trans (a1 j q1 q2)
    have hR2 : MR (upd v 0 0) X2 S := by
      refine hR.q (QT.rf.t.tr ⟨rfl, rfl, rfl, rfl, x 2 (by decide) (by decide) (by decide), x 4 (by decide) (by decide) (by decide), x 7 (by decide) (by decide) (by decide)⟩) ?_
      rw [x 1 (by decide) (by decide) (by decide)]
      exact hR.1
    have eb := b3 q q1 q2
    have ea : an_curve S (nI q) (nI j) = crv (X2 24 q, X2 25 q, X2 26 q, X2 27 q) (nI j) := by rw [an_curve, eb]
    have hQ : ∀ y, y = crv (X2 24 q, X2 25 q, X2 26 q, X2 27 q) (nI j) → ∃ x, some (Value.int y) = some (.int x) ∧ ∃ (v' : Nat → Int32) (X' : Nat → Nat → Int32), MZ a M0 v' L X' M2 ∧ MR v' X' S ∧ (((1 ≤ nI q ∧ nI q ≤ 999) ∧ (0 ≤ nI j ∧ nI j ≤ 5)) ∧ v' 0 = 0 ∧ x = an_curve S (nI q) (nI j) ∨ ¬ ((1 ≤ nI q ∧ nI q ≤ 999) ∧ (0 ≤ nI j ∧ nI j ≤ 5)) ∧ v' 0 = 1) := fun y hy => ⟨y, rfl, _, _, hZ, hR2, Or.inl ⟨hok, pk_us, hy.trans ea.symm⟩⟩
    have : j = 0 ∨ j = 1 ∨ j = 2 ∨ j = 3 ∨ j = 4 ∨ j = 5 := by omega
    rcases this with rfl | rfl | rfl | rfl | rfl | rfl
    · refine Ev.tin (off := 33) (tgt := 84) dX6_curve_51 (by decide) (by decide) rfl (by decide) ?_
      refine Ev.ald0 dX6_curve_84 ?_
      refine Ev.mgr (kx := 24) dX6_curve_85 fX6_37 hZ rfl ?_
      refine Ev.ild1 dX6_curve_88 ?_
      refine Ev.mld (j := q) mq24 dX6_curve_89 hZ (by first | assumption | (simp only [nI, Int32.ofNat_add, Int32.ofNat_mul]; done) | (simp only [nI, Int32.ofNat_add, Int32.ofNat_mul]; rfl) | rfl) (by omega) ?_
      (try simp only [ux_s, ux_n, ne_eq, Nat.reduceEqDiff, Nat.succ_ne_self, not_false_eq_true])
      refine Ev.iret dX6_curve_90 rfl rfl ?_
      exact hQ _ rfl
    · refine Ev.tin (off := 40) (tgt := 91) dX6_curve_51 (by decide) (by decide) rfl (by decide) ?_
      refine Ev.ald0 dX6_curve_91 ?_
      refine Ev.mgr (kx := 25) dX6_curve_92 fX6_40 hZ rfl ?_
      refine Ev.ild1 dX6_curve_95 ?_
      refine Ev.mld (j := q) mq25 dX6_curve_96 hZ (by first | assumption | (simp only [nI, Int32.ofNat_add, Int32.ofNat_mul]; done) | (simp only [nI, Int32.ofNat_add, Int32.ofNat_mul]; rfl) | rfl) (by omega) ?_
      (try simp only [ux_s, ux_n, ne_eq, Nat.reduceEqDiff, Nat.succ_ne_self, not_false_eq_true])
      refine Ev.iret dX6_curve_97 rfl rfl ?_
      exact hQ _ rfl
    · refine Ev.tin (off := 47) (tgt := 98) dX6_curve_51 (by decide) (by decide) rfl (by decide) ?_
      refine Ev.ald0 dX6_curve_98 ?_
      refine Ev.ild1 dX6_curve_99 ?_
      refine Ev.cvI (Yc := mX6_overAt) (ci := 6) dX6_curve_100 lX6_208 vX6_overAt rfl (m_overAt q rfl hZ.2.1.1 hZ.2.1.g24 hZ.2.1.g25 (by omega)) ⟨_, hZ.2.1.1⟩ rfl rfl rfl rfl ?_
      rintro y M3 ⟨hy, rfl⟩
      refine Ev.iret dX6_curve_103 rfl rfl ?_
      exact hQ _ hy
    · refine Ev.tin (off := 53) (tgt := 104) dX6_curve_51 (by decide) (by decide) rfl (by decide) ?_
      refine Ev.ald0 dX6_curve_104 ?_
      refine Ev.ild1 dX6_curve_105 ?_
      refine Ev.cvI (Yc := mX6_helpAt) (ci := 6) dX6_curve_106 lX6_214 vX6_helpAt rfl (m_helpAt q rfl hZ.2.1.1 hZ.2.1.g24 hZ.2.1.g25 hZ.2.1.g26 hZ.2.1.g27 (by omega)) ⟨_, hZ.2.1.1⟩ rfl rfl rfl rfl ?_
      rintro y M3 ⟨hy, rfl⟩
      refine Ev.iret dX6_curve_109 rfl rfl ?_
      exact hQ _ hy
    · refine Ev.tin (off := 59) (tgt := 110) dX6_curve_51 (by decide) (by decide) rfl (by decide) ?_
      refine Ev.ald0 dX6_curve_110 ?_
      refine Ev.ild1 dX6_curve_111 ?_
      refine Ev.cvI (Yc := mX6_volumeAt) (ci := 6) dX6_curve_112 lX6_220 vX6_volumeAt rfl (m_vol q rfl hZ.2.1 (by omega)) ⟨_, hZ.2.1.1⟩ rfl rfl rfl rfl ?_
      rintro y M3 ⟨hy, rfl⟩
      refine Ev.iret dX6_curve_115 rfl rfl ?_
      exact hQ _ hy
    · refine Ev.tout (tgt := 116) dX6_curve_51 (Or.inr (by decide)) (by decide) ?_
      refine Ev.ald0 dX6_curve_116 ?_
      refine Ev.ild1 dX6_curve_117 ?_
      refine Ev.cvI (Yc := mX6_restAt) (ci := 6) dX6_curve_118 lX6_233 vX6_restAt rfl (m_res q rfl hZ.2.1 (by omega)) ⟨_, hZ.2.1.1⟩ rfl rfl rfl rfl ?_
      rintro y M3 ⟨hy, rfl⟩
      refine Ev.iret dX6_curve_121 rfl rfl ?_
      exact hQ _ hy
  · refine Ct.of (ls := [some (.ref (a 0)), some (.int p), some (.int k)]) (by decide) (by decide) rfl rfl rfl ?_
    refine Ev.ald0 dX6_curve_0 ?_
    refine Ev.ild1 dX6_curve_1 ?_
    refine Ev.i2l dX6_curve_2 ?_
    refine Ev.lconst (v := 1) dX6_curve_3 (by decide) ?_
    refine Ev.ldc2 dX6_curve_4 kX6_288 ?_
    refine Ev.csI (Yc := mX6_within) dX6_curve_7 lX6_93 vX6_within rfl (m_wI (y := 1) (z := 999) (by decide) (by decide)) rfl rfl rfl ?_
    rintro y7 M9 ⟨hy7, rfl⟩
    refine Ev.if_eq (tgt := 29) dX6_curve_10 (by decide) (fun c10 => ?_) (fun c10 => ?_)
    · refine Ev.iconst (v := 1) dX6_curve_29 (by decide) ?_
      refine Ev.mput (kx := 0) dX6_curve_30 fX6_1 hZ rfl rfl (fun M hZ => ?_)
      refine Ev.ald0 dX6_curve_33 ?_
      refine Ev.mgv (kx := 0) dX6_curve_34 fX6_1 hZ rfl ?_
      rw [pk_us]
      refine Ev.if_le (tgt := 42) dX6_curve_37 (by decide) (fun c37 => by first | exact absurd c37 (by decide) | exact absurd (by decide) c37) (fun c37 => ?_)
      refine Ev.iconst (v := 0) dX6_curve_40 (by decide) ?_
      refine Ev.iret dX6_curve_41 rfl rfl ?_
      exact ⟨_, rfl, _, _, hZ, hR.q QT.rf.t hR.1, Or.inr ⟨hok, pk_us⟩⟩
    · refine Ev.ild2 dX6_curve_13 ?_
      refine Ev.i2l dX6_curve_14 ?_
      refine Ev.lconst (v := 0) dX6_curve_15 (by decide) ?_
      refine Ev.ldc2 dX6_curve_16 kX6_140 ?_
      refine Ev.csI (Yc := mX6_within) dX6_curve_19 lX6_93 vX6_within rfl (m_wI (y := 0) (z := 5) (by decide) (by decide)) rfl rfl rfl ?_
      rintro y19 M9 ⟨hy19, rfl⟩
      refine Ev.if_eq (tgt := 29) dX6_curve_22 (by decide) (fun c22 => ?_) (fun c22 => ?_)
      · refine Ev.iconst (v := 1) dX6_curve_29 (by decide) ?_
        refine Ev.mput (kx := 0) dX6_curve_30 fX6_1 hZ rfl rfl (fun M hZ => ?_)
        refine Ev.ald0 dX6_curve_33 ?_
        refine Ev.mgv (kx := 0) dX6_curve_34 fX6_1 hZ rfl ?_
        rw [pk_us]
        refine Ev.if_le (tgt := 42) dX6_curve_37 (by decide) (fun c37 => by first | exact absurd c37 (by decide) | exact absurd (by decide) c37) (fun c37 => ?_)
        refine Ev.iconst (v := 0) dX6_curve_40 (by decide) ?_
        refine Ev.iret dX6_curve_41 rfl rfl ?_
        exact ⟨_, rfl, _, _, hZ, hR.q QT.rf.t hR.1, Or.inr ⟨hok, pk_us⟩⟩
      · exact absurd ⟨v01_t hy7 c10, v01_t hy19 c22⟩ hok
theorem m_fpA (hZ : MZ a M0 v L X M) (hA : Ag (X 1) b) (hB : BW 41 b) (hc : ∀ k, k < bn b → X 22 k = ct k) (hy : ∀ k, k < bn b → X 23 k = my k) : CtV G mX6_findsPrice [.ref (a 0)] M 0 0 (fun M' => ∃ (v' : Nat → Int32) (X' : Nat → Nat → Int32), MZ a M0 v' L X' M' ∧ (∀ j, j ∉ [28, 29, 30] → v' j = v j) ∧ (∀ j, j ∉ [24, 25, 26, 27] → X' j = X j) ∧ v' 28 = (rP b ct my (bn b) (blo b) (bhi b)).1 ∧ v' 29 = (rP b ct my (bn b) (blo b) (bhi b)).2.1 ∧ v' 30 = (rP b ct my (bn b) (blo b) (bhi b)).2.2 ∧ ∀ p, 1 ≤ p → p ≤ 999 → VV X' p = vof (bs4 b ct my (nI p) (bn b)) ∧ RR X' p = ref (bs4 b ct my (nI p) (bn b))) := by
  obtain ⟨h1, h2, h3, h4, h5, h6, h7, h8, h9⟩ := hB
  obtain ⟨g0, g1, g2, g3, g4, g5⟩ := hA
  have hO : OW (X 1) (bn b) := h3.cm g0.sy
  refine Ct.mono (m_findsPrice (n := bn b) (lo := blo b) (hi := bhi b) hZ.1 hZ.2.1 (M0 := M) Fr.rf (g1.trans h1) h2 (fun k hk _ => by obtain ⟨q, q1, q2, q3⟩ := hO.pp hk; exact ⟨q, by omega, q3⟩) (g4.trans h4) (g5.trans h5) (by omega) h8) ?_
  rintro u M' ⟨rfl, k1, k2⟩
  have E : ∀ p, 1 ≤ p → p ≤ 999 → VV (x4 X (smX X (bn b))) p = vof (bs4 b ct my (nI p) (bn b)) ∧ RR (x4 X (smX X (bn b))) p = ref (bs4 b ct my (nI p) (bn b)) := fun p p1 p2 => by
    have e := vv_eq (X := X) (n := bn b) (m := X 1) (ct := ct) (my := my) hO rfl hc hy p1 p2
    rw [bs4_cm g0 (bn b) (Nat.le_refl _) (fun _ _ => rfl) (fun _ _ => rfl)] at e
    exact e
  have ef : fp3 (VV (x4 X (smX X (bn b)))) (RR (x4 X (smX X (bn b)))) (blo b) (bhi b + 1 - blo b) (X 1 330) = rP b ct my (bn b) (blo b) (bhi b) := by
    rw [rP, g3]
    exact fp3_cg (fun p p1 p2 => E p (by omega) (by omega))
  rw [ef] at k1
  refine ⟨rfl, _, _, hZ.to k1 k2, fun j hj => ?_, fun j hj => x4_n ⟨⟨fun q => hj (by simp [q]), fun q => hj (by simp [q])⟩, fun q => hj (by simp [q]), fun q => hj (by simp [q])⟩, ?_, ?_, ?_, E⟩
  · rw [w3, pk_un (fun q => hj (by simp [q])), pk_un (fun q => hj (by simp [q])), pk_un (fun q => hj (by simp [q]))]
  · rw [w3, pk_un (by decide), pk_un (by decide), pk_us]
  · rw [w3, pk_un (by decide), pk_us]
  · rw [w3, pk_us]
set_option maxRecDepth 20000 in
theorem m_laysNotice (hR : Ag (X 1) b) (hB : BW 40 b) (hZ : MZ a M0 v L X M) : CtV G mX6_laysNotice [.ref (a 0)] M 0 0 (fun M' => ∃ (v' : Nat → Int32) (X' : Nat → Nat → Int32), MZ a M0 v' L X' M' ∧ (∀ j, j ∉ [28, 29, 30] → v' j = v j) ∧ (∀ j, j ∉ [22, 23, 24, 25, 26, 27] → X' j = X j) ∧ v' 28 = (rP b (nct b) (nmy b) (bn b) (blo b) (bhi b)).1 ∧ v' 29 = (rP b (nct b) (nmy b) (bn b) (blo b) (bhi b)).2.1 ∧ v' 30 = (rP b (nct b) (nmy b) (bn b) (blo b) (bhi b)).2.2 ∧ ∀ p, 1 ≤ p → p ≤ 999 → VV X' p = vof (bs4 b (nct b) (nmy b) (nI p) (bn b)) ∧ RR X' p = ref (bs4 b (nct b) (nmy b) (nI p) (bn b))) := by
  have hn := hB.2.1
  refine Ct.of (ls := [some (.ref (a 0)), none]) (by decide) (by decide) rfl rfl rfl ?_
  refine Ev.ald0 dX6_laysNotice_0 ?_
  refine Ev.cvV (Yc := mX6_countsAll) (ci := 6) dX6_laysNotice_1 lX6_260 vX6_countsAll rfl (m_ctA hZ hR (hB.mono (by omega))) ⟨_, hZ.2.1.1⟩ rfl rfl rfl rfl ?_
  rintro M1 ⟨X1, hZ, a1, a2, a3⟩
  refine Ev.iconst (v := 0) dX6_laysNotice_4 (by decide) ?_
  refine Ev.ist1 dX6_laysNotice_5 rfl rfl ?_
  skip
  have x1 : X1 1 = X 1 := a1 1 (by decide) (by decide)
  have hA1 : Ag (X1 1) b := by rw [x1]; exact hR
  have e8 : X1 1 328 = nI (bn b) := hA1.2.1.trans hB.1
  generalize hQ : (fun (u : Option Value) (M' : Wd) => u = none ∧ ∃ (v' : Nat → Int32) (X' : Nat → Nat → Int32), MZ a M0 v' L X' M' ∧ (∀ j, j ∉ [28, 29, 30] → v' j = v j) ∧ (∀ j, j ∉ [22, 23, 24, 25, 26, 27] → X' j = X j) ∧ v' 28 = (rP b (nct b) (nmy b) (bn b) (blo b) (bhi b)).1 ∧ v' 29 = (rP b (nct b) (nmy b) (bn b) (blo b) (bhi b)).2.1 ∧ v' 30 = (rP b (nct b) (nmy b) (bn b) (blo b) (bhi b)).2.2 ∧ ∀ p, 1 ≤ p → p ≤ 999 → VV X' p = vof (bs4 b (nct b) (nmy b) (nI p) (bn b)) ∧ RR X' p = ref (bs4 b (nct b) (nmy b) (nI p) (bn b))) = Q
  have KL : ∀ (f g : Nat → Int32) (M : Wd), MZ a M0 v L (ux (ux X1 22 f) 23 g) M → (∀ k, k < bn b → f k = if k < 0 then nct b k else ct0 b (-1) k) → (∀ k, k < bn b → g k = if k < 0 then nmy b k else qt b k) → Ev G mX6_laysNotice 6 [some (.ref (a 0)), some (.int (nI 0))] [] M 0 0 Q := by
    refine ev_ind (bn b) (fun t => ∀ (f g : Nat → Int32) (M : Wd), MZ a M0 v L (ux (ux X1 22 f) 23 g) M → (∀ k, k < bn b → f k = if k < t then nct b k else ct0 b (-1) k) → (∀ k, k < bn b → g k = if k < t then nmy b k else qt b k) → Ev G mX6_laysNotice 6 [some (.ref (a 0)), some (.int (nI t))] [] M 0 0 Q) ?_ ?_
    · intro f g M hZ hf hg
      have z1 : ∀ j, j ≠ 22 → j ≠ 23 → ux (ux X1 22 f) 23 g j = X1 j := fun j q1 q2 => by rw [ux_n q2, ux_n q1]
      have z22 : ∀ k, k < bn b → ux (ux X1 22 f) 23 g 22 k = nct b k := fun k hk => by rw [ux_n (by decide), ux_s, hf k hk, if_pos hk]
      have z23 : ∀ k, k < bn b → ux (ux X1 22 f) 23 g 23 k = nmy b k := fun k hk => by rw [ux_s, hg k hk, if_pos hk]
      generalize ux (ux X1 22 f) 23 g = X2 at hZ z1 z22 z23
      have y1 : X2 1 = X1 1 := z1 1 (by decide) (by decide)
      refine Ev.ild1 dX6_laysNotice_6 ?_
      refine Ev.ald0 dX6_laysNotice_7 ?_
      refine Ev.mgr (kx := 1) dX6_laysNotice_8 fX6_13 hZ rfl ?_
      refine Ev.sipush (v := 328) dX6_laysNotice_11 (by decide) ?_
      refine Ev.mld (j := 328) mq1 dX6_laysNotice_14 hZ (by first | assumption | (simp only [nI, Int32.ofNat_add, Int32.ofNat_mul]; done) | (simp only [nI, Int32.ofNat_add, Int32.ofNat_mul]; rfl) | rfl) (by omega) ?_
      (try simp only [ux_s, ux_n, ne_eq, Nat.reduceEqDiff, Nat.succ_ne_self, not_false_eq_true])
      rw [y1, e8]
      refine Ev.icmp_ge (tgt := 85) dX6_laysNotice_15 (by decide) (fun c15 => ?_) (fun c15 => by first | exact absurd (Int32.le_refl _) c15 | exact absurd c15 (Int32.le_refl _))
      refine Ev.ald0 dX6_laysNotice_85 ?_
      refine Ev.cvV (Yc := mX6_findsPrice) (ci := 6) dX6_laysNotice_86 lX6_266 vX6_findsPrice rfl (m_fpA (b := b) hZ (by rw [y1]; exact hA1) (hB.mono (by omega)) z22 z23) ⟨_, hZ.2.1.1⟩ rfl rfl rfl rfl ?_
      rintro M3 ⟨v3, X3, hZ, b1, b2, b3, b4, b5, b6⟩
      refine Ev.vret dX6_laysNotice_89 rfl ?_
      rw [← hQ]
      refine ⟨rfl, v3, X3, hZ, b1, fun j hj => ?_, b3, b4, b5, b6⟩
      simp only [List.mem_cons, List.not_mem_nil, or_false, not_or] at hj
      rw [b2 j (by simp [hj]), z1 j hj.1 hj.2.1, a1 j hj.1 hj.2.1]
    · intro t ht ih f g M hZ hf hg
      have o1 : X1 1 (8 * t + 1) = b (8 * t + 1) := hA1.1.at ht (by omega)
      have o4 : X1 1 (8 * t + 4) = b (8 * t + 4) := hA1.1.at ht (by omega)
      have f0 : f t = ct0 b (-1) t := by rw [hf t ht, if_neg (by omega)]
      have g0 : g t = qt b t := by rw [hg t ht, if_neg (by omega)]
      have hm1 : nI t ≠ -1 := nI_nm1 (by omega)
      have hfin : ∀ (y z : Int32) (M : Wd), y = nct b t → z = nmy b t → MZ a M0 v L (ux (ux (ux (ux X1 22 f) 23 g) 22 (upd f t y)) 23 (upd g t z)) M → Ev G mX6_laysNotice 6 [some (.ref (a 0)), some (.int (nI (t + 1)))] [] M 0 0 Q := by
        intro y z M hy hz hZ
        rw [ux_sw (i := 22) (j := 23) (by decide), ux_u] at hZ
        refine ih _ _ M hZ (fun k hk => ?_) (fun k hk => ?_)
        · by_cases e : k = t
          · rw [e, pk_us, if_pos (by omega)]; exact hy
          · rw [pk_un e, hf k hk]
            by_cases e2 : k < t
            · rw [if_pos e2, if_pos (by omega)]
            · rw [if_neg e2, if_neg (by omega)]
        · by_cases e : k = t
          · rw [e, pk_us, if_pos (by omega)]; exact hz
          · rw [pk_un e, hg k hk]
            by_cases e2 : k < t
            · rw [if_pos e2, if_pos (by omega)]
            · rw [if_neg e2, if_neg (by omega)]
      have J : ∀ (y : Int32) (M : Wd), vp_nar .boolean y = y → y = nct b t → MZ a M0 v L (ux (ux X1 22 f) 23 g) M → Ev G mX6_laysNotice 47 [some (.ref (a 0)), some (.int (nI t))] [.int y, .int (nI t), .ref (a 22)] M 0 0 Q := by
        intro y M hbn hy hZ
        refine Ev.mzst (j := t) mq22 dX6_laysNotice_47 hZ (by first | assumption | (simp only [nI, Int32.ofNat_add, Int32.ofNat_mul]; done) | (simp only [nI, Int32.ofNat_add, Int32.ofNat_mul]; rfl) | rfl) (by omega) (by first | rfl | assumption) (fun M hZ => ?_)
        (try simp only [ux_u, ux_s, ux_n, ne_eq, Nat.reduceEqDiff, Nat.succ_ne_self, not_false_eq_true] at hZ)
        refine Ev.ald0 dX6_laysNotice_48 ?_
        refine Ev.mgr (kx := 23) dX6_laysNotice_49 fX6_34 hZ rfl ?_
        refine Ev.ild1 dX6_laysNotice_52 ?_
        refine Ev.ald0 dX6_laysNotice_53 ?_
        refine Ev.ild1 dX6_laysNotice_54 ?_
        refine Ev.iconst (v := 1) dX6_laysNotice_55 (by decide) ?_
        refine Ev.cvI (Yc := mX6_of) (ci := 6) dX6_laysNotice_56 lX6_201 vX6_of rfl (m_of (t) (1) (by first | assumption | (simp only [nI, Int32.ofNat_add, Int32.ofNat_mul]; done) | (simp only [nI, Int32.ofNat_add, Int32.ofNat_mul]; rfl) | rfl) (by first | assumption | (simp only [nI, Int32.ofNat_add, Int32.ofNat_mul]; done) | (simp only [nI, Int32.ofNat_add, Int32.ofNat_mul]; rfl) | rfl) hZ.2.1.1 hZ.2.1.g1 (by omega)) ⟨_, hZ.2.1.1⟩ rfl rfl rfl rfl ?_
        rintro y56 M9 ⟨hy56, rfl⟩
        subst hy56
        (try simp only [ux_s, ux_n, ne_eq, Nat.reduceEqDiff, Nat.succ_ne_self, not_false_eq_true])
        rw [o1]
        refine Ev.iconst (v := 3) dX6_laysNotice_59 (by decide) ?_
        refine Ev.icmp_ne (tgt := 72) dX6_laysNotice_60 (by decide) (fun c60 => ?_) (fun c60 => ?_)
        · refine Ev.ald0 dX6_laysNotice_72 ?_
          refine Ev.mgr (kx := 23) dX6_laysNotice_73 fX6_34 hZ rfl ?_
          refine Ev.ild1 dX6_laysNotice_76 ?_
          refine Ev.mld (j := t) mq23 dX6_laysNotice_77 hZ (by first | assumption | (simp only [nI, Int32.ofNat_add, Int32.ofNat_mul]; done) | (simp only [nI, Int32.ofNat_add, Int32.ofNat_mul]; rfl) | rfl) (by omega) ?_
          (try simp only [ux_s, ux_n, ne_eq, Nat.reduceEqDiff, Nat.succ_ne_self, not_false_eq_true])
          refine Ev.mst (j := t) mq23 dX6_laysNotice_78 hZ (by first | assumption | (simp only [nI, Int32.ofNat_add, Int32.ofNat_mul]; done) | (simp only [nI, Int32.ofNat_add, Int32.ofNat_mul]; rfl) | rfl) (by omega) (fun M hZ => ?_)
          (try simp only [ux_u, ux_s, ux_n, ne_eq, Nat.reduceEqDiff, Nat.succ_ne_self, not_false_eq_true] at hZ)
          apply Ev.iinc1 dX6_laysNotice_79 rfl rfl
          · first | exact nI_inc _ | rfl
          refine Ev.goto (tgt := 6) dX6_laysNotice_82 (by decide) ?_
          exact hfin _ _ M hy (by rw [nmy, if_neg c60]; exact g0) hZ
        · refine Ev.ald0 dX6_laysNotice_63 ?_
          refine Ev.ild1 dX6_laysNotice_64 ?_
          refine Ev.iconst (v := 4) dX6_laysNotice_65 (by decide) ?_
          refine Ev.cvI (Yc := mX6_of) (ci := 6) dX6_laysNotice_66 lX6_201 vX6_of rfl (m_of (t) (4) (by first | assumption | (simp only [nI, Int32.ofNat_add, Int32.ofNat_mul]; done) | (simp only [nI, Int32.ofNat_add, Int32.ofNat_mul]; rfl) | rfl) (by first | assumption | (simp only [nI, Int32.ofNat_add, Int32.ofNat_mul]; done) | (simp only [nI, Int32.ofNat_add, Int32.ofNat_mul]; rfl) | rfl) hZ.2.1.1 hZ.2.1.g1 (by omega)) ⟨_, hZ.2.1.1⟩ rfl rfl rfl rfl ?_
          rintro y66 M9 ⟨hy66, rfl⟩
          subst hy66
          (try simp only [ux_s, ux_n, ne_eq, Nat.reduceEqDiff, Nat.succ_ne_self, not_false_eq_true])
          rw [o4]
          refine Ev.goto (tgt := 78) dX6_laysNotice_69 (by decide) ?_
          refine Ev.mst (j := t) mq23 dX6_laysNotice_78 hZ (by first | assumption | (simp only [nI, Int32.ofNat_add, Int32.ofNat_mul]; done) | (simp only [nI, Int32.ofNat_add, Int32.ofNat_mul]; rfl) | rfl) (by omega) (fun M hZ => ?_)
          (try simp only [ux_u, ux_s, ux_n, ne_eq, Nat.reduceEqDiff, Nat.succ_ne_self, not_false_eq_true] at hZ)
          apply Ev.iinc1 dX6_laysNotice_79 rfl rfl
          · first | exact nI_inc _ | rfl
          refine Ev.goto (tgt := 6) dX6_laysNotice_82 (by decide) ?_
          exact hfin _ _ M hy (by rw [nmy, if_pos c60]) hZ
      refine Ev.ild1 dX6_laysNotice_6 ?_
      refine Ev.ald0 dX6_laysNotice_7 ?_
      refine Ev.mgr (kx := 1) dX6_laysNotice_8 fX6_13 hZ rfl ?_
      refine Ev.sipush (v := 328) dX6_laysNotice_11 (by decide) ?_
      refine Ev.mld (j := 328) mq1 dX6_laysNotice_14 hZ (by first | assumption | (simp only [nI, Int32.ofNat_add, Int32.ofNat_mul]; done) | (simp only [nI, Int32.ofNat_add, Int32.ofNat_mul]; rfl) | rfl) (by omega) ?_
      (try simp only [ux_s, ux_n, ne_eq, Nat.reduceEqDiff, Nat.succ_ne_self, not_false_eq_true])
      rw [e8]
      refine Ev.icmp_ge (tgt := 85) dX6_laysNotice_15 (by decide) (fun c15 => by first | exact absurd c15 (nI_ge ht (by omega)) | exact absurd (nI_ge ht (by omega)) c15) (fun c15 => ?_)
      refine Ev.ald0 dX6_laysNotice_18 ?_
      refine Ev.mgr (kx := 22) dX6_laysNotice_19 fX6_30 hZ rfl ?_
      refine Ev.ild1 dX6_laysNotice_22 ?_
      refine Ev.ald0 dX6_laysNotice_23 ?_
      refine Ev.mgr (kx := 22) dX6_laysNotice_24 fX6_30 hZ rfl ?_
      refine Ev.ild1 dX6_laysNotice_27 ?_
      refine Ev.mzld (j := t) mq22 dX6_laysNotice_28 hZ (by first | assumption | (simp only [nI, Int32.ofNat_add, Int32.ofNat_mul]; done) | (simp only [nI, Int32.ofNat_add, Int32.ofNat_mul]; rfl) | rfl) (by omega) ?_
      (try simp only [ux_s, ux_n, ne_eq, Nat.reduceEqDiff, Nat.succ_ne_self, not_false_eq_true])
      rw [f0]
      refine Ev.if_eq (tgt := 46) dX6_laysNotice_29 (by decide) (fun c29 => ?_) (fun c29 => ?_)
      · refine Ev.iconst (v := 0) dX6_laysNotice_46 (by decide) ?_
        refine J _ _ rfl ?_ hZ
        rw [ct0] at c29
        by_cases h7 : b (8 * t + 7) = 1
        · rw [nct, if_pos (Or.inl h7)]
        · rw [if_neg (fun z => z.elim h7 hm1)] at c29
          exact absurd c29 (by decide)
      · refine Ev.ald0 dX6_laysNotice_32 ?_
        refine Ev.ild1 dX6_laysNotice_33 ?_
        refine Ev.iconst (v := 1) dX6_laysNotice_34 (by decide) ?_
        refine Ev.cvI (Yc := mX6_of) (ci := 6) dX6_laysNotice_35 lX6_201 vX6_of rfl (m_of (t) (1) (by first | assumption | (simp only [nI, Int32.ofNat_add, Int32.ofNat_mul]; done) | (simp only [nI, Int32.ofNat_add, Int32.ofNat_mul]; rfl) | rfl) (by first | assumption | (simp only [nI, Int32.ofNat_add, Int32.ofNat_mul]; done) | (simp only [nI, Int32.ofNat_add, Int32.ofNat_mul]; rfl) | rfl) hZ.2.1.1 hZ.2.1.g1 (by omega)) ⟨_, hZ.2.1.1⟩ rfl rfl rfl rfl ?_
        rintro y35 M9 ⟨hy35, rfl⟩
        subst hy35
        (try simp only [ux_s, ux_n, ne_eq, Nat.reduceEqDiff, Nat.succ_ne_self, not_false_eq_true])
        rw [o1]
        refine Ev.iconst (v := 2) dX6_laysNotice_38 (by decide) ?_
        refine Ev.icmp_eq (tgt := 46) dX6_laysNotice_39 (by decide) (fun c39 => ?_) (fun c39 => ?_)
        · refine Ev.iconst (v := 0) dX6_laysNotice_46 (by decide) ?_
          exact J _ _ rfl (by rw [nct, if_pos (Or.inr c39)]) hZ
        · refine Ev.iconst (v := 1) dX6_laysNotice_42 (by decide) ?_
          refine Ev.goto (tgt := 47) dX6_laysNotice_43 (by decide) ?_
          refine J _ _ rfl ?_ hZ
          rw [nct, if_neg]
          rintro (z | z)
          · exact c29 (by rw [ct0, if_pos (Or.inl z)])
          · exact c39 z
  refine KL (X1 22) (X1 23) M1 (hZ.xc rfl ?_) (fun k hk => by rw [if_neg (by omega)]; exact a2 k hk) (fun k hk => by rw [if_neg (by omega)]; exact a3 k hk)
  funext j
  by_cases q : j = 23
  · rw [q, ux_s]
  · rw [ux_n q]
    by_cases q2 : j = 22
    · rw [q2, ux_s]
    · rw [ux_n q2]
end MMI
