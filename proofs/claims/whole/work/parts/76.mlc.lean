/-! the reference writes the cross down -/
noncomputable def xf (b : Nat → Int32) (o : Nat) : Int32 := if b (8 * o + 7) = 1 then -1 else if (xC b (-1)).2.1 o = 0 then xF b (-1) o else -2
/-- what is written down of the cross of c -/
def Xof (m c : Nat → Int32) : Prop := m 333 = (xP c (-1)).1 ∧ m 334 = xV c (-1) ∧ m 335 = xR c (-1) ∧ m 336 = (if (xP c (-1)).1 < 0 then 0 else (xP c (-1)).2.1) ∧ m 337 = nI (xC c (-1)).2.2 ∧ m 338 = (xP c (-1)).2.2 ∧ (∀ o, o < bn c → m (339 + o) = xf c o) ∧ (∀ j, j < 8 * bn c → m (380 + j) = c j) ∧ TR m (xT c)
/-- rows that stand for a book and what it was ahead of its crossing -/
def RB (m b w : Nat → Int32) : Prop := Ag m b ∧ (b 329 = 2 → Xof m w)
section MLD
variable {G : GP} {a : Nat → Nat} {M0 M : Wd} {v : Nat → Int32} {L : Int64} {X : Nat → Nat → Int32} {b w : Nat → Int32} {n : Nat}
set_option maxRecDepth 20000 in
theorem m_ly1 {Q : Option Value → Wd → Prop} {fc : Nat → Int32} (hfc : ∀ o, o < n → fc o = if X 1 (8 * o + 7) = 1 then -1 else if X 35 o = 0 then X 34 o else -2) (hn : X 1 328 = nI n) (hn2 : n ≤ 40) (kk : ∀ M', MZ a M0 v L (ux X 1 (fun j => if 339 ≤ j ∧ j < 339 + n then fc (j - 339) else X 1 j)) M' → Ev G mX6_lays 163 [some (.ref (a 0)), some (.int (nI n))] [] M' 0 0 Q) (hZ : MZ a M0 v L X M) : Ev G mX6_lays 103 [some (.ref (a 0)), some (.int (nI 0))] [] M 0 0 Q := by
  have KL : ∀ M, MZ a M0 v L (ux X 1 (fun j => if 339 ≤ j ∧ j < 339 + 0 then fc (j - 339) else X 1 j)) M → Ev G mX6_lays 103 [some (.ref (a 0)), some (.int (nI 0))] [] M 0 0 Q := by
    refine ev_ind n (fun t => ∀ M, MZ a M0 v L (ux X 1 (fun j => if 339 ≤ j ∧ j < 339 + t then fc (j - 339) else X 1 j)) M → Ev G mX6_lays 103 [some (.ref (a 0)), some (.int (nI t))] [] M 0 0 Q) ?_ ?_
    · intro M hZ
      refine Ev.ild1 dX6_lays_103 ?_
      refine Ev.ald0 dX6_lays_104 ?_
      refine Ev.mgr (kx := 1) dX6_lays_105 fX6_13 hZ rfl ?_
      refine Ev.sipush (v := 328) dX6_lays_108 (by decide) ?_
      refine Ev.mld (j := 328) mq1 dX6_lays_111 hZ (by first | assumption | (simp only [nI, Int32.ofNat_add, Int32.ofNat_mul]; done) | (simp only [nI, Int32.ofNat_add, Int32.ofNat_mul]; rfl) | rfl) (by omega) ?_
      (try simp only [ux_s, ux_n, ne_eq, Nat.reduceEqDiff, Nat.succ_ne_self, not_false_eq_true])
      rw [if_neg (by omega), hn]
      refine Ev.icmp_ge (tgt := 163) dX6_lays_112 (by decide) (fun c112 => ?_) (fun c112 => by first | exact absurd (Int32.le_refl _) c112 | exact absurd c112 (Int32.le_refl _))
      exact kk M hZ
    · intro t ht ih M hZ
      have J : ∀ y : Int32, y = (if X 1 (8 * t + 7) = 1 then -1 else if X 35 t = 0 then X 34 t else -2) → Ev G mX6_lays 156 [some (.ref (a 0)), some (.int (nI t))] [.int y, .int (339 + nI t), .ref (a 1)] M 0 0 Q := by
        intro y hy
        refine Ev.mst (j := 339 + t) mq1 dX6_lays_156 hZ (by first | assumption | (simp only [nI, Int32.ofNat_add, Int32.ofNat_mul]; done) | (simp only [nI, Int32.ofNat_add, Int32.ofNat_mul]; rfl) | rfl) (by omega) (fun M hZ => ?_)
        (try simp only [ux_u, ux_s, ux_n, ne_eq, Nat.reduceEqDiff, Nat.succ_ne_self, not_false_eq_true] at hZ)
        apply Ev.iinc1 dX6_lays_157 rfl rfl
        · first | exact nI_inc _ | rfl
        refine Ev.goto (tgt := 103) dX6_lays_160 (by decide) ?_
        refine ih M (hZ.xc rfl (congrArg (ux X 1) (funext fun j => ?_)))
        by_cases e : j = 339 + t
        · rw [e, pk_us, if_pos (by omega), Nat.add_sub_cancel_left, hfc t ht]
          exact hy
        · rw [pk_un e]
          by_cases e2 : 339 ≤ j ∧ j < 339 + t
          · rw [if_pos e2, if_pos (by omega)]
          · rw [if_neg e2, if_neg (by omega)]
      refine Ev.ild1 dX6_lays_103 ?_
      refine Ev.ald0 dX6_lays_104 ?_
      refine Ev.mgr (kx := 1) dX6_lays_105 fX6_13 hZ rfl ?_
      refine Ev.sipush (v := 328) dX6_lays_108 (by decide) ?_
      refine Ev.mld (j := 328) mq1 dX6_lays_111 hZ (by first | assumption | (simp only [nI, Int32.ofNat_add, Int32.ofNat_mul]; done) | (simp only [nI, Int32.ofNat_add, Int32.ofNat_mul]; rfl) | rfl) (by omega) ?_
      (try simp only [ux_s, ux_n, ne_eq, Nat.reduceEqDiff, Nat.succ_ne_self, not_false_eq_true])
      rw [if_neg (by omega), hn]
      refine Ev.icmp_ge (tgt := 163) dX6_lays_112 (by decide) (fun c112 => by first | exact absurd c112 (nI_ge ht (by omega)) | exact absurd (nI_ge ht (by omega)) c112) (fun c112 => ?_)
      refine Ev.ald0 dX6_lays_115 ?_
      refine Ev.mgr (kx := 1) dX6_lays_116 fX6_13 hZ rfl ?_
      refine Ev.sipush (v := 339) dX6_lays_119 (by decide) ?_
      refine Ev.ild1 dX6_lays_122 ?_
      refine Ev.iadd dX6_lays_123 ?_
      refine Ev.ald0 dX6_lays_124 ?_
      refine Ev.ild1 dX6_lays_125 ?_
      refine Ev.cvI (Yc := mX6_isGone) (ci := 6) dX6_lays_126 lX6_205 vX6_isGone rfl (m_isGone (t) (by first | assumption | (simp only [nI, Int32.ofNat_add, Int32.ofNat_mul]; done) | (simp only [nI, Int32.ofNat_add, Int32.ofNat_mul]; rfl) | rfl) hZ.2.1.1 hZ.2.1.g1 (by omega)) ⟨_, hZ.2.1.1⟩ rfl rfl rfl rfl ?_
      rintro y126 M9 ⟨hy126, rfl⟩
      simp only [ux_s, if_neg (show ¬ (339 ≤ 8 * t + 7 ∧ 8 * t + 7 < 339 + t) by omega)] at hy126
      refine Ev.if_eq (tgt := 136) dX6_lays_129 (by decide) (fun c129 => ?_) (fun c129 => ?_)
      · refine Ev.ald0 dX6_lays_136 ?_
        refine Ev.mgr (kx := 35) dX6_lays_137 fX6_58 hZ rfl ?_
        refine Ev.ild1 dX6_lays_140 ?_
        refine Ev.mzld (j := t) mq35 dX6_lays_141 hZ (by first | assumption | (simp only [nI, Int32.ofNat_add, Int32.ofNat_mul]; done) | (simp only [nI, Int32.ofNat_add, Int32.ofNat_mul]; rfl) | rfl) (by omega) ?_
        (try simp only [ux_s, ux_n, ne_eq, Nat.reduceEqDiff, Nat.succ_ne_self, not_false_eq_true])
        refine Ev.if_eq (tgt := 150) dX6_lays_142 (by decide) (fun c142 => ?_) (fun c142 => ?_)
        · refine Ev.ald0 dX6_lays_150 ?_
          refine Ev.mgr (kx := 34) dX6_lays_151 fX6_55 hZ rfl ?_
          refine Ev.ild1 dX6_lays_154 ?_
          refine Ev.mld (j := t) mq34 dX6_lays_155 hZ (by first | assumption | (simp only [nI, Int32.ofNat_add, Int32.ofNat_mul]; done) | (simp only [nI, Int32.ofNat_add, Int32.ofNat_mul]; rfl) | rfl) (by omega) ?_
          (try simp only [ux_s, ux_n, ne_eq, Nat.reduceEqDiff, Nat.succ_ne_self, not_false_eq_true])
          exact J _ ((if_neg (v01_f hy126 c129)).trans (if_pos c142)).symm
        · refine Ev.bipush (v := -2) dX6_lays_145 (by decide) ?_
          refine Ev.goto (tgt := 156) dX6_lays_147 (by decide) ?_
          exact J _ ((if_neg (v01_f hy126 c129)).trans (if_neg c142)).symm
      · refine Ev.iconst (v := -1) dX6_lays_132 (by decide) ?_
        refine Ev.goto (tgt := 156) dX6_lays_133 (by decide) ?_
        exact J _ (if_pos (v01_t hy126 c129)).symm
  refine KL M (hZ.xc rfl (ux_id (funext fun j => ?_)).symm)
  rw [if_neg (by omega)]
set_option maxRecDepth 20000 in
theorem m_ly2 {Q : Option Value → Wd → Prop} (kk : ∀ M', MZ a M0 v L (ux X 1 (fun j => if 380 ≤ j ∧ j < 380 + 328 then X 1 (j - 380) else X 1 j)) M' → Ev G mX6_lays 194 [some (.ref (a 0)), some (.int (nI 328))] [] M' 0 0 Q) (hZ : MZ a M0 v L X M) : Ev G mX6_lays 165 [some (.ref (a 0)), some (.int (nI 0))] [] M 0 0 Q := by
  have KL : ∀ M, MZ a M0 v L (ux X 1 (fun j => if 380 ≤ j ∧ j < 380 + 0 then X 1 (j - 380) else X 1 j)) M → Ev G mX6_lays 165 [some (.ref (a 0)), some (.int (nI 0))] [] M 0 0 Q := by
    refine ev_ind 328 (fun t => ∀ M, MZ a M0 v L (ux X 1 (fun j => if 380 ≤ j ∧ j < 380 + t then X 1 (j - 380) else X 1 j)) M → Ev G mX6_lays 165 [some (.ref (a 0)), some (.int (nI t))] [] M 0 0 Q) ?_ ?_
    · intro M hZ
      refine Ev.ild1 dX6_lays_165 ?_
      refine Ev.sipush (v := 328) dX6_lays_166 (by decide) ?_
      refine Ev.icmp_ge (tgt := 194) dX6_lays_169 (by decide) (fun c169 => ?_) (fun c169 => by first | exact absurd (Int32.le_refl _) c169 | exact absurd c169 (Int32.le_refl _))
      exact kk M hZ
    · intro t ht ih M hZ
      refine Ev.ild1 dX6_lays_165 ?_
      refine Ev.sipush (v := 328) dX6_lays_166 (by decide) ?_
      refine Ev.icmp_ge (tgt := 194) dX6_lays_169 (by decide) (fun c169 => by first | exact absurd c169 (nI_ge (b := 328) ht (by decide)) | exact absurd (nI_ge (b := 328) ht (by decide)) c169) (fun c169 => ?_)
      refine Ev.ald0 dX6_lays_172 ?_
      refine Ev.mgr (kx := 1) dX6_lays_173 fX6_13 hZ rfl ?_
      refine Ev.sipush (v := 380) dX6_lays_176 (by decide) ?_
      refine Ev.ild1 dX6_lays_179 ?_
      refine Ev.iadd dX6_lays_180 ?_
      refine Ev.ald0 dX6_lays_181 ?_
      refine Ev.mgr (kx := 1) dX6_lays_182 fX6_13 hZ rfl ?_
      refine Ev.ild1 dX6_lays_185 ?_
      refine Ev.mld (j := t) mq1 dX6_lays_186 hZ (by first | assumption | (simp only [nI, Int32.ofNat_add, Int32.ofNat_mul]; done) | (simp only [nI, Int32.ofNat_add, Int32.ofNat_mul]; rfl) | rfl) (by omega) ?_
      (try simp only [ux_s, ux_n, ne_eq, Nat.reduceEqDiff, Nat.succ_ne_self, not_false_eq_true])
      rw [if_neg (by omega)]
      refine Ev.mst (j := (380 + t)) mq1 dX6_lays_187 hZ (by first | assumption | (simp only [nI, Int32.ofNat_add, Int32.ofNat_mul]; done) | (simp only [nI, Int32.ofNat_add, Int32.ofNat_mul]; rfl) | rfl) (by omega) (fun M hZ => ?_)
      (try simp only [ux_u, ux_s, ux_n, ne_eq, Nat.reduceEqDiff, Nat.succ_ne_self, not_false_eq_true] at hZ)
      apply Ev.iinc1 dX6_lays_188 rfl rfl
      · first | exact nI_inc _ | rfl
      refine Ev.goto (tgt := 165) dX6_lays_191 (by decide) ?_
      refine ih M (hZ.xc rfl (congrArg (ux X 1) (funext fun j => ?_)))
      by_cases e : j = 380 + t
      · rw [e, pk_us, if_pos (by omega), Nat.add_sub_cancel_left]
      · rw [pk_un e]
        by_cases e2 : 380 ≤ j ∧ j < 380 + t
        · rw [if_pos e2, if_pos (by omega)]
        · rw [if_neg e2, if_neg (by omega)]
  refine KL M (hZ.xc rfl (ux_id (funext fun j => ?_)).symm)
  rw [if_neg (by omega)]
set_option maxRecDepth 20000 in
theorem m_lays (hZ : MZ a M0 v L X M) (hR : RB (X 1) b w) (hB : BW 40 b) : CtV G mX6_lays [.ref (a 0)] M 0 0 (fun M' => ∃ (v' : Nat → Int32) (X' : Nat → Nat → Int32), MZ a M0 v' L X' M' ∧ (∀ j, j ∉ sci → v' j = v j) ∧ (∀ j, j ≠ 1 → j ∉ scr → X' j = X j) ∧ (∀ j, j < 333 → X' 1 j = X 1 j) ∧ Xof (X' 1) (if b 329 = 2 then w else b)) := by
  have h329 : X 1 329 = b 329 := hR.1.2.2.1
  by_cases hph : b 329 = 2
  · rw [if_pos hph]
    refine Ct.of (ls := [some (.ref (a 0)), none]) (by decide) (by decide) rfl rfl rfl ?_
    refine Ev.ald0 dX6_lays_0 ?_
    refine Ev.mgr (kx := 1) dX6_lays_1 fX6_13 hZ rfl ?_
    refine Ev.sipush (v := 329) dX6_lays_4 (by decide) ?_
    refine Ev.mld (j := 329) mq1 dX6_lays_7 hZ (by first | assumption | (simp only [nI, Int32.ofNat_add, Int32.ofNat_mul]; done) | (simp only [nI, Int32.ofNat_add, Int32.ofNat_mul]; rfl) | rfl) (by omega) ?_
    (try simp only [ux_s, ux_n, ne_eq, Nat.reduceEqDiff, Nat.succ_ne_self, not_false_eq_true])
    rw [h329]
    refine Ev.iconst (v := 2) dX6_lays_8 (by decide) ?_
    refine Ev.icmp_ne (tgt := 13) dX6_lays_9 (by decide) (fun c9 => by first | exact absurd c9 hph | exact absurd hph c9) (fun c9 => ?_)
    refine Ev.vret dX6_lays_12 rfl ?_
    exact ⟨rfl, v, X, hZ, fun _ _ => rfl, fun _ _ _ => rfl, fun _ _ => rfl, hR.2 hph⟩
  · rw [if_neg hph]
    obtain ⟨g0, g1, g2, g3, g4, g5⟩ := hR.1
    have hn2 := hB.2.1
    have hn : b 328 = nI (bn b) := hB.1
    refine Ct.of (ls := [some (.ref (a 0)), none]) (by decide) (by decide) rfl rfl rfl ?_
    refine Ev.ald0 dX6_lays_0 ?_
    refine Ev.mgr (kx := 1) dX6_lays_1 fX6_13 hZ rfl ?_
    refine Ev.sipush (v := 329) dX6_lays_4 (by decide) ?_
    refine Ev.mld (j := 329) mq1 dX6_lays_7 hZ (by first | assumption | (simp only [nI, Int32.ofNat_add, Int32.ofNat_mul]; done) | (simp only [nI, Int32.ofNat_add, Int32.ofNat_mul]; rfl) | rfl) (by omega) ?_
    (try simp only [ux_s, ux_n, ne_eq, Nat.reduceEqDiff, Nat.succ_ne_self, not_false_eq_true])
    rw [h329]
    refine Ev.iconst (v := 2) dX6_lays_8 (by decide) ?_
    refine Ev.icmp_ne (tgt := 13) dX6_lays_9 (by decide) (fun c9 => ?_) (fun c9 => by first | exact absurd hph c9 | exact absurd c9 hph)
    refine Ev.ald0 dX6_lays_13 ?_
    refine Ev.iconst (v := -1) dX6_lays_14 (by decide) ?_
    refine Ev.cvV (Yc := mX6_crosses) (ci := 6) dX6_lays_15 lX6_278 vX6_crosses rfl (m_cross hZ hR.1 (hB.mono (by omega)) (Or.inl rfl)) ⟨_, hZ.2.1.1⟩ rfl rfl rfl rfl ?_
    rintro M1 ⟨v1, X1, hZ, hK, hC⟩
    have hx1 : X1 1 = X 1 := hK.1 1 (by decide)
    refine Ev.ald0 dX6_lays_18 ?_
    refine Ev.mgr (kx := 1) dX6_lays_19 fX6_13 hZ rfl ?_
    refine Ev.sipush (v := 333) dX6_lays_22 (by decide) ?_
    refine Ev.ald0 dX6_lays_25 ?_
    refine Ev.mgv (kx := 28) dX6_lays_26 fX6_223 hZ rfl ?_
    refine Ev.mst (j := 333) mq1 dX6_lays_29 hZ (by first | assumption | (simp only [nI, Int32.ofNat_add, Int32.ofNat_mul]; done) | (simp only [nI, Int32.ofNat_add, Int32.ofNat_mul]; rfl) | rfl) (by omega) (fun M hZ => ?_)
    (try simp only [ux_u, ux_s, ux_n, ne_eq, Nat.reduceEqDiff, Nat.succ_ne_self, not_false_eq_true] at hZ)
    refine Ev.ald0 dX6_lays_30 ?_
    refine Ev.mgr (kx := 1) dX6_lays_31 fX6_13 hZ rfl ?_
    refine Ev.sipush (v := 334) dX6_lays_34 (by decide) ?_
    refine Ev.ald0 dX6_lays_37 ?_
    refine Ev.mgv (kx := 37) dX6_lays_38 fX6_257 hZ rfl ?_
    refine Ev.mst (j := 334) mq1 dX6_lays_41 hZ (by first | assumption | (simp only [nI, Int32.ofNat_add, Int32.ofNat_mul]; done) | (simp only [nI, Int32.ofNat_add, Int32.ofNat_mul]; rfl) | rfl) (by omega) (fun M hZ => ?_)
    (try simp only [ux_u, ux_s, ux_n, ne_eq, Nat.reduceEqDiff, Nat.succ_ne_self, not_false_eq_true] at hZ)
    refine Ev.ald0 dX6_lays_42 ?_
    refine Ev.mgr (kx := 1) dX6_lays_43 fX6_13 hZ rfl ?_
    refine Ev.sipush (v := 335) dX6_lays_46 (by decide) ?_
    refine Ev.ald0 dX6_lays_49 ?_
    refine Ev.mgv (kx := 38) dX6_lays_50 fX6_269 hZ rfl ?_
    refine Ev.mst (j := 335) mq1 dX6_lays_53 hZ (by first | assumption | (simp only [nI, Int32.ofNat_add, Int32.ofNat_mul]; done) | (simp only [nI, Int32.ofNat_add, Int32.ofNat_mul]; rfl) | rfl) (by omega) (fun M hZ => ?_)
    (try simp only [ux_u, ux_s, ux_n, ne_eq, Nat.reduceEqDiff, Nat.succ_ne_self, not_false_eq_true] at hZ)
    refine Ev.ald0 dX6_lays_54 ?_
    refine Ev.mgr (kx := 1) dX6_lays_55 fX6_13 hZ rfl ?_
    refine Ev.sipush (v := 336) dX6_lays_58 (by decide) ?_
    refine Ev.ald0 dX6_lays_61 ?_
    refine Ev.mgv (kx := 28) dX6_lays_62 fX6_223 hZ rfl ?_
    skip
    have J : ∀ (y : Int32) (M : Wd), y = (if (xP b (-1)).1 < 0 then 0 else (xP b (-1)).2.1) → MZ a M0 v1 L (ux X1 1 (upd (upd (upd (X1 1) 333 (v1 28)) 334 (v1 37)) 335 (v1 38))) M → Ev G mX6_lays 76 [some (.ref (a 0)), none] [.int y, .int 336, .ref (a 1)] M 0 0 (fun u M' => u = none ∧ ∃ (v' : Nat → Int32) (X' : Nat → Nat → Int32), MZ a M0 v' L X' M' ∧ (∀ j, j ∉ sci → v' j = v j) ∧ (∀ j, j ≠ 1 → j ∉ scr → X' j = X j) ∧ (∀ j, j < 333 → X' 1 j = X 1 j) ∧ Xof (X' 1) b) := by
      intro y M hy hZ
      refine Ev.mst (j := 336) mq1 dX6_lays_76 hZ (by first | assumption | (simp only [nI, Int32.ofNat_add, Int32.ofNat_mul]; done) | (simp only [nI, Int32.ofNat_add, Int32.ofNat_mul]; rfl) | rfl) (by omega) (fun M hZ => ?_)
      (try simp only [ux_u, ux_s, ux_n, ne_eq, Nat.reduceEqDiff, Nat.succ_ne_self, not_false_eq_true] at hZ)
      refine Ev.ald0 dX6_lays_77 ?_
      refine Ev.mgr (kx := 1) dX6_lays_78 fX6_13 hZ rfl ?_
      refine Ev.sipush (v := 337) dX6_lays_81 (by decide) ?_
      refine Ev.ald0 dX6_lays_84 ?_
      refine Ev.mgv (kx := 36) dX6_lays_85 fX6_263 hZ rfl ?_
      refine Ev.mst (j := 337) mq1 dX6_lays_88 hZ (by first | assumption | (simp only [nI, Int32.ofNat_add, Int32.ofNat_mul]; done) | (simp only [nI, Int32.ofNat_add, Int32.ofNat_mul]; rfl) | rfl) (by omega) (fun M hZ => ?_)
      (try simp only [ux_u, ux_s, ux_n, ne_eq, Nat.reduceEqDiff, Nat.succ_ne_self, not_false_eq_true] at hZ)
      refine Ev.ald0 dX6_lays_89 ?_
      refine Ev.mgr (kx := 1) dX6_lays_90 fX6_13 hZ rfl ?_
      refine Ev.sipush (v := 338) dX6_lays_93 (by decide) ?_
      refine Ev.ald0 dX6_lays_96 ?_
      refine Ev.mgv (kx := 30) dX6_lays_97 fX6_229 hZ rfl ?_
      refine Ev.mst (j := 338) mq1 dX6_lays_100 hZ (by first | assumption | (simp only [nI, Int32.ofNat_add, Int32.ofNat_mul]; done) | (simp only [nI, Int32.ofNat_add, Int32.ofNat_mul]; rfl) | rfl) (by omega) (fun M hZ => ?_)
      (try simp only [ux_u, ux_s, ux_n, ne_eq, Nat.reduceEqDiff, Nat.succ_ne_self, not_false_eq_true] at hZ)
      refine Ev.iconst (v := 0) dX6_lays_101 (by decide) ?_
      refine Ev.ist1 dX6_lays_102 rfl rfl ?_
      skip
      obtain ⟨k1, k2, k3, k4, k5, k6, k7, k8, k9, k10⟩ := hC
      have q0 : ∀ j, j < 333 → upd (upd (upd (upd (upd (upd (X1 1) 333 (v1 28)) 334 (v1 37)) 335 (v1 38)) 336 y) 337 (v1 36)) 338 (v1 30) j = X 1 j := by
        intro j hj
        rw [pk_un (by omega), pk_un (by omega), pk_un (by omega), pk_un (by omega), pk_un (by omega), pk_un (by omega), hx1]
      have q1 : upd (upd (upd (upd (upd (upd (X1 1) 333 (v1 28)) 334 (v1 37)) 335 (v1 38)) 336 y) 337 (v1 36)) 338 (v1 30) 333 = (xP b (-1)).1 := k5
      have q2 : upd (upd (upd (upd (upd (upd (X1 1) 333 (v1 28)) 334 (v1 37)) 335 (v1 38)) 336 y) 337 (v1 36)) 338 (v1 30) 334 = xV b (-1) := k9
      have q3 : upd (upd (upd (upd (upd (upd (X1 1) 333 (v1 28)) 334 (v1 37)) 335 (v1 38)) 336 y) 337 (v1 36)) 338 (v1 30) 335 = xR b (-1) := k10
      have q4 : upd (upd (upd (upd (upd (upd (X1 1) 333 (v1 28)) 334 (v1 37)) 335 (v1 38)) 336 y) 337 (v1 36)) 338 (v1 30) 336 = (if (xP b (-1)).1 < 0 then 0 else (xP b (-1)).2.1) := hy
      have q5 : upd (upd (upd (upd (upd (upd (X1 1) 333 (v1 28)) 334 (v1 37)) 335 (v1 38)) 336 y) 337 (v1 36)) 338 (v1 30) 337 = nI (xC b (-1)).2.2 := k8
      have q6 : upd (upd (upd (upd (upd (upd (X1 1) 333 (v1 28)) 334 (v1 37)) 335 (v1 38)) 336 y) 337 (v1 36)) 338 (v1 30) 338 = (xP b (-1)).2.2 := k7
      generalize upd (upd (upd (upd (upd (upd (X1 1) 333 (v1 28)) 334 (v1 37)) 335 (v1 38)) 336 y) 337 (v1 36)) 338 (v1 30) = m1 at hZ q0 q1 q2 q3 q4 q5 q6
      refine m_ly1 (n := bn b) (fc := xf b) (fun o ho => by rw [ux_s, xf, q0 _ (by omega), g0.at ho (by omega), ← k3 o ho, ← k4 o ho]; rfl) (by rw [ux_s, q0 _ (by omega)]; exact g1.trans hn) hn2 (fun M2 hZ => ?_) hZ
      rw [ux_u] at hZ
      simp only [ux_s] at hZ
      generalize hm2 : (fun j => if 339 ≤ j ∧ j < 339 + bn b then xf b (j - 339) else m1 j) = m2 at hZ
      refine Ev.iconst (v := 0) dX6_lays_163 (by decide) ?_
      refine Ev.ist1 dX6_lays_164 rfl rfl ?_
      skip
      refine m_ly2 (fun M3 hZ => ?_) hZ
      rw [ux_u] at hZ
      simp only [ux_s] at hZ
      have r0 : ∀ j, j < 339 → m2 j = m1 j := fun j hj => by rw [← hm2]; show (if _ then _ else _) = _; rw [if_neg (by omega)]
      have r1 : ∀ o, o < bn b → m2 (339 + o) = xf b o := by
        intro o ho
        rw [← hm2]
        show (if _ then _ else _) = _
        rw [if_pos (by omega), Nat.add_sub_cancel_left]
      generalize hm3 : (fun j => if 380 ≤ j ∧ j < 380 + 328 then m2 (j - 380) else m2 j) = m3 at hZ
      have s0 : ∀ j, j < 380 → m3 j = m2 j := fun j hj => by rw [← hm3]; show (if _ then _ else _) = _; rw [if_neg (by omega)]
      have s1 : ∀ j, j < 8 * bn b → m3 (380 + j) = b j := by
        intro j hj
        rw [← hm3]
        show (if _ then _ else _) = _
        rw [if_pos (by omega), Nat.add_sub_cancel_left, r0 _ (by omega), q0 _ (by omega)]
        exact g0 j hj
      have hq : ∀ j, j < 333 → m3 j = X 1 j := fun j hj => (s0 j (by omega)).trans ((r0 j (by omega)).trans (q0 j hj))
      have hA3 : Ag m3 b := ⟨fun j hj => (hq j (by omega)).trans (g0 j hj), (hq _ (by omega)).trans g1, (hq _ (by omega)).trans g2, (hq _ (by omega)).trans g3, (hq _ (by omega)).trans g4, (hq _ (by omega)).trans g5⟩
      refine Ev.ald0 dX6_lays_194 ?_
      refine Ev.cvV (Yc := mX6_laysTrades) (ci := 6) dX6_lays_195 lX6_281 vX6_laysTrades rfl (m_laysTrades (b := b) hZ (by rw [ux_s]; exact hA3) hB ⟨k1, k2, k3, k4, k5, k6, k7, k8, k9, k10⟩) ⟨_, hZ.2.1.1⟩ rfl rfl rfl rfl ?_
      rintro M4 ⟨v4, X4, hZ, t1, t2, t3, t4⟩
      refine Ev.vret dX6_lays_198 rfl ?_
      refine ⟨rfl, v4, X4, hZ, fun j hj => (t1 j (fun q => hj (by simp [q]))).trans (hK.2 j hj), fun j hj hj2 => ?_, fun j hj => ?_, ?_⟩
      · rw [t2 j (fun q => ?_), ux_n hj]
        · exact hK.1 j hj2
        · simp only [List.mem_cons, List.not_mem_nil, or_false] at q
          rcases q with q | q | q | q | q
          · exact hj q
          · exact hj2 (by simp [q])
          · exact hj2 (by simp [q])
          · exact hj2 (by simp [q])
          · exact hj2 (by simp [q])
      · rw [t3 j (by omega), ux_s]
        exact hq j hj
      · have e : ∀ j, j < 708 → X4 1 j = m3 j := fun j hj => by rw [t3 j hj, ux_s]
        refine ⟨?_, ?_, ?_, ?_, ?_, ?_, fun o ho => ?_, fun j hj => ?_, t4⟩
        · rw [e _ (by omega), s0 _ (by omega), r0 _ (by omega)]; exact q1
        · rw [e _ (by omega), s0 _ (by omega), r0 _ (by omega)]; exact q2
        · rw [e _ (by omega), s0 _ (by omega), r0 _ (by omega)]; exact q3
        · rw [e _ (by omega), s0 _ (by omega), r0 _ (by omega)]; exact q4
        · rw [e _ (by omega), s0 _ (by omega), r0 _ (by omega)]; exact q5
        · rw [e _ (by omega), s0 _ (by omega), r0 _ (by omega)]; exact q6
        · rw [e _ (by omega), s0 _ (by omega)]; exact r1 o ho
        · rw [e _ (by omega)]; exact s1 j hj
    refine Ev.if_ge (tgt := 72) dX6_lays_65 (by decide) (fun c65 => ?_) (fun c65 => ?_)
    · refine Ev.ald0 dX6_lays_72 ?_
      refine Ev.mgv (kx := 29) dX6_lays_73 fX6_226 hZ rfl ?_
      exact J _ M (by rw [if_neg (by rw [← hC.2.2.2.2.1]; exact Int32.not_lt.mpr c65)]; exact hC.2.2.2.2.2.1) hZ
    · refine Ev.iconst (v := 0) dX6_lays_68 (by decide) ?_
      refine Ev.goto (tgt := 76) dX6_lays_69 (by decide) ?_
      exact J _ M (by rw [if_pos (by rw [← hC.2.2.2.2.1]; exact Int32.not_le.mp c65)]) hZ
end MLD
