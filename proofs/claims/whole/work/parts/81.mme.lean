noncomputable def opb (b w : Nat → Int32) : Nat → Int32 := upd (upd (upd (fgt b (bn b)).1 328 (nI (fgt b (bn b)).2)) 329 0) 330 (if 0 < (xP w (-1)).1 then (xP w (-1)).1 else b 330)
noncomputable def sp_open (S : Sg) : Int32 × Sg := if S.1.1 329 = 2 then (nI (fgt S.1.1 (bn S.1.1)).2, psh S (opb S.1.1 S.1.2, S.1.2)) else (-1, S)
theorem fgt_hi {f : Nat → Int32} : ∀ (t j : Nat), 8 * t ≤ j → (fgt f t).1 j = f j
  | 0, j, _ => rfl
  | t + 1, j, h => by
    rw [fgt]
    split
    · show va_cpy _ _ _ _ _ j = _
      have := fgt_le f t
      rw [va_cpy, if_neg (by omega)]
      exact fgt_hi t j (by omega)
    · exact fgt_hi t j (by omega)
theorem Ar.cp {n t d : Nat} {f g : Nat → Int32} (h : Ar n f g) (ht : t < n) : Ar n (va_cpy f f (8 * t) d 8) (va_cpy g g (8 * t) d 8) := fun j hj => by
  rw [va_cpy, va_cpy]
  split
  · exact h _ (by omega)
  · exact h j hj
section MME
variable {G : GP} {a : Nat → Nat} {M0 M : Wd} {v : Nat → Int32} {L : Int64} {X : Nat → Nat → Int32} {S : Sg} {b : Nat → Int32}
set_option maxRecDepth 20000 in
theorem m_op1 {Q : Option Value → Wd → Prop} {m' : Nat → Int32} {t d : Nat} (ht : t < 40) (hd : d ≤ t) (kk : ∀ M', MZ a M0 v L (ux X 1 (va_cpy m' m' (8 * t) (8 * d) 8)) M' → Ev G mX6_open 130 [some (.ref (a 0)), some (.int (nI d)), some (.int (nI t)), some (.int (nI 8))] [] M' 0 0 Q) (hZ : MZ a M0 v L (ux X 1 m') M) : Ev G mX6_open 96 [some (.ref (a 0)), some (.int (nI d)), some (.int (nI t)), some (.int (nI 0))] [] M 0 0 Q := by
  have KL : ∀ M, MZ a M0 v L (ux X 1 (va_cpy m' m' (8 * t) (8 * d) 0)) M → Ev G mX6_open 96 [some (.ref (a 0)), some (.int (nI d)), some (.int (nI t)), some (.int (nI 0))] [] M 0 0 Q := by
    refine ev_ind 8 (fun i => ∀ M, MZ a M0 v L (ux X 1 (va_cpy m' m' (8 * t) (8 * d) i)) M → Ev G mX6_open 96 [some (.ref (a 0)), some (.int (nI d)), some (.int (nI t)), some (.int (nI i))] [] M 0 0 Q) ?_ ?_
    · intro M hZ
      refine Ev.ild3 dX6_open_96 ?_
      refine Ev.bipush (v := 8) dX6_open_97 (by decide) ?_
      refine Ev.icmp_ge (tgt := 130) dX6_open_99 (by decide) (fun c99 => ?_) (fun c99 => by first | exact absurd (Int32.le_refl _) c99 | exact absurd c99 (Int32.le_refl _))
      exact kk M hZ
    · intro i hi ih M hZ
      refine Ev.ild3 dX6_open_96 ?_
      refine Ev.bipush (v := 8) dX6_open_97 (by decide) ?_
      refine Ev.icmp_ge (tgt := 130) dX6_open_99 (by decide) (fun c99 => by first | exact absurd c99 (nI_ge (b := 8) hi (by decide)) | exact absurd (nI_ge (b := 8) hi (by decide)) c99) (fun c99 => ?_)
      refine Ev.ald0 dX6_open_102 ?_
      refine Ev.mgr (kx := 1) dX6_open_103 fX6_13 hZ rfl ?_
      refine Ev.bipush (v := 8) dX6_open_106 (by decide) ?_
      refine Ev.ild1 dX6_open_108 ?_
      refine Ev.imul dX6_open_109 ?_
      refine Ev.ild3 dX6_open_110 ?_
      refine Ev.iadd dX6_open_111 ?_
      refine Ev.ald0 dX6_open_112 ?_
      refine Ev.mgr (kx := 1) dX6_open_113 fX6_13 hZ rfl ?_
      refine Ev.bipush (v := 8) dX6_open_116 (by decide) ?_
      refine Ev.ild2 dX6_open_118 ?_
      refine Ev.imul dX6_open_119 ?_
      refine Ev.ild3 dX6_open_120 ?_
      refine Ev.iadd dX6_open_121 ?_
      refine Ev.mld (j := ((8 * t) + i)) mq1 dX6_open_122 hZ (by first | assumption | (simp only [nI, Int32.ofNat_add, Int32.ofNat_mul]; done) | (simp only [nI, Int32.ofNat_add, Int32.ofNat_mul]; rfl) | rfl) (by omega) ?_
      (try simp only [ux_s, ux_n, ne_eq, Nat.reduceEqDiff, Nat.succ_ne_self, not_false_eq_true])
      rw [show va_cpy m' m' (8 * t) (8 * d) i (8 * t + i) = m' (8 * t + i) from if_neg (by omega)]
      refine Ev.mst (j := ((8 * d) + i)) mq1 dX6_open_123 hZ (by first | assumption | (simp only [nI, Int32.ofNat_add, Int32.ofNat_mul]; done) | (simp only [nI, Int32.ofNat_add, Int32.ofNat_mul]; rfl) | rfl) (by omega) (fun M hZ => ?_)
      (try simp only [ux_u, ux_s, ux_n, ne_eq, Nat.reduceEqDiff, Nat.succ_ne_self, not_false_eq_true] at hZ)
      apply Ev.iinc3 dX6_open_124 rfl rfl
      · first | exact nI_inc _ | rfl
      refine Ev.goto (tgt := 96) dX6_open_127 (by decide) ?_
      refine ih M (hZ.xc rfl (congrArg (ux X 1) (funext fun j => ?_)))
      by_cases z : j = 8 * d + i
      · rw [z, pk_us, va_cpy, if_pos (by omega), Nat.add_sub_cancel_left]
      · rw [pk_un z, va_cpy, va_cpy]
        by_cases y : 8 * d ≤ j ∧ j < 8 * d + i
        · rw [if_pos y, if_pos (by omega)]
        · rw [if_neg y, if_neg (by omega)]
  refine KL M (hZ.xc rfl (congrArg (ux X 1) (funext fun j => ?_)))
  rw [va_cpy, if_neg (by omega)]
set_option maxRecDepth 20000 in
theorem m_op2 {Q : Option Value → Wd → Prop} {m1 : Nat → Int32} (hn : bn b ≤ 40) (hO : OW b (bn b)) (h328 : m1 328 = nI (bn b))
    (kk : ∀ (m' : Nat → Int32) (M' : Wd) (a3 : Option Value), MZ a M0 v L (ux X 1 m') M' → Ar (bn b) m' (fgt b (bn b)).1 → (∀ j, 328 ≤ j → m' j = m1 j) → Ev G mX6_open 139 [some (.ref (a 0)), some (.int (nI (fgt b (bn b)).2)), some (.int (nI (bn b))), a3] [] M' 0 0 Q) (hA : Ar (bn b) m1 b) (hZ : MZ a M0 v L (ux X 1 m1) M) : Ev G mX6_open 74 [some (.ref (a 0)), some (.int (nI 0)), some (.int (nI 0)), none] [] M 0 0 Q := by
  have KL : ∀ (m' : Nat → Int32) (M : Wd) (a3 : Option Value), MZ a M0 v L (ux X 1 m') M → Ar (bn b) m' (fgt b 0).1 → (∀ j, 328 ≤ j → m' j = m1 j) → Ev G mX6_open 74 [some (.ref (a 0)), some (.int (nI (fgt b 0).2)), some (.int (nI 0)), a3] [] M 0 0 Q := by
    refine ev_ind (bn b) (fun t => ∀ (m' : Nat → Int32) (M : Wd) (a3 : Option Value), MZ a M0 v L (ux X 1 m') M → Ar (bn b) m' (fgt b t).1 → (∀ j, 328 ≤ j → m' j = m1 j) → Ev G mX6_open 74 [some (.ref (a 0)), some (.int (nI (fgt b t).2)), some (.int (nI t)), a3] [] M 0 0 Q) ?_ ?_
    · intro m' M a3 hZ hA hm
      have e8 : m' 328 = nI (bn b) := (hm _ (by omega)).trans h328
      refine Ev.ild2 dX6_open_74 ?_
      refine Ev.ald0 dX6_open_75 ?_
      refine Ev.mgr (kx := 1) dX6_open_76 fX6_13 hZ rfl ?_
      refine Ev.sipush (v := 328) dX6_open_79 (by decide) ?_
      refine Ev.mld (j := 328) mq1 dX6_open_82 hZ (by first | assumption | (simp only [nI, Int32.ofNat_add, Int32.ofNat_mul]; done) | (simp only [nI, Int32.ofNat_add, Int32.ofNat_mul]; rfl) | rfl) (by omega) ?_
      (try simp only [ux_s, ux_n, ne_eq, Nat.reduceEqDiff, Nat.succ_ne_self, not_false_eq_true])
      rw [e8]
      refine Ev.icmp_ge (tgt := 139) dX6_open_83 (by decide) (fun c83 => ?_) (fun c83 => by first | exact absurd (Int32.le_refl _) c83 | exact absurd c83 (Int32.le_refl _))
      exact kk m' M a3 hZ hA hm
    · intro t ht ih m' M a3 hZ hA hm
      have e8 : m' 328 = nI (bn b) := (hm _ (by omega)).trans h328
      have l7 : (fgt b t).1 (8 * t + 7) = b (8 * t + 7) := fgt_hi t _ (by omega)
      have e7 : m' (8 * t + 7) = b (8 * t + 7) := (hA.at ht (by omega)).trans l7
      have hle := fgt_le b t
      obtain ⟨g, gg1, gg2⟩ : ∃ g, g ≤ 1 ∧ b (8 * t + 7) = nI g := by
        obtain ⟨s, kd, q, pr, sh, le, ow, g, f0, f1, f2, f3, f4, f5, f6, f7, b0, b1, b2, b3, b4, b5, b6, b7, b8, b9, -⟩ := hO t ht
        exact ⟨g, b9, f7⟩
      have h01 : ¬ b (8 * t + 7) = 1 → b (8 * t + 7) = 0 := by
        intro hg
        rw [gg2]
        have : g = 0 := by
          have : g ≠ 1 := fun z => hg (by rw [gg2, z]; rfl)
          omega
        rw [this]
        exact nI_0
      refine Ev.ild2 dX6_open_74 ?_
      refine Ev.ald0 dX6_open_75 ?_
      refine Ev.mgr (kx := 1) dX6_open_76 fX6_13 hZ rfl ?_
      refine Ev.sipush (v := 328) dX6_open_79 (by decide) ?_
      refine Ev.mld (j := 328) mq1 dX6_open_82 hZ (by first | assumption | (simp only [nI, Int32.ofNat_add, Int32.ofNat_mul]; done) | (simp only [nI, Int32.ofNat_add, Int32.ofNat_mul]; rfl) | rfl) (by omega) ?_
      (try simp only [ux_s, ux_n, ne_eq, Nat.reduceEqDiff, Nat.succ_ne_self, not_false_eq_true])
      rw [e8]
      refine Ev.icmp_ge (tgt := 139) dX6_open_83 (by decide) (fun c83 => by first | exact absurd c83 (nI_ge ht (by omega)) | exact absurd (nI_ge ht (by omega)) c83) (fun c83 => ?_)
      refine Ev.ald0 dX6_open_86 ?_
      refine Ev.ild2 dX6_open_87 ?_
      refine Ev.cvI (Yc := mX6_isGone) (ci := 6) dX6_open_88 lX6_205 vX6_isGone rfl (m_isGone (t) (by first | assumption | (simp only [nI, Int32.ofNat_add, Int32.ofNat_mul]; done) | (simp only [nI, Int32.ofNat_add, Int32.ofNat_mul]; rfl) | rfl) hZ.2.1.1 hZ.2.1.g1 (by omega)) ⟨_, hZ.2.1.1⟩ rfl rfl rfl rfl ?_
      rintro y88 M9 ⟨hy88, rfl⟩
      rw [ux_s, e7] at hy88
      refine Ev.if_ne (tgt := 133) dX6_open_91 (by decide) (fun c91 => ?_) (fun c91 => ?_)
      · apply Ev.iinc2 dX6_open_133 rfl rfl
        · first | exact nI_inc _ | rfl
        refine Ev.goto (tgt := 74) dX6_open_136 (by decide) ?_
        refine Ev.cg (by rw [fgt, if_neg (by rw [l7, v01_t hy88 c91]; decide)]) (ih _ _ _ hZ ?_ hm)
        rw [fgt, if_neg (by rw [l7, v01_t hy88 c91]; decide)]
        exact hA
      · refine Ev.iconst (v := 0) dX6_open_94 (by decide) ?_
        refine Ev.ist3 dX6_open_95 rfl rfl ?_
        refine m_op1 (by omega) hle (fun M5 hZ => ?_) hZ
        have z0 : (fgt b t).1 (8 * t + 7) = 0 := l7.trans (h01 (v01_f hy88 c91))
        refine Ev.iinc1 (v := nI ((fgt b t).2 + 1)) dX6_open_130 rfl rfl (nI_inc _) ?_
        refine Ev.iinc2 (v := nI (t + 1)) dX6_open_133 rfl rfl (nI_inc _) ?_
        refine Ev.goto (tgt := 74) dX6_open_136 (by decide) ?_
        refine Ev.cg (by rw [fgt, if_pos z0]) (ih _ _ (some (.int (nI 8))) hZ ?_ (fun j hj => ?_))
        · rw [fgt, if_pos z0]
          exact hA.cp ht
        · rw [va_cpy, if_neg (by omega)]
          exact hm j hj
  exact KL m1 M _ hZ hA (fun _ _ => rfl)
set_option maxRecDepth 20000 in
theorem m_open (hS : Sok S) (hR : MR v X S) (hZ : MZ a M0 v L X M) : CtI G mX6_open [.ref (a 0)] M 0 0 (fun x M' => x = (sp_open S).1 ∧ ∃ (v' : Nat → Int32) (X' : Nat → Nat → Int32), MZ a M0 v' L X' M' ∧ MR v' X' (sp_open S).2) := by
  have hA := hR.1.1
  have e9 : X 1 329 = S.1.1 329 := hA.2.2.1
  have e30 : X 1 330 = S.1.1 330 := hA.2.2.2.1
  have hB : BW 40 S.1.1 := hS.1.1
  have hn := hB.2.1
  by_cases hph : S.1.1 329 = 2
  · rw [sp_open, if_pos hph]
    have x333 : X 1 333 = (xP S.1.2 (-1)).1 := (hR.1.2 hph).1
    have J : ∀ (y : Int32) (v3 : Nat → Int32) (X3 : Nat → Nat → Int32) (M : Wd), y = (if 0 < (xP S.1.2 (-1)).1 then (xP S.1.2 (-1)).1 else S.1.1 330) → MZ a M0 v3 L (ux X3 1 (upd (X 1) 329 0)) M → (∀ (q : Bw) (v2 : Nat → Int32) (X2 : Nat → Nat → Int32), QT v3 v2 X3 X2 → RB (X2 1) q.1 q.2 → MR v2 X2 (psh S q)) → Ev G mX6_open 69 [some (.ref (a 0)), none, none, none] [.int y, .int 330, .ref (a 1)] M 0 0 (fun u M' => ∃ x, u = some (.int x) ∧ x = nI (fgt S.1.1 (bn S.1.1)).2 ∧ ∃ (v' : Nat → Int32) (X' : Nat → Nat → Int32), MZ a M0 v' L X' M' ∧ MR v' X' (psh S (opb S.1.1 S.1.2, S.1.2))) := by
      intro y v3 X3 M hy hZ y4
      refine Ev.mst (j := 330) mq1 dX6_open_69 hZ (by first | assumption | (simp only [nI, Int32.ofNat_add, Int32.ofNat_mul]; done) | (simp only [nI, Int32.ofNat_add, Int32.ofNat_mul]; rfl) | rfl) (by omega) (fun M hZ => ?_)
      (try simp only [ux_u, ux_s, ux_n, ne_eq, Nat.reduceEqDiff, Nat.succ_ne_self, not_false_eq_true] at hZ)
      refine Ev.iconst (v := 0) dX6_open_70 (by decide) ?_
      refine Ev.ist1 dX6_open_71 rfl rfl ?_
      refine Ev.iconst (v := 0) dX6_open_72 (by decide) ?_
      refine Ev.ist2 dX6_open_73 rfl rfl ?_
      skip
      have u : ∀ j, j ≠ 329 → j ≠ 330 → upd (upd (X 1) 329 0) 330 y j = X 1 j := fun j h1 h2 => by rw [pk_un h2, pk_un h1]
      refine m_op2 (b := S.1.1) hn hB.2.2.1 ((u _ (by decide) (by decide)).trans (hA.2.1.trans hB.1)) (fun m' M' a3 hZ hA' hm' => ?_) (fun j hj => (u j (by omega) (by omega)).trans (hA.1 j hj)) hZ
      refine Ev.ald0 dX6_open_139 ?_
      refine Ev.mgr (kx := 1) dX6_open_140 fX6_13 hZ rfl ?_
      refine Ev.sipush (v := 328) dX6_open_143 (by decide) ?_
      refine Ev.ild1 dX6_open_146 ?_
      refine Ev.mst (j := 328) mq1 dX6_open_147 hZ (by first | assumption | (simp only [nI, Int32.ofNat_add, Int32.ofNat_mul]; done) | (simp only [nI, Int32.ofNat_add, Int32.ofNat_mul]; rfl) | rfl) (by omega) (fun M hZ => ?_)
      (try simp only [ux_u, ux_s, ux_n, ne_eq, Nat.reduceEqDiff, Nat.succ_ne_self, not_false_eq_true] at hZ)
      refine Ev.ild1 dX6_open_148 ?_
      refine Ev.iret dX6_open_149 rfl rfl ?_
      skip
      refine ⟨_, rfl, rfl, _, _, hZ, y4 _ _ _ QT.rf.m ⟨⟨?_, ?_, ?_, ?_, ?_, ?_⟩, fun z => absurd z ?_⟩⟩
      · rw [ux_s]
        have hle := fgt_le S.1.1 (bn S.1.1)
        have en : bn (opb S.1.1 S.1.2) = (fgt S.1.1 (bn S.1.1)).2 := by rw [opb, bn_up (by decide), bn_up (by decide), bn, pk_us, nI_clamp (by omega)]
        show Ar (bn (opb S.1.1 S.1.2)) _ (opb S.1.1 S.1.2)
        rw [en]
        intro j hj
        rw [opb, pk_un (by omega), pk_un (by omega), pk_un (by omega), pk_un (by omega)]
        exact hA' j (by omega)
      · rw [ux_s, pk_us]
        show _ = opb S.1.1 S.1.2 328
        rw [opb, pk_un (by decide), pk_un (by decide), pk_us]
      · rw [ux_s, pk_un (by decide), hm' _ (by omega), pk_un (by decide), pk_us]
        show _ = opb S.1.1 S.1.2 329
        rw [opb, pk_un (by decide), pk_us]
      · rw [ux_s, pk_un (by decide), hm' _ (by omega), pk_us, hy]
        show _ = opb S.1.1 S.1.2 330
        rw [opb, pk_us]
      · rw [ux_s, pk_un (by decide), hm' _ (by omega), u _ (by decide) (by decide), hA.2.2.2.2.1]
        show _ = opb S.1.1 S.1.2 331
        rw [opb, pk_un (by decide), pk_un (by decide), pk_un (by decide), fgt_hi _ _ (by omega)]
      · rw [ux_s, pk_un (by decide), hm' _ (by omega), u _ (by decide) (by decide), hA.2.2.2.2.2]
        show _ = opb S.1.1 S.1.2 332
        rw [opb, pk_un (by decide), pk_un (by decide), pk_un (by decide), fgt_hi _ _ (by omega)]
      · show ¬ opb S.1.1 S.1.2 329 = 2
        rw [opb, pk_un (by decide), pk_us]
        decide
    refine Ct.of (ls := [some (.ref (a 0)), none, none, none]) (by decide) (by decide) rfl rfl rfl ?_
    refine Ev.ald0 dX6_open_0 ?_
    refine Ev.iconst (v := 0) dX6_open_1 (by decide) ?_
    refine Ev.mput (kx := 0) dX6_open_2 fX6_1 hZ rfl rfl (fun M hZ => ?_)
    refine Ev.ald0 dX6_open_5 ?_
    refine Ev.mgr (kx := 1) dX6_open_6 fX6_13 hZ rfl ?_
    refine Ev.sipush (v := 329) dX6_open_9 (by decide) ?_
    refine Ev.mld (j := 329) mq1 dX6_open_12 hZ (by first | assumption | (simp only [nI, Int32.ofNat_add, Int32.ofNat_mul]; done) | (simp only [nI, Int32.ofNat_add, Int32.ofNat_mul]; rfl) | rfl) (by omega) ?_
    (try simp only [ux_s, ux_n, ne_eq, Nat.reduceEqDiff, Nat.succ_ne_self, not_false_eq_true])
    rw [e9]
    refine Ev.iconst (v := 2) dX6_open_13 (by decide) ?_
    refine Ev.icmp_eq (tgt := 19) dX6_open_14 (by decide) (fun c14 => ?_) (fun c14 => by first | exact absurd hph c14 | exact absurd c14 hph)
    refine Ev.ald0 dX6_open_19 ?_
    refine Ev.cvV (Yc := mX6_keepsBack) (ci := 6) dX6_open_20 lX6_302 vX6_keepsBack rfl (m_keep hS hR QT.rf.t hR.1 hZ) ⟨_, hZ.2.1.1⟩ rfl rfl rfl rfl ?_
    rintro M1 ⟨v3, X3, hZ, y1, y2, y3, y4⟩
    refine Ev.ald0 dX6_open_23 ?_
    refine Ev.mgr (kx := 1) dX6_open_24 fX6_13 hZ rfl ?_
    refine Ev.sipush (v := 329) dX6_open_27 (by decide) ?_
    refine Ev.iconst (v := 0) dX6_open_30 (by decide) ?_
    refine Ev.mst (j := 329) mq1 dX6_open_31 hZ (by first | assumption | (simp only [nI, Int32.ofNat_add, Int32.ofNat_mul]; done) | (simp only [nI, Int32.ofNat_add, Int32.ofNat_mul]; rfl) | rfl) (by omega) (fun M hZ => ?_)
    (try simp only [ux_u, ux_s, ux_n, ne_eq, Nat.reduceEqDiff, Nat.succ_ne_self, not_false_eq_true] at hZ)
    rw [y1] at hZ
    refine Ev.ald0 dX6_open_32 ?_
    refine Ev.mgr (kx := 1) dX6_open_33 fX6_13 hZ rfl ?_
    refine Ev.sipush (v := 330) dX6_open_36 (by decide) ?_
    refine Ev.ald0 dX6_open_39 ?_
    refine Ev.mgr (kx := 1) dX6_open_40 fX6_13 hZ rfl ?_
    refine Ev.sipush (v := 333) dX6_open_43 (by decide) ?_
    refine Ev.mld (j := 333) mq1 dX6_open_46 hZ (by first | assumption | (simp only [nI, Int32.ofNat_add, Int32.ofNat_mul]; done) | (simp only [nI, Int32.ofNat_add, Int32.ofNat_mul]; rfl) | rfl) (by omega) ?_
    (try simp only [ux_s, ux_n, ne_eq, Nat.reduceEqDiff, Nat.succ_ne_self, not_false_eq_true])
    rw [pk_un (by decide), x333]
    refine Ev.if_le (tgt := 61) dX6_open_47 (by decide) (fun c47 => ?_) (fun c47 => ?_)
    · refine Ev.ald0 dX6_open_61 ?_
      refine Ev.mgr (kx := 1) dX6_open_62 fX6_13 hZ rfl ?_
      refine Ev.sipush (v := 330) dX6_open_65 (by decide) ?_
      refine Ev.mld (j := 330) mq1 dX6_open_68 hZ (by first | assumption | (simp only [nI, Int32.ofNat_add, Int32.ofNat_mul]; done) | (simp only [nI, Int32.ofNat_add, Int32.ofNat_mul]; rfl) | rfl) (by omega) ?_
      (try simp only [ux_s, ux_n, ne_eq, Nat.reduceEqDiff, Nat.succ_ne_self, not_false_eq_true])
      rw [pk_un (by decide), e30]
      exact J _ _ _ _ (if_neg (Int32.not_lt.mpr c47)).symm hZ y4
    · refine Ev.ald0 dX6_open_50 ?_
      refine Ev.mgr (kx := 1) dX6_open_51 fX6_13 hZ rfl ?_
      refine Ev.sipush (v := 333) dX6_open_54 (by decide) ?_
      refine Ev.mld (j := 333) mq1 dX6_open_57 hZ (by first | assumption | (simp only [nI, Int32.ofNat_add, Int32.ofNat_mul]; done) | (simp only [nI, Int32.ofNat_add, Int32.ofNat_mul]; rfl) | rfl) (by omega) ?_
      (try simp only [ux_s, ux_n, ne_eq, Nat.reduceEqDiff, Nat.succ_ne_self, not_false_eq_true])
      rw [pk_un (by decide), x333]
      refine Ev.goto (tgt := 69) dX6_open_58 (by decide) ?_
      exact J _ _ _ _ (if_pos (Int32.not_le.mp c47)).symm hZ y4
  · rw [sp_open, if_neg hph]
    refine Ct.of (ls := [some (.ref (a 0)), none, none, none]) (by decide) (by decide) rfl rfl rfl ?_
    refine Ev.ald0 dX6_open_0 ?_
    refine Ev.iconst (v := 0) dX6_open_1 (by decide) ?_
    refine Ev.mput (kx := 0) dX6_open_2 fX6_1 hZ rfl rfl (fun M hZ => ?_)
    refine Ev.ald0 dX6_open_5 ?_
    refine Ev.mgr (kx := 1) dX6_open_6 fX6_13 hZ rfl ?_
    refine Ev.sipush (v := 329) dX6_open_9 (by decide) ?_
    refine Ev.mld (j := 329) mq1 dX6_open_12 hZ (by first | assumption | (simp only [nI, Int32.ofNat_add, Int32.ofNat_mul]; done) | (simp only [nI, Int32.ofNat_add, Int32.ofNat_mul]; rfl) | rfl) (by omega) ?_
    (try simp only [ux_s, ux_n, ne_eq, Nat.reduceEqDiff, Nat.succ_ne_self, not_false_eq_true])
    rw [e9]
    refine Ev.iconst (v := 2) dX6_open_13 (by decide) ?_
    refine Ev.icmp_eq (tgt := 19) dX6_open_14 (by decide) (fun c14 => by first | exact absurd c14 hph | exact absurd hph c14) (fun c14 => ?_)
    refine Ev.iconst (v := -1) dX6_open_17 (by decide) ?_
    refine Ev.iret dX6_open_18 rfl rfl ?_
    exact ⟨_, rfl, rfl, _, _, hZ, hR.q QT.rf.t hR.1⟩
end MME
