/-! the reference crosses and opens -/
noncomputable def xfl (b : Nat → Int32) (o : Nat) : Int32 := if 0 < xf b o then xf b o else 0
noncomputable def pst (b P : Nat → Int32) : Nat → Int32 := fun j => if j = 0 then (xP b (-1)).1 else if j = 1 then xV b (-1) else if j = 2 then xR b (-1) else if j = 3 then nI (xT b).length else P (j - 4)
noncomputable def lvb (b : Nat → Int32) : Nat → Int32 := upd (lev b (xfl b) (bn b)) 329 2
noncomputable def sp_cross (S : Sg) : Int32 × Sg := if S.1.1 329 = 2 then (-1, S) else (xV S.1.1 (-1), ((lvb S.1.1, S.1.1), kpt S, S.2.2.1, S.2.2.2.1, pst S.1.1 S.2.2.2.2.1, S.2.2.2.2.2 + 1))
theorem Ar.up {n : Nat} {f g : Nat → Int32} {j : Nat} {x : Int32} (h : Ar n f g) : Ar n (upd f j x) (upd g j x) := fun i hi => by
  by_cases e : i = j
  · rw [e, pk_us, pk_us]
  · rw [pk_un e, pk_un e]
    exact h i hi
theorem Ar.lw {n : Nat} {f g : Nat → Int32} {k : Nat} {q : Int32} (h : Ar n f g) (hk : k < n) : Ar n (low f k q) (low g k q) := by
  rw [low, low, h.at (i := 4) hk (by omega), h.at (i := 5) hk (by omega)]
  exact h.up.up.up
theorem lv1_n {f : Nat → Int32} {k j : Nat} {x : Int32} (h : j < 8 * k ∨ 8 * k + 8 ≤ j) : lv1 f k x j = f j := by
  rw [lv1]
  split
  · rw [pk_un (by omega), low_n h]
  · exact low_n h
theorem lev_hi {f fl : Nat → Int32} : ∀ (t j : Nat), 8 * t ≤ j → lev f fl t j = f j
  | 0, j, _ => rfl
  | t + 1, j, h => by
    rw [lev]
    split
    · rw [lv1_n (by omega)]
      exact lev_hi t j (by omega)
    · exact lev_hi t j (by omega)
theorem MR.pa {v v' : Nat → Int32} {X X' : Nat → Nat → Int32} {S : Sg} {P : Nat → Int32} {c : Nat} (h : MR v X S) (h1 : ∀ j, j ≠ 4 → X' j = X j) (h2 : ∀ j, j ≠ 5 → j ≠ 6 → v' j = v j) (h3 : v' 6 = nI c) (h4 : v' 5 = nI (min 8 c)) (h5 : ∀ j, j < 4 * min 8 c → X' 4 j = P j) : MR v' X' (S.1, S.2.1, S.2.2.1, S.2.2.2.1, P, c) := by
  refine ⟨by rw [h1 1 (by decide)]; exact h.1, ⟨by rw [h2 3 (by decide) (by decide)]; exact h.2.1.1, by rw [h1 2 (by decide)]; exact h.2.1.2⟩, ⟨by rw [h2 8 (by decide) (by decide)]; exact h.2.2.1.1, by rw [h1 7 (by decide)]; exact h.2.2.1.2⟩, h3, h4, h5⟩
section MMD
variable {G : GP} {a : Nat → Nat} {M0 M : Wd} {v : Nat → Int32} {L : Int64} {X : Nat → Nat → Int32} {S : Sg} {b : Nat → Int32}
set_option maxRecDepth 20000 in
/-- the fills leave the orders -/
theorem m_cx1 {Q : Option Value → Wd → Prop} {m1 : Nat → Int32} (hn : bn b ≤ 40) (hO : OW b (bn b)) (h328 : m1 328 = nI (bn b)) (hf : ∀ o, o < bn b → m1 (339 + o) = xf b o)
    (kk : ∀ (m' : Nat → Int32) (M' : Wd) (a1 a2 a3 : Option Value), MZ a M0 v L (ux X 1 m') M' → Ar (bn b) m' (lev b (xfl b) (bn b)) → (∀ j, 328 ≤ j → m' j = m1 j) → Ev G mX6_cross 160 [some (.ref (a 0)), some (.int (nI (bn b))), a2, a3] [] M' 0 0 Q) (hA : Ar (bn b) m1 b) (hZ : MZ a M0 v L (ux X 1 m1) M) : Ev G mX6_cross 38 [some (.ref (a 0)), some (.int (nI 0)), none, none] [] M 0 0 Q := by
  have KL : ∀ (m' : Nat → Int32) (M : Wd) (a2 a3 : Option Value), MZ a M0 v L (ux X 1 m') M → Ar (bn b) m' (lev b (xfl b) 0) → (∀ j, 328 ≤ j → m' j = m1 j) → Ev G mX6_cross 38 [some (.ref (a 0)), some (.int (nI 0)), a2, a3] [] M 0 0 Q := by
    refine ev_ind (bn b) (fun t => ∀ (m' : Nat → Int32) (M : Wd) (a2 a3 : Option Value), MZ a M0 v L (ux X 1 m') M → Ar (bn b) m' (lev b (xfl b) t) → (∀ j, 328 ≤ j → m' j = m1 j) → Ev G mX6_cross 38 [some (.ref (a 0)), some (.int (nI t)), a2, a3] [] M 0 0 Q) ?_ ?_
    · intro m' M a2 a3 hZ hA hm
      have e8 : m' 328 = nI (bn b) := (hm _ (by omega)).trans h328
      refine Ev.ild1 dX6_cross_38 ?_
      refine Ev.ald0 dX6_cross_39 ?_
      refine Ev.mgr (kx := 1) dX6_cross_40 fX6_13 hZ rfl ?_
      refine Ev.sipush (v := 328) dX6_cross_43 (by decide) ?_
      refine Ev.mld (j := 328) mq1 dX6_cross_46 hZ (by first | assumption | (simp only [nI, Int32.ofNat_add, Int32.ofNat_mul]; done) | (simp only [nI, Int32.ofNat_add, Int32.ofNat_mul]; rfl) | rfl) (by omega) ?_
      (try simp only [ux_s, ux_n, ne_eq, Nat.reduceEqDiff, Nat.succ_ne_self, not_false_eq_true])
      rw [e8]
      refine Ev.icmp_ge (tgt := 160) dX6_cross_47 (by decide) (fun c47 => ?_) (fun c47 => by first | exact absurd (Int32.le_refl _) c47 | exact absurd c47 (Int32.le_refl _))
      exact kk m' M none a2 a3 hZ hA hm
    · intro t ht ih m' M a2 a3 hZ hA hm
      have e8 : m' 328 = nI (bn b) := (hm _ (by omega)).trans h328
      have e7 : m' (8 * t + 7) = b (8 * t + 7) := (hA.at ht (by omega)).trans (lev_hi t _ (by omega))
      have e1 : m' (8 * t + 1) = b (8 * t + 1) := (hA.at ht (by omega)).trans (lev_hi t _ (by omega))
      have e2 : m' (8 * t + 2) = b (8 * t + 2) := (hA.at ht (by omega)).trans (lev_hi t _ (by omega))
      have ef : m' (339 + t) = xf b t := (hm _ (by omega)).trans (hf t ht)
      have l7 : lev b (xfl b) t (8 * t + 7) = b (8 * t + 7) := lev_hi t _ (by omega)
      have l1 : lev b (xfl b) t (8 * t + 1) = b (8 * t + 1) := lev_hi t _ (by omega)
      have l2 : lev b (xfl b) t (8 * t + 2) = b (8 * t + 2) := lev_hi t _ (by omega)
      obtain ⟨g, gg1, gg2⟩ : ∃ g, g ≤ 1 ∧ b (8 * t + 7) = nI g := by
        obtain ⟨s, kd, q, pr, sh, le, ow, g, f0, f1, f2, f3, f4, f5, f6, f7, b0, b1, b2, b3, b4, b5, b6, b7, b8, b9, -⟩ := hO t ht
        exact ⟨g, b9, f7⟩
      -- behind lessens
      have J : ∀ (fl : Int32) (M : Wd) (a3 : Option Value), fl = xfl b t → ¬ b (8 * t + 7) = 1 → MZ a M0 v L (ux X 1 m') M → Ev G mX6_cross 85 [some (.ref (a 0)), some (.int (nI t)), a2, a3] [.int fl] M 0 0 Q := by
        intro fl M a3 hfl hg hZ
        have g0 : b (8 * t + 7) = 0 := by
          rw [gg2]
          have : g = 0 := by
            have : g ≠ 1 := fun z => hg (by rw [gg2, z]; rfl)
            omega
          rw [this]
          exact nI_0
        have hA2 : Ar (bn b) (low m' t (b (8 * t + 2) - fl)) (low (lev b (xfl b) t) t (b (8 * t + 2) - fl)) := hA.lw ht
        have q2 : low m' t (b (8 * t + 2) - fl) (8 * t + 2) = b (8 * t + 2) - fl := by rw [low, pk_un (by omega), pk_un (by omega), pk_us]
        have q1 : low m' t (b (8 * t + 2) - fl) (8 * t + 1) = b (8 * t + 1) := by rw [low, pk_un (by omega), pk_un (by omega), pk_un (by omega), e1]
        have q7 : low m' t (b (8 * t + 2) - fl) (8 * t + 7) = 0 := by rw [low, pk_un (by omega), pk_un (by omega), pk_un (by omega), e7, g0]
        have qh : ∀ (x : Int32) j, 328 ≤ j → upd (low m' t (b (8 * t + 2) - fl)) (8 * t + 7) x j = m1 j := fun x j hj => by rw [pk_un (by omega), low_n (by omega)]; exact hm j hj
        have el : lev b (xfl b) (t + 1) = lv1 (lev b (xfl b) t) t fl := by rw [lev, if_pos (l7.trans g0), hfl]
        have J2 : ∀ (go : Int32) (M : Wd) (a3 : Option Value), (go = 1 ∧ (b (8 * t + 2) - fl = 0 ∨ b (8 * t + 1) = 0 ∨ b (8 * t + 1) = 4) ∨ go = 0 ∧ ¬ (b (8 * t + 2) - fl = 0 ∨ b (8 * t + 1) = 0 ∨ b (8 * t + 1) = 4)) → MZ a M0 v L (ux X 1 (low m' t (b (8 * t + 2) - fl))) M → Ev G mX6_cross 132 [some (.ref (a 0)), some (.int (nI t)), some (.int fl), a3] [.int go] M 0 0 Q := by
          intro go M a3 hgo hZ
          refine Ev.ist3 dX6_cross_132 rfl rfl ?_
          refine Ev.ald0 dX6_cross_133 ?_
          refine Ev.mgr (kx := 1) dX6_cross_134 fX6_13 hZ rfl ?_
          refine Ev.bipush (v := 8) dX6_cross_137 (by decide) ?_
          refine Ev.ild1 dX6_cross_139 ?_
          refine Ev.imul dX6_cross_140 ?_
          refine Ev.bipush (v := 7) dX6_cross_141 (by decide) ?_
          refine Ev.iadd dX6_cross_143 ?_
          refine Ev.ild3 dX6_cross_144 ?_
          refine Ev.if_eq (tgt := 152) dX6_cross_145 (by decide) (fun c145 => ?_) (fun c145 => ?_)
          · refine Ev.iconst (v := 0) dX6_cross_152 (by decide) ?_
            refine Ev.mst (j := ((8 * t) + 7)) mq1 dX6_cross_153 hZ (by first | assumption | (simp only [nI, Int32.ofNat_add, Int32.ofNat_mul]; done) | (simp only [nI, Int32.ofNat_add, Int32.ofNat_mul]; rfl) | rfl) (by omega) (fun M hZ => ?_)
            (try simp only [ux_u, ux_s, ux_n, ne_eq, Nat.reduceEqDiff, Nat.succ_ne_self, not_false_eq_true] at hZ)
            apply Ev.iinc1 dX6_cross_154 rfl rfl
            · first | exact nI_inc _ | rfl
            refine Ev.goto (tgt := 38) dX6_cross_157 (by decide) ?_
            refine ih _ M _ _ hZ ?_ (qh 0)
            rw [el, lv1, l2, l1, if_neg (hgo.resolve_left (fun y => absurd (y.1.symm.trans c145) (by decide))).2]
            intro j hj
            by_cases z : j = 8 * t + 7
            · rw [z, pk_us, ← hA2.at ht (by omega), q7]
            · rw [pk_un z]; exact hA2 j hj
          · refine Ev.iconst (v := 1) dX6_cross_148 (by decide) ?_
            refine Ev.goto (tgt := 153) dX6_cross_149 (by decide) ?_
            refine Ev.mst (j := ((8 * t) + 7)) mq1 dX6_cross_153 hZ (by first | assumption | (simp only [nI, Int32.ofNat_add, Int32.ofNat_mul]; done) | (simp only [nI, Int32.ofNat_add, Int32.ofNat_mul]; rfl) | rfl) (by omega) (fun M hZ => ?_)
            (try simp only [ux_u, ux_s, ux_n, ne_eq, Nat.reduceEqDiff, Nat.succ_ne_self, not_false_eq_true] at hZ)
            apply Ev.iinc1 dX6_cross_154 rfl rfl
            · first | exact nI_inc _ | rfl
            refine Ev.goto (tgt := 38) dX6_cross_157 (by decide) ?_
            refine ih _ M _ _ hZ ?_ (qh 1)
            rw [el, lv1, l2, l1, if_pos (hgo.resolve_right (fun y => c145 y.1)).2]
            exact hA2.up
        refine Ev.ist2 dX6_cross_85 rfl rfl ?_
        refine Ev.ald0 dX6_cross_86 ?_
        refine Ev.ild1 dX6_cross_87 ?_
        refine Ev.ald0 dX6_cross_88 ?_
        refine Ev.ild1 dX6_cross_89 ?_
        refine Ev.iconst (v := 2) dX6_cross_90 (by decide) ?_
        refine Ev.cvI (Yc := mX6_of) (ci := 6) dX6_cross_91 lX6_201 vX6_of rfl (m_of (t) (2) (by first | assumption | (simp only [nI, Int32.ofNat_add, Int32.ofNat_mul]; done) | (simp only [nI, Int32.ofNat_add, Int32.ofNat_mul]; rfl) | rfl) (by first | assumption | (simp only [nI, Int32.ofNat_add, Int32.ofNat_mul]; done) | (simp only [nI, Int32.ofNat_add, Int32.ofNat_mul]; rfl) | rfl) hZ.2.1.1 hZ.2.1.g1 (by omega)) ⟨_, hZ.2.1.1⟩ rfl rfl rfl rfl ?_
        rintro y91 M9 ⟨hy91, rfl⟩
        subst hy91
        rw [ux_s, e2]
        refine Ev.ild2 dX6_cross_94 ?_
        refine Ev.isub dX6_cross_95 ?_
        refine Ev.cvV (Yc := mX6_lessens) (ci := 6) dX6_cross_96 lX6_311 vX6_lessens rfl (m_lessens t rfl (by omega) hZ) ⟨_, hZ.2.1.1⟩ rfl rfl rfl rfl ?_
        rintro M2 hZ
        rw [ux_u, ux_s] at hZ
        refine Ev.ald0 dX6_cross_99 ?_
        refine Ev.ild1 dX6_cross_100 ?_
        refine Ev.iconst (v := 2) dX6_cross_101 (by decide) ?_
        refine Ev.cvI (Yc := mX6_of) (ci := 6) dX6_cross_102 lX6_201 vX6_of rfl (m_of (t) (2) (by first | assumption | (simp only [nI, Int32.ofNat_add, Int32.ofNat_mul]; done) | (simp only [nI, Int32.ofNat_add, Int32.ofNat_mul]; rfl) | rfl) (by first | assumption | (simp only [nI, Int32.ofNat_add, Int32.ofNat_mul]; done) | (simp only [nI, Int32.ofNat_add, Int32.ofNat_mul]; rfl) | rfl) hZ.2.1.1 hZ.2.1.g1 (by omega)) ⟨_, hZ.2.1.1⟩ rfl rfl rfl rfl ?_
        rintro y102 M9 ⟨hy102, rfl⟩
        subst hy102
        rw [ux_s, q2]
        refine Ev.if_eq (tgt := 127) dX6_cross_105 (by decide) (fun c105 => ?_) (fun c105 => ?_)
        · refine Ev.iconst (v := 1) dX6_cross_127 (by decide) ?_
          refine Ev.goto (tgt := 132) dX6_cross_128 (by decide) ?_
          exact J2 1 _ _ (Or.inl ⟨rfl, Or.inl c105⟩) hZ
        · refine Ev.ald0 dX6_cross_108 ?_
          refine Ev.ild1 dX6_cross_109 ?_
          refine Ev.iconst (v := 1) dX6_cross_110 (by decide) ?_
          refine Ev.cvI (Yc := mX6_of) (ci := 6) dX6_cross_111 lX6_201 vX6_of rfl (m_of (t) (1) (by first | assumption | (simp only [nI, Int32.ofNat_add, Int32.ofNat_mul]; done) | (simp only [nI, Int32.ofNat_add, Int32.ofNat_mul]; rfl) | rfl) (by first | assumption | (simp only [nI, Int32.ofNat_add, Int32.ofNat_mul]; done) | (simp only [nI, Int32.ofNat_add, Int32.ofNat_mul]; rfl) | rfl) hZ.2.1.1 hZ.2.1.g1 (by omega)) ⟨_, hZ.2.1.1⟩ rfl rfl rfl rfl ?_
          rintro y111 M9 ⟨hy111, rfl⟩
          subst hy111
          rw [ux_s, q1]
          refine Ev.if_eq (tgt := 127) dX6_cross_114 (by decide) (fun c114 => ?_) (fun c114 => ?_)
          · refine Ev.iconst (v := 1) dX6_cross_127 (by decide) ?_
            refine Ev.goto (tgt := 132) dX6_cross_128 (by decide) ?_
            exact J2 1 _ _ (Or.inl ⟨rfl, Or.inr (Or.inl c114)⟩) hZ
          · refine Ev.ald0 dX6_cross_117 ?_
            refine Ev.ild1 dX6_cross_118 ?_
            refine Ev.iconst (v := 1) dX6_cross_119 (by decide) ?_
            refine Ev.cvI (Yc := mX6_of) (ci := 6) dX6_cross_120 lX6_201 vX6_of rfl (m_of (t) (1) (by first | assumption | (simp only [nI, Int32.ofNat_add, Int32.ofNat_mul]; done) | (simp only [nI, Int32.ofNat_add, Int32.ofNat_mul]; rfl) | rfl) (by first | assumption | (simp only [nI, Int32.ofNat_add, Int32.ofNat_mul]; done) | (simp only [nI, Int32.ofNat_add, Int32.ofNat_mul]; rfl) | rfl) hZ.2.1.1 hZ.2.1.g1 (by omega)) ⟨_, hZ.2.1.1⟩ rfl rfl rfl rfl ?_
            rintro y120 M9 ⟨hy120, rfl⟩
            subst hy120
            rw [ux_s, q1]
            refine Ev.iconst (v := 4) dX6_cross_123 (by decide) ?_
            refine Ev.icmp_ne (tgt := 131) dX6_cross_124 (by decide) (fun c124 => ?_) (fun c124 => ?_)
            · refine Ev.iconst (v := 0) dX6_cross_131 (by decide) ?_
              exact J2 0 _ _ (Or.inr ⟨rfl, fun y => y.elim c105 (fun y => y.elim c114 c124)⟩) hZ
            · refine Ev.iconst (v := 1) dX6_cross_127 (by decide) ?_
              refine Ev.goto (tgt := 132) dX6_cross_128 (by decide) ?_
              exact J2 1 _ _ (Or.inl ⟨rfl, Or.inr (Or.inr c124)⟩) hZ
      refine Ev.ild1 dX6_cross_38 ?_
      refine Ev.ald0 dX6_cross_39 ?_
      refine Ev.mgr (kx := 1) dX6_cross_40 fX6_13 hZ rfl ?_
      refine Ev.sipush (v := 328) dX6_cross_43 (by decide) ?_
      refine Ev.mld (j := 328) mq1 dX6_cross_46 hZ (by first | assumption | (simp only [nI, Int32.ofNat_add, Int32.ofNat_mul]; done) | (simp only [nI, Int32.ofNat_add, Int32.ofNat_mul]; rfl) | rfl) (by omega) ?_
      (try simp only [ux_s, ux_n, ne_eq, Nat.reduceEqDiff, Nat.succ_ne_self, not_false_eq_true])
      rw [e8]
      refine Ev.icmp_ge (tgt := 160) dX6_cross_47 (by decide) (fun c47 => by first | exact absurd c47 (nI_ge ht (by omega)) | exact absurd (nI_ge ht (by omega)) c47) (fun c47 => ?_)
      refine Ev.ald0 dX6_cross_50 ?_
      refine Ev.ild1 dX6_cross_51 ?_
      refine Ev.cvI (Yc := mX6_isGone) (ci := 6) dX6_cross_52 lX6_205 vX6_isGone rfl (m_isGone (t) (by first | assumption | (simp only [nI, Int32.ofNat_add, Int32.ofNat_mul]; done) | (simp only [nI, Int32.ofNat_add, Int32.ofNat_mul]; rfl) | rfl) hZ.2.1.1 hZ.2.1.g1 (by omega)) ⟨_, hZ.2.1.1⟩ rfl rfl rfl rfl ?_
      rintro y52 M9 ⟨hy52, rfl⟩
      rw [ux_s, e7] at hy52
      refine Ev.if_ne (tgt := 154) dX6_cross_55 (by decide) (fun c55 => ?_) (fun c55 => ?_)
      · apply Ev.iinc1 dX6_cross_154 rfl rfl
        · first | exact nI_inc _ | rfl
        refine Ev.goto (tgt := 38) dX6_cross_157 (by decide) ?_
        refine ih _ _ _ _ hZ ?_ hm
        rw [lev, if_neg (by rw [l7, v01_t hy52 c55]; decide)]
        exact hA
      · refine Ev.ald0 dX6_cross_58 ?_
        refine Ev.mgr (kx := 1) dX6_cross_59 fX6_13 hZ rfl ?_
        refine Ev.sipush (v := 339) dX6_cross_62 (by decide) ?_
        refine Ev.ild1 dX6_cross_65 ?_
        refine Ev.iadd dX6_cross_66 ?_
        refine Ev.mld (j := (339 + t)) mq1 dX6_cross_67 hZ (by first | assumption | (simp only [nI, Int32.ofNat_add, Int32.ofNat_mul]; done) | (simp only [nI, Int32.ofNat_add, Int32.ofNat_mul]; rfl) | rfl) (by omega) ?_
        (try simp only [ux_s, ux_n, ne_eq, Nat.reduceEqDiff, Nat.succ_ne_self, not_false_eq_true])
        rw [ef]
        refine Ev.if_le (tgt := 84) dX6_cross_68 (by decide) (fun c68 => ?_) (fun c68 => ?_)
        · refine Ev.iconst (v := 0) dX6_cross_84 (by decide) ?_
          exact J _ _ _ (if_neg (Int32.not_lt.mpr c68)).symm (v01_f hy52 c55) hZ
        · refine Ev.ald0 dX6_cross_71 ?_
          refine Ev.mgr (kx := 1) dX6_cross_72 fX6_13 hZ rfl ?_
          refine Ev.sipush (v := 339) dX6_cross_75 (by decide) ?_
          refine Ev.ild1 dX6_cross_78 ?_
          refine Ev.iadd dX6_cross_79 ?_
          refine Ev.mld (j := (339 + t)) mq1 dX6_cross_80 hZ (by first | assumption | (simp only [nI, Int32.ofNat_add, Int32.ofNat_mul]; done) | (simp only [nI, Int32.ofNat_add, Int32.ofNat_mul]; rfl) | rfl) (by omega) ?_
          (try simp only [ux_s, ux_n, ne_eq, Nat.reduceEqDiff, Nat.succ_ne_self, not_false_eq_true])
          rw [ef]
          refine Ev.goto (tgt := 85) dX6_cross_81 (by decide) ?_
          exact J _ _ _ (if_pos (Int32.not_le.mp c68)).symm (v01_f hy52 c55) hZ
  exact KL m1 M _ _ hZ hA (fun _ _ => rfl)
set_option maxRecDepth 20000 in
theorem m_cx2 {Q : Option Value → Wd → Prop} {a2 a3 : Option Value} (kk : ∀ M', MZ a M0 v L (ux X 4 (fun j => if 4 ≤ j ∧ j < 32 then X 4 (j - 4) else X 4 j)) M' → Ev G mX6_cross 198 [some (.ref (a 0)), some (.int (nI 3)), a2, a3] [] M' 0 0 Q) (hZ : MZ a M0 v L X M) : Ev G mX6_cross 173 [some (.ref (a 0)), some (.int 31), a2, a3] [] M 0 0 Q := by
  have KL : ∀ (e : Nat), e ≤ 28 → ∀ M, MZ a M0 v L (ux X 4 (fun j => if 4 + e ≤ j ∧ j < 32 then X 4 (j - 4) else X 4 j)) M → Ev G mX6_cross 173 [some (.ref (a 0)), some (.int (nI (3 + e))), a2, a3] [] M 0 0 Q := by
    intro e
    induction e with
    | zero =>
      intro he M hZ
      refine Ev.ild1 dX6_cross_173 ?_
      refine Ev.iconst (v := 3) dX6_cross_174 (by decide) ?_
      refine Ev.icmp_le (tgt := 198) dX6_cross_175 (by decide) (fun c175 => ?_) (fun c175 => by first | exact absurd (Int32.le_refl _) c175 | exact absurd c175 (Int32.le_refl _))
      exact kk M hZ
    | succ e ih =>
      intro he M hZ
      have h3 : ¬ nI (3 + e + 1) ≤ 3 := nI_ge (a := 3) (b := 3 + e + 1) (by omega) (by omega)
      have h4 : nI (3 + e + 1) - 4 = nI e := by
        rw [show (4 : Int32) = nI 4 from rfl, nI_subI (by omega)]
        congr 1
        omega
      show Ev G mX6_cross 173 [some (.ref (a 0)), some (.int (nI (3 + e + 1))), a2, a3] [] M 0 0 Q
      refine Ev.ild1 dX6_cross_173 ?_
      refine Ev.iconst (v := 3) dX6_cross_174 (by decide) ?_
      refine Ev.icmp_le (tgt := 198) dX6_cross_175 (by decide) (fun c175 => by first | exact absurd c175 h3 | exact absurd h3 c175) (fun c175 => ?_)
      refine Ev.ald0 dX6_cross_178 ?_
      refine Ev.mgr (kx := 4) dX6_cross_179 fX6_20 hZ rfl ?_
      refine Ev.ild1 dX6_cross_182 ?_
      refine Ev.ald0 dX6_cross_183 ?_
      refine Ev.mgr (kx := 4) dX6_cross_184 fX6_20 hZ rfl ?_
      refine Ev.ild1 dX6_cross_187 ?_
      refine Ev.iconst (v := 4) dX6_cross_188 (by decide) ?_
      refine Ev.isub dX6_cross_189 ?_
      refine Ev.mld (j := e) mq4 dX6_cross_190 hZ h4 (by omega) ?_
      (try simp only [ux_s, ux_n, ne_eq, Nat.reduceEqDiff, Nat.succ_ne_self, not_false_eq_true])
      rw [if_neg (by omega)]
      refine Ev.mst (j := 3 + e + 1) mq4 dX6_cross_191 hZ (by first | assumption | (simp only [nI, Int32.ofNat_add, Int32.ofNat_mul]; done) | (simp only [nI, Int32.ofNat_add, Int32.ofNat_mul]; rfl) | rfl) (by omega) (fun M hZ => ?_)
      (try simp only [ux_u, ux_s, ux_n, ne_eq, Nat.reduceEqDiff, Nat.succ_ne_self, not_false_eq_true] at hZ)
      apply Ev.iinc1 dX6_cross_192 rfl rfl
      · first | exact nI_dec _ | rfl
      refine Ev.goto (tgt := 173) dX6_cross_195 (by decide) ?_
      refine ih (by omega) M (hZ.xc rfl (congrArg (ux X 4) (funext fun j => ?_)))
      by_cases z : j = 3 + e + 1
      · rw [z, pk_us, if_pos (by omega)]
        congr 1
        omega
      · rw [pk_un z]
        by_cases y : 4 + (e + 1) ≤ j ∧ j < 32
        · rw [if_pos y, if_pos (by omega)]
        · rw [if_neg y, if_neg (by omega)]
  refine KL 28 (by omega) M (hZ.xc rfl (ux_id (funext fun j => ?_)).symm)
  rw [if_neg (by omega)]
set_option maxRecDepth 20000 in
theorem m_crossP (hS : Sok S) (hc : S.2.2.2.2.2 < 100000) (hR : MR v X S) (hZ : MZ a M0 v L X M) : CtI G mX6_cross [.ref (a 0)] M 0 0 (fun x M' => x = (sp_cross S).1 ∧ ∃ (v' : Nat → Int32) (X' : Nat → Nat → Int32), MZ a M0 v' L X' M' ∧ MR v' X' (sp_cross S).2) := by
  have e9 : X 1 329 = S.1.1 329 := hR.1.1.2.2.1
  have hB : BW 40 S.1.1 := hS.1.1
  have hn := hB.2.1
  by_cases hph : S.1.1 329 = 2
  · rw [sp_cross, if_pos hph]
    refine Ct.of (ls := [some (.ref (a 0)), none, none, none]) (by decide) (by decide) rfl rfl rfl ?_
    refine Ev.ald0 dX6_cross_0 ?_
    refine Ev.iconst (v := 0) dX6_cross_1 (by decide) ?_
    refine Ev.mput (kx := 0) dX6_cross_2 fX6_1 hZ rfl rfl (fun M hZ => ?_)
    refine Ev.ald0 dX6_cross_5 ?_
    refine Ev.mgr (kx := 1) dX6_cross_6 fX6_13 hZ rfl ?_
    refine Ev.sipush (v := 329) dX6_cross_9 (by decide) ?_
    refine Ev.mld (j := 329) mq1 dX6_cross_12 hZ (by first | assumption | (simp only [nI, Int32.ofNat_add, Int32.ofNat_mul]; done) | (simp only [nI, Int32.ofNat_add, Int32.ofNat_mul]; rfl) | rfl) (by omega) ?_
    (try simp only [ux_s, ux_n, ne_eq, Nat.reduceEqDiff, Nat.succ_ne_self, not_false_eq_true])
    rw [e9]
    refine Ev.iconst (v := 2) dX6_cross_13 (by decide) ?_
    refine Ev.icmp_ne (tgt := 19) dX6_cross_14 (by decide) (fun c14 => by first | exact absurd c14 hph | exact absurd hph c14) (fun c14 => ?_)
    refine Ev.iconst (v := -1) dX6_cross_17 (by decide) ?_
    refine Ev.iret dX6_cross_18 rfl rfl ?_
    exact ⟨_, rfl, rfl, _, _, hZ, hR.q QT.rf.t hR.1⟩
  · rw [sp_cross, if_neg hph]
    refine Ct.of (ls := [some (.ref (a 0)), none, none, none]) (by decide) (by decide) rfl rfl rfl ?_
    refine Ev.ald0 dX6_cross_0 ?_
    refine Ev.iconst (v := 0) dX6_cross_1 (by decide) ?_
    refine Ev.mput (kx := 0) dX6_cross_2 fX6_1 hZ rfl rfl (fun M hZ => ?_)
    refine Ev.ald0 dX6_cross_5 ?_
    refine Ev.mgr (kx := 1) dX6_cross_6 fX6_13 hZ rfl ?_
    refine Ev.sipush (v := 329) dX6_cross_9 (by decide) ?_
    refine Ev.mld (j := 329) mq1 dX6_cross_12 hZ (by first | assumption | (simp only [nI, Int32.ofNat_add, Int32.ofNat_mul]; done) | (simp only [nI, Int32.ofNat_add, Int32.ofNat_mul]; rfl) | rfl) (by omega) ?_
    (try simp only [ux_s, ux_n, ne_eq, Nat.reduceEqDiff, Nat.succ_ne_self, not_false_eq_true])
    rw [e9]
    refine Ev.iconst (v := 2) dX6_cross_13 (by decide) ?_
    refine Ev.icmp_ne (tgt := 19) dX6_cross_14 (by decide) (fun c14 => ?_) (fun c14 => by first | exact absurd hph c14 | exact absurd c14 hph)
    refine Ev.ald0 dX6_cross_19 ?_
    refine Ev.cvV (Yc := mX6_keepsBack) (ci := 6) dX6_cross_20 lX6_302 vX6_keepsBack rfl (m_keep hS hR QT.rf.t hR.1 hZ) ⟨_, hZ.2.1.1⟩ rfl rfl rfl rfl ?_
    rintro M1 ⟨v3, X3, hZ, y1, y2, y3, y4⟩
    refine Ev.ald0 dX6_cross_23 ?_
    refine Ev.cvV (Yc := mX6_lays) (ci := 6) dX6_cross_24 lX6_314 vX6_lays rfl (m_lays (b := S.1.1) (w := S.1.2) hZ (by rw [y1]; exact hR.1) hB) ⟨_, hZ.2.1.1⟩ rfl rfl rfl rfl ?_
    rintro M2 ⟨v4, X4, hZ, l1, l2, l3, l4⟩
    rw [if_neg hph] at l4
    refine Ev.ald0 dX6_cross_27 ?_
    refine Ev.mgr (kx := 1) dX6_cross_28 fX6_13 hZ rfl ?_
    refine Ev.sipush (v := 329) dX6_cross_31 (by decide) ?_
    refine Ev.iconst (v := 2) dX6_cross_34 (by decide) ?_
    refine Ev.mst (j := 329) mq1 dX6_cross_35 hZ (by first | assumption | (simp only [nI, Int32.ofNat_add, Int32.ofNat_mul]; done) | (simp only [nI, Int32.ofNat_add, Int32.ofNat_mul]; rfl) | rfl) (by omega) (fun M hZ => ?_)
    (try simp only [ux_u, ux_s, ux_n, ne_eq, Nat.reduceEqDiff, Nat.succ_ne_self, not_false_eq_true] at hZ)
    refine Ev.iconst (v := 0) dX6_cross_36 (by decide) ?_
    refine Ev.ist1 dX6_cross_37 rfl rfl ?_
    skip
    have hq4 : QT v3 v4 X3 X4 := ⟨l1 3 (by decide), l1 5 (by decide), l1 6 (by decide), l1 8 (by decide), l2 2 (by decide) (by decide), l2 4 (by decide) (by decide), l2 7 (by decide) (by decide)⟩
    have hA := hR.1.1
    have em : ∀ j, j < 333 → X4 1 j = X 1 j := fun j hj => by rw [l3 j hj, y1]
    obtain ⟨x1, x2, x3, x4, x5, x6, x7, x8, x9, x10⟩ := l4
    have u : ∀ j, j ≠ 329 → upd (X4 1) 329 2 j = X4 1 j := fun j hj => pk_un hj
    refine m_cx1 (b := S.1.1) hn hB.2.2.1 ((u _ (by decide)).trans ((em _ (by omega)).trans (hA.2.1.trans hB.1))) (fun o ho => (u _ (by omega)).trans (x7 o ho)) (fun m' M' a1 a2 a3 hZ hA' hm' => ?_) (fun j hj => (u _ (by omega)).trans ((em j (by omega)).trans (hA.1 j hj))) hZ
    have p6 : v4 6 = nI S.2.2.2.2.2 := (l1 6 (by decide)).trans ((y3 6 (by decide)).trans hR.2.2.2.1)
    have p5 : v4 5 = nI (min 8 S.2.2.2.2.2) := (l1 5 (by decide)).trans ((y3 5 (by decide)).trans hR.2.2.2.2.1)
    have p4 : X4 4 = X 4 := (l2 4 (by decide) (by decide)).trans (y2 4 (by decide))
    have mh : ∀ j, 333 ≤ j → m' j = X4 1 j := fun j hj => (hm' j (by omega)).trans (u j (by omega))
    have hZ0 := hZ
    refine Ev.ald0 dX6_cross_160 ?_
    refine Ev.dup dX6_cross_161 rfl ?_
    refine Ev.mgv (kx := 6) dX6_cross_162 fX6_76 hZ rfl ?_
    rw [p6]
    refine Ev.iconst (v := 1) dX6_cross_165 (by decide) ?_
    refine Ev.iadd dX6_cross_166 ?_
    rw [nI_1]
    refine Ev.mput (kx := 6) dX6_cross_167 fX6_76 hZ rfl rfl (fun M hZ => ?_)
    refine Ev.bipush (v := 31) dX6_cross_170 (by decide) ?_
    refine Ev.ist1 dX6_cross_172 rfl rfl ?_
    skip
    refine m_cx2 (fun M5 hZ => ?_) hZ
    have q5 : upd v4 6 (nI (S.2.2.2.2.2 + 1)) 5 = nI (min 8 S.2.2.2.2.2) := p5
    have e3 : m' 333 = (xP S.1.1 (-1)).1 := (mh _ (by omega)).trans x1
    have e4 : m' 334 = xV S.1.1 (-1) := (mh _ (by omega)).trans x2
    have e5 : m' 335 = xR S.1.1 (-1) := (mh _ (by omega)).trans x3
    have e7 : m' 708 = nI (xT S.1.1).length := (mh _ (by omega)).trans x9
    have emin : mn 8 (nI (min 8 S.2.2.2.2.2 + 1)) = nI (min 8 (S.2.2.2.2.2 + 1)) := by
      rw [show (8 : Int32) = nI 8 from rfl, mn_n (by omega) (by omega)]
      congr 1
      omega
    refine Ev.ald0 dX6_cross_198 ?_
    refine Ev.mgr (kx := 4) dX6_cross_199 fX6_20 hZ rfl ?_
    refine Ev.iconst (v := 0) dX6_cross_202 (by decide) ?_
    refine Ev.ald0 dX6_cross_203 ?_
    refine Ev.mgr (kx := 1) dX6_cross_204 fX6_13 hZ rfl ?_
    refine Ev.sipush (v := 333) dX6_cross_207 (by decide) ?_
    refine Ev.mld (j := 333) mq1 dX6_cross_210 hZ (by first | assumption | (simp only [nI, Int32.ofNat_add, Int32.ofNat_mul]; done) | (simp only [nI, Int32.ofNat_add, Int32.ofNat_mul]; rfl) | rfl) (by omega) ?_
    (try simp only [ux_s, ux_n, ne_eq, Nat.reduceEqDiff, Nat.succ_ne_self, not_false_eq_true])
    rw [e3]
    refine Ev.mst (j := 0) mq4 dX6_cross_211 hZ (by first | assumption | (simp only [nI, Int32.ofNat_add, Int32.ofNat_mul]; done) | (simp only [nI, Int32.ofNat_add, Int32.ofNat_mul]; rfl) | rfl) (by omega) (fun M hZ => ?_)
    (try simp only [ux_u, ux_s, ux_n, ne_eq, Nat.reduceEqDiff, Nat.succ_ne_self, not_false_eq_true] at hZ)
    refine Ev.ald0 dX6_cross_212 ?_
    refine Ev.mgr (kx := 4) dX6_cross_213 fX6_20 hZ rfl ?_
    refine Ev.iconst (v := 1) dX6_cross_216 (by decide) ?_
    refine Ev.ald0 dX6_cross_217 ?_
    refine Ev.mgr (kx := 1) dX6_cross_218 fX6_13 hZ rfl ?_
    refine Ev.sipush (v := 334) dX6_cross_221 (by decide) ?_
    refine Ev.mld (j := 334) mq1 dX6_cross_224 hZ (by first | assumption | (simp only [nI, Int32.ofNat_add, Int32.ofNat_mul]; done) | (simp only [nI, Int32.ofNat_add, Int32.ofNat_mul]; rfl) | rfl) (by omega) ?_
    (try simp only [ux_s, ux_n, ne_eq, Nat.reduceEqDiff, Nat.succ_ne_self, not_false_eq_true])
    rw [e4]
    refine Ev.mst (j := 1) mq4 dX6_cross_225 hZ (by first | assumption | (simp only [nI, Int32.ofNat_add, Int32.ofNat_mul]; done) | (simp only [nI, Int32.ofNat_add, Int32.ofNat_mul]; rfl) | rfl) (by omega) (fun M hZ => ?_)
    (try simp only [ux_u, ux_s, ux_n, ne_eq, Nat.reduceEqDiff, Nat.succ_ne_self, not_false_eq_true] at hZ)
    refine Ev.ald0 dX6_cross_226 ?_
    refine Ev.mgr (kx := 4) dX6_cross_227 fX6_20 hZ rfl ?_
    refine Ev.iconst (v := 2) dX6_cross_230 (by decide) ?_
    refine Ev.ald0 dX6_cross_231 ?_
    refine Ev.mgr (kx := 1) dX6_cross_232 fX6_13 hZ rfl ?_
    refine Ev.sipush (v := 335) dX6_cross_235 (by decide) ?_
    refine Ev.mld (j := 335) mq1 dX6_cross_238 hZ (by first | assumption | (simp only [nI, Int32.ofNat_add, Int32.ofNat_mul]; done) | (simp only [nI, Int32.ofNat_add, Int32.ofNat_mul]; rfl) | rfl) (by omega) ?_
    (try simp only [ux_s, ux_n, ne_eq, Nat.reduceEqDiff, Nat.succ_ne_self, not_false_eq_true])
    rw [e5]
    refine Ev.mst (j := 2) mq4 dX6_cross_239 hZ (by first | assumption | (simp only [nI, Int32.ofNat_add, Int32.ofNat_mul]; done) | (simp only [nI, Int32.ofNat_add, Int32.ofNat_mul]; rfl) | rfl) (by omega) (fun M hZ => ?_)
    (try simp only [ux_u, ux_s, ux_n, ne_eq, Nat.reduceEqDiff, Nat.succ_ne_self, not_false_eq_true] at hZ)
    refine Ev.ald0 dX6_cross_240 ?_
    refine Ev.mgr (kx := 4) dX6_cross_241 fX6_20 hZ rfl ?_
    refine Ev.iconst (v := 3) dX6_cross_244 (by decide) ?_
    refine Ev.ald0 dX6_cross_245 ?_
    refine Ev.mgr (kx := 1) dX6_cross_246 fX6_13 hZ rfl ?_
    refine Ev.sipush (v := 708) dX6_cross_249 (by decide) ?_
    refine Ev.mld (j := 708) mq1 dX6_cross_252 hZ (by first | assumption | (simp only [nI, Int32.ofNat_add, Int32.ofNat_mul]; done) | (simp only [nI, Int32.ofNat_add, Int32.ofNat_mul]; rfl) | rfl) (by omega) ?_
    (try simp only [ux_s, ux_n, ne_eq, Nat.reduceEqDiff, Nat.succ_ne_self, not_false_eq_true])
    rw [e7]
    refine Ev.mst (j := 3) mq4 dX6_cross_253 hZ (by first | assumption | (simp only [nI, Int32.ofNat_add, Int32.ofNat_mul]; done) | (simp only [nI, Int32.ofNat_add, Int32.ofNat_mul]; rfl) | rfl) (by omega) (fun M hZ => ?_)
    (try simp only [ux_u, ux_s, ux_n, ne_eq, Nat.reduceEqDiff, Nat.succ_ne_self, not_false_eq_true] at hZ)
    refine Ev.ald0 dX6_cross_254 ?_
    refine Ev.bipush (v := 8) dX6_cross_255 (by decide) ?_
    refine Ev.ald0 dX6_cross_257 ?_
    refine Ev.mgv (kx := 5) dX6_cross_258 fX6_73 hZ rfl ?_
    rw [q5]
    refine Ev.iconst (v := 1) dX6_cross_261 (by decide) ?_
    refine Ev.iadd dX6_cross_262 ?_
    rw [nI_1]
    refine Ev.csI (Yc := mX6_lesser) dX6_cross_263 lX6_211 vX6_lesser rfl m_lesser rfl rfl rfl ?_
    rintro y263 M9 ⟨hy263, rfl⟩
    subst hy263
    rw [emin]
    refine Ev.mput (kx := 5) dX6_cross_266 fX6_73 hZ rfl rfl (fun M hZ => ?_)
    refine Ev.ald0 dX6_cross_269 ?_
    refine Ev.mgr (kx := 1) dX6_cross_270 fX6_13 hZ rfl ?_
    refine Ev.sipush (v := 334) dX6_cross_273 (by decide) ?_
    refine Ev.mld (j := 334) mq1 dX6_cross_276 hZ (by first | assumption | (simp only [nI, Int32.ofNat_add, Int32.ofNat_mul]; done) | (simp only [nI, Int32.ofNat_add, Int32.ofNat_mul]; rfl) | rfl) (by omega) ?_
    (try simp only [ux_s, ux_n, ne_eq, Nat.reduceEqDiff, Nat.succ_ne_self, not_false_eq_true])
    rw [e4]
    refine Ev.iret dX6_cross_277 rfl rfl ?_
    skip
    refine ⟨_, rfl, rfl, _, _, hZ, ?_⟩
    have hb : MR v4 (ux X4 1 m') (psh S (lvb S.1.1, S.1.1)) := by
      refine y4 _ _ _ hq4.m ⟨⟨?_, ?_, ?_, ?_, ?_, ?_⟩, fun _ => ?_⟩
      · rw [ux_s]
        show Ar (bn (lvb S.1.1)) m' (lvb S.1.1)
        have en : bn (lvb S.1.1) = bn S.1.1 := by rw [lvb, bn_up (by decide), bn, lev_hi _ _ (by omega), bn]
        rw [en]
        intro j hj
        rw [lvb, pk_un (by omega)]
        exact hA' j hj
      · rw [ux_s, hm' _ (by omega), u _ (by decide), em _ (by omega), hA.2.1]
        show _ = lvb S.1.1 328
        rw [lvb, pk_un (by decide), lev_hi _ _ (by omega)]
      · rw [ux_s, hm' _ (by omega), pk_us]
        show _ = lvb S.1.1 329
        rw [lvb, pk_us]
      · rw [ux_s, hm' _ (by omega), u _ (by decide), em _ (by omega), hA.2.2.2.1]
        show _ = lvb S.1.1 330
        rw [lvb, pk_un (by decide), lev_hi _ _ (by omega)]
      · rw [ux_s, hm' _ (by omega), u _ (by decide), em _ (by omega), hA.2.2.2.2.1]
        show _ = lvb S.1.1 331
        rw [lvb, pk_un (by decide), lev_hi _ _ (by omega)]
      · rw [ux_s, hm' _ (by omega), u _ (by decide), em _ (by omega), hA.2.2.2.2.2]
        show _ = lvb S.1.1 332
        rw [lvb, pk_un (by decide), lev_hi _ _ (by omega)]
      · rw [ux_s]
        refine ⟨e3, e4, e5, (mh _ (by omega)).trans x4, (mh _ (by omega)).trans x5, (mh _ (by omega)).trans x6, fun o ho => (mh _ (by omega)).trans (x7 o ho), fun j hj => (mh _ (by omega)).trans (x8 j hj), e7, fun k r hk => ?_⟩
        obtain ⟨z1, z2, z3⟩ := x10 k r hk
        exact ⟨(mh _ (by omega)).trans z1, (mh _ (by omega)).trans z2, (mh _ (by omega)).trans z3⟩
    refine hb.pa (fun j hj => ?_) (fun j h1 h2 => ?_) ?_ ?_ (fun j hj => ?_)
    · exact ux_n hj
    · rw [pk_un h1, pk_un h2]
    · rw [pk_un (by decide), pk_us]
    · rw [pk_us]
    · rw [ux_s, pst]
      by_cases j3 : j = 3
      · rw [j3, pk_us]; rfl
      · rw [pk_un j3]
        by_cases j2 : j = 2
        · rw [j2, pk_us]; rfl
        · rw [pk_un j2]
          by_cases j1 : j = 1
          · rw [j1, pk_us]; rfl
          · rw [pk_un j1]
            by_cases j0 : j = 0
            · rw [j0, pk_us]; rfl
            · rw [pk_un j0, if_pos (by omega), if_neg j0, if_neg j1, if_neg j2, if_neg j3, p4]
              exact hR.2.2.2.2.2 (j - 4) (by omega)
end MMD
