/-! the reference's questions: level, past, count -/
theorem OW.g01 {b : Nat → Int32} {n k : Nat} (h : OW b n) (hk : k < n) : ¬ b (8 * k + 7) = 1 ↔ b (8 * k + 7) = 0 := by
  obtain ⟨s, kd, q, pr, sh, le, ow, g, e0, e1, e2, e3, e4, e5, e6, e7, b0, b1, b2, b3, b4, b5, b6, b7, b8, b9, -⟩ := h k hk
  rw [e7]
  have : g = 0 ∨ g = 1 := by omega
  rcases this with rfl | rfl
  · exact ⟨fun _ => nI_0, fun _ => by decide⟩
  · exact ⟨fun z => absurd rfl z, fun z => absurd z (by decide)⟩
noncomputable def lis (b : Nat → Int32) (sd p : Int32) : Nat → Int32
  | 0 => 0
  | k + 1 => if ¬ lis b sd p k = 0 ∨ ((b (8 * k + 7) = 0 ∧ b (8 * k + 0) = sd ∧ b (8 * k + 1) ≠ 0) ∧ b (8 * k + 3) = p) then 1 else 0
def lpk (sd : Int32) (k : Nat) : Int32 := if sd = 0 then nI (1000 - k) else nI k
noncomputable def lvo (b : Nat → Int32) (sd i : Int32) : Nat → Nat → Int32 → Int32
  | 0, _, n => if i = -1 then n else -1
  | e + 1, k, n => if ¬ lis b sd (lpk sd k) (bn b) = 0 ∧ n = i then lpk sd k else lvo b sd i e (k + 1) (n + (if lis b sd (lpk sd k) (bn b) = 0 then 0 else 1))
noncomputable def an_level (S : Sg) (s i k : Int32) : Int32 := if (0 ≤ s ∧ s ≤ 1) ∧ ¬ i < -1 ∧ (0 ≤ k ∧ k ≤ 3) then (if i = -1 ∨ lvo S.1.1 s i 999 1 0 < 0 ∨ k = 0 then lvo S.1.1 s i 999 1 0 else lsm S.1.1 s (lvo S.1.1 s i 999 1 0) k (bn S.1.1)) else -1
noncomputable def bso (b : Nat → Int32) (sd : Int32) : Int32 := if 0 < lvo b sd 0 999 1 0 then lvo b sd 0 999 1 0 else if sd = 0 then 0 else 1000
noncomputable def an_count (S : Sg) (k : Int32) : Int32 := if k = 0 then S.1.1 328 else if k = 1 then S.1.1 329 else if k = 2 then S.1.1 330 else if k = 3 then S.1.1 331 else if k = 4 then S.1.1 332 else if k = 5 then cnS S.1.1 (bn S.1.1) else if k = 6 then bso S.1.1 0 else if k = 7 then bso S.1.1 1 else if k = 8 then nI S.2.1.length else if k = 9 then nI S.2.2.2.1 else if k = 10 then nI S.2.2.2.2.2 else -1
def pok (S : Sg) (i k : Int32) : Prop := (0 ≤ i ∧ i ≤ nI (min 8 S.2.2.2.2.2) - 1) ∧ (0 ≤ k ∧ k ≤ 3)
def an_past (S : Sg) (i k : Int32) : Int32 := S.2.2.2.2.1 (4 * i.toNatClampNeg + k.toNatClampNeg)
section MMK
variable {G : GP} {a : Nat → Nat} {M0 M : Wd} {v : Nat → Int32} {L : Int64} {X : Nat → Nat → Int32} {S : Sg} {b : Nat → Int32}
set_option maxRecDepth 20000 in
theorem m_stands {o sd : Int32} (k : Nat) (ho : o = nI k) (hk : k < bn b) (hA : Ag (X 1) b) (hB : BW 40 b) (hZ : MZ a M0 v L X M) : CtI G mX6_stands [.ref (a 0), .int o, .int sd] M 0 0 (fun x M' => x = (if b (8 * k + 7) = 0 ∧ b (8 * k + 0) = sd ∧ b (8 * k + 1) ≠ 0 then 1 else 0) ∧ M' = M) := by
  subst ho
  have hn := hB.2.1
  have e7 : X 1 (8 * k + 7) = b (8 * k + 7) := hA.1.at hk (by omega)
  have e0 : X 1 (8 * k + 0) = b (8 * k + 0) := hA.1.at hk (by omega)
  have e1 : X 1 (8 * k + 1) = b (8 * k + 1) := hA.1.at hk (by omega)
  refine Ct.of (ls := [some (.ref (a 0)), some (.int (nI k)), some (.int sd)]) (by decide) (by decide) rfl rfl rfl ?_
  refine Ev.ald0 dX6_stands_0 ?_
  refine Ev.ild1 dX6_stands_1 ?_
  refine Ev.cvI (Yc := mX6_isGone) (ci := 6) dX6_stands_2 lX6_205 vX6_isGone rfl (m_isGone (k) (by first | assumption | (simp only [nI, Int32.ofNat_add, Int32.ofNat_mul]; done) | (simp only [nI, Int32.ofNat_add, Int32.ofNat_mul]; rfl) | rfl) hZ.2.1.1 hZ.2.1.g1 (by omega)) ⟨_, hZ.2.1.1⟩ rfl rfl rfl rfl ?_
  rintro y2 M9 ⟨hy2, rfl⟩
  rw [e7] at hy2
  refine Ev.if_ne (tgt := 31) dX6_stands_5 (by decide) (fun c5 => ?_) (fun c5 => ?_)
  · refine Ev.iconst (v := 0) dX6_stands_31 (by decide) ?_
    refine Ev.iret dX6_stands_32 rfl rfl ?_
    exact ⟨_, rfl, (if_neg (fun z => absurd (v01_t hy2 c5) ((hB.2.2.1.g01 hk).mpr z.1))).symm, rfl⟩
  · refine Ev.ald0 dX6_stands_8 ?_
    refine Ev.ild1 dX6_stands_9 ?_
    refine Ev.iconst (v := 0) dX6_stands_10 (by decide) ?_
    refine Ev.cvI (Yc := mX6_of) (ci := 6) dX6_stands_11 lX6_201 vX6_of rfl (m_of (k) (0) (by first | assumption | (simp only [nI, Int32.ofNat_add, Int32.ofNat_mul]; done) | (simp only [nI, Int32.ofNat_add, Int32.ofNat_mul]; rfl) | rfl) (by first | assumption | (simp only [nI, Int32.ofNat_add, Int32.ofNat_mul]; done) | (simp only [nI, Int32.ofNat_add, Int32.ofNat_mul]; rfl) | rfl) hZ.2.1.1 hZ.2.1.g1 (by omega)) ⟨_, hZ.2.1.1⟩ rfl rfl rfl rfl ?_
    rintro y11 M9 ⟨hy11, rfl⟩
    subst hy11
    rw [e0]
    refine Ev.ild2 dX6_stands_14 ?_
    refine Ev.icmp_ne (tgt := 31) dX6_stands_15 (by decide) (fun c15 => ?_) (fun c15 => ?_)
    · refine Ev.iconst (v := 0) dX6_stands_31 (by decide) ?_
      refine Ev.iret dX6_stands_32 rfl rfl ?_
      exact ⟨_, rfl, (if_neg (fun z => c15 z.2.1)).symm, rfl⟩
    · refine Ev.ald0 dX6_stands_18 ?_
      refine Ev.ild1 dX6_stands_19 ?_
      refine Ev.iconst (v := 1) dX6_stands_20 (by decide) ?_
      refine Ev.cvI (Yc := mX6_of) (ci := 6) dX6_stands_21 lX6_201 vX6_of rfl (m_of (k) (1) (by first | assumption | (simp only [nI, Int32.ofNat_add, Int32.ofNat_mul]; done) | (simp only [nI, Int32.ofNat_add, Int32.ofNat_mul]; rfl) | rfl) (by first | assumption | (simp only [nI, Int32.ofNat_add, Int32.ofNat_mul]; done) | (simp only [nI, Int32.ofNat_add, Int32.ofNat_mul]; rfl) | rfl) hZ.2.1.1 hZ.2.1.g1 (by omega)) ⟨_, hZ.2.1.1⟩ rfl rfl rfl rfl ?_
      rintro y21 M9 ⟨hy21, rfl⟩
      subst hy21
      rw [e1]
      refine Ev.if_eq (tgt := 31) dX6_stands_24 (by decide) (fun c24 => ?_) (fun c24 => ?_)
      · refine Ev.iconst (v := 0) dX6_stands_31 (by decide) ?_
        refine Ev.iret dX6_stands_32 rfl rfl ?_
        exact ⟨_, rfl, (if_neg (fun z => z.2.2 c24)).symm, rfl⟩
      · refine Ev.iconst (v := 1) dX6_stands_27 (by decide) ?_
        refine Ev.goto (tgt := 32) dX6_stands_28 (by decide) ?_
        refine Ev.iret dX6_stands_32 rfl rfl ?_
        exact ⟨_, rfl, (if_pos ⟨(hB.2.2.1.g01 hk).mp (v01_f hy2 c5), c15, c24⟩).symm, rfl⟩
set_option maxRecDepth 20000 in
theorem m_lvi {Q : Option Value → Wd → Prop} {sd i n p : Int32} {k : Nat} (hA : Ag (X 1) b) (hB : BW 40 b) (hZ : MZ a M0 v L X M) (kk : Ev G mX6_levelOf 89 [some (.ref (a 0)), some (.int sd), some (.int i), some (.int n), some (.int (nI k)), some (.int p), some (.int (lis b sd p (bn b))), some (.int (nI (bn b)))] [] M 0 0 Q) : Ev G mX6_levelOf 36 [some (.ref (a 0)), some (.int sd), some (.int i), some (.int n), some (.int (nI k)), some (.int p), some (.int 0), some (.int 0)] [] M 0 0 Q := by
  have hn := hB.2.1
  have e8 : X 1 328 = nI (bn b) := hA.2.1.trans hB.1
  have KL : Ev G mX6_levelOf 36 [some (.ref (a 0)), some (.int sd), some (.int i), some (.int n), some (.int (nI k)), some (.int p), some (.int (lis b sd p 0)), some (.int (nI 0))] [] M 0 0 Q := by
    refine ev_ind (bn b) (fun t => Ev G mX6_levelOf 36 [some (.ref (a 0)), some (.int sd), some (.int i), some (.int n), some (.int (nI k)), some (.int p), some (.int (lis b sd p t)), some (.int (nI t))] [] M 0 0 Q) ?_ ?_
    · refine Ev.ild7 dX6_levelOf_36 ?_
      refine Ev.ald0 dX6_levelOf_38 ?_
      refine Ev.mgr (kx := 1) dX6_levelOf_39 fX6_13 hZ rfl ?_
      refine Ev.sipush (v := 328) dX6_levelOf_42 (by decide) ?_
      refine Ev.mld (j := 328) mq1 dX6_levelOf_45 hZ (by first | assumption | (simp only [nI, Int32.ofNat_add, Int32.ofNat_mul]; done) | (simp only [nI, Int32.ofNat_add, Int32.ofNat_mul]; rfl) | rfl) (by omega) ?_
      (try simp only [ux_s, ux_n, ne_eq, Nat.reduceEqDiff, Nat.succ_ne_self, not_false_eq_true])
      rw [e8]
      refine Ev.icmp_ge (tgt := 89) dX6_levelOf_46 (by decide) (fun c46 => ?_) (fun c46 => by first | exact absurd (Int32.le_refl _) c46 | exact absurd c46 (Int32.le_refl _))
      exact kk
    · intro t ht ih
      have e3 : X 1 (8 * t + 3) = b (8 * t + 3) := hA.1.at ht (by omega)
      refine Ev.ild7 dX6_levelOf_36 ?_
      refine Ev.ald0 dX6_levelOf_38 ?_
      refine Ev.mgr (kx := 1) dX6_levelOf_39 fX6_13 hZ rfl ?_
      refine Ev.sipush (v := 328) dX6_levelOf_42 (by decide) ?_
      refine Ev.mld (j := 328) mq1 dX6_levelOf_45 hZ (by first | assumption | (simp only [nI, Int32.ofNat_add, Int32.ofNat_mul]; done) | (simp only [nI, Int32.ofNat_add, Int32.ofNat_mul]; rfl) | rfl) (by omega) ?_
      (try simp only [ux_s, ux_n, ne_eq, Nat.reduceEqDiff, Nat.succ_ne_self, not_false_eq_true])
      rw [e8]
      refine Ev.icmp_ge (tgt := 89) dX6_levelOf_46 (by decide) (fun c46 => by first | exact absurd c46 (nI_ge ht (by omega)) | exact absurd (nI_ge ht (by omega)) c46) (fun c46 => ?_)
      refine Ev.ild6 dX6_levelOf_49 ?_
      refine Ev.if_ne (tgt := 76) dX6_levelOf_51 (by decide) (fun c51 => ?_) (fun c51 => ?_)
      · refine Ev.iconst (v := 1) dX6_levelOf_76 (by decide) ?_
        refine Ev.goto (tgt := 81) dX6_levelOf_77 (by decide) ?_
        refine Ev.ist6 dX6_levelOf_81 rfl rfl ?_
        apply Ev.iinc7 dX6_levelOf_83 rfl rfl
        · first | exact nI_inc _ | rfl
        refine Ev.goto (tgt := 36) dX6_levelOf_86 (by decide) ?_
        rw [lis, if_pos (Or.inl c51)] at ih
        exact ih
      · refine Ev.ald0 dX6_levelOf_54 ?_
        refine Ev.ild7 dX6_levelOf_55 ?_
        refine Ev.ild1 dX6_levelOf_57 ?_
        refine Ev.cvI (Yc := mX6_stands) (ci := 6) dX6_levelOf_58 lX6_331 vX6_stands rfl (m_stands t rfl ht hA hB hZ) ⟨_, hZ.2.1.1⟩ rfl rfl rfl rfl ?_
        rintro y58 M9 ⟨hy58, rfl⟩
        refine Ev.if_eq (tgt := 80) dX6_levelOf_61 (by decide) (fun c61 => ?_) (fun c61 => ?_)
        · refine Ev.iconst (v := 0) dX6_levelOf_80 (by decide) ?_
          refine Ev.ist6 dX6_levelOf_81 rfl rfl ?_
          apply Ev.iinc7 dX6_levelOf_83 rfl rfl
          · first | exact nI_inc _ | rfl
          refine Ev.goto (tgt := 36) dX6_levelOf_86 (by decide) ?_
          rw [lis, if_neg (fun z => z.elim (fun y => y c51) (fun y => v01_f hy58 c61 y.1))] at ih
          exact ih
        · refine Ev.ald0 dX6_levelOf_64 ?_
          refine Ev.ild7 dX6_levelOf_65 ?_
          refine Ev.iconst (v := 3) dX6_levelOf_67 (by decide) ?_
          refine Ev.cvI (Yc := mX6_of) (ci := 6) dX6_levelOf_68 lX6_201 vX6_of rfl (m_of (t) (3) (by first | assumption | (simp only [nI, Int32.ofNat_add, Int32.ofNat_mul]; done) | (simp only [nI, Int32.ofNat_add, Int32.ofNat_mul]; rfl) | rfl) (by first | assumption | (simp only [nI, Int32.ofNat_add, Int32.ofNat_mul]; done) | (simp only [nI, Int32.ofNat_add, Int32.ofNat_mul]; rfl) | rfl) hZ.2.1.1 hZ.2.1.g1 (by omega)) ⟨_, hZ.2.1.1⟩ rfl rfl rfl rfl ?_
          rintro y68 M9 ⟨hy68, rfl⟩
          subst hy68
          rw [e3]
          refine Ev.ild5 dX6_levelOf_71 ?_
          refine Ev.icmp_ne (tgt := 80) dX6_levelOf_73 (by decide) (fun c73 => ?_) (fun c73 => ?_)
          · refine Ev.iconst (v := 0) dX6_levelOf_80 (by decide) ?_
            refine Ev.ist6 dX6_levelOf_81 rfl rfl ?_
            apply Ev.iinc7 dX6_levelOf_83 rfl rfl
            · first | exact nI_inc _ | rfl
            refine Ev.goto (tgt := 36) dX6_levelOf_86 (by decide) ?_
            rw [lis, if_neg (fun z => z.elim (fun y => y c51) (fun y => c73 y.2))] at ih
            exact ih
          · refine Ev.iconst (v := 1) dX6_levelOf_76 (by decide) ?_
            refine Ev.goto (tgt := 81) dX6_levelOf_77 (by decide) ?_
            refine Ev.ist6 dX6_levelOf_81 rfl rfl ?_
            apply Ev.iinc7 dX6_levelOf_83 rfl rfl
            · first | exact nI_inc _ | rfl
            refine Ev.goto (tgt := 36) dX6_levelOf_86 (by decide) ?_
            rw [lis, if_pos (Or.inr ⟨v01_t hy58 c61, c73⟩)] at ih
            exact ih
  exact KL
set_option maxRecDepth 20000 in
theorem m_levelOf {sd i : Int32} (hA : Ag (X 1) b) (hB : BW 40 b) (hZ : MZ a M0 v L X M) : CtI G mX6_levelOf [.ref (a 0), .int sd, .int i] M 0 0 (fun x M' => x = lvo b sd i 999 1 0 ∧ M' = M) := by
  have KL : ∀ (e k : Nat) (n : Int32) (a5 a6 a7 : Option Value), k + e = 1000 → 1 ≤ k → Ev G mX6_levelOf 5 [some (.ref (a 0)), some (.int sd), some (.int i), some (.int n), some (.int (nI k)), a5, a6, a7] [] M 0 0 (fun u M' => ∃ x, u = some (.int x) ∧ x = lvo b sd i e k n ∧ M' = M) := by
    intro e
    induction e with
    | zero =>
      intro k n a5 a6 a7 hk hk1
      have : k = 1000 := by omega
      subst this
      refine Ev.ild4 dX6_levelOf_5 ?_
      refine Ev.sipush (v := 999) dX6_levelOf_7 (by decide) ?_
      refine Ev.icmp_gt (tgt := 121) dX6_levelOf_10 (by decide) (fun c10 => ?_) (fun c10 => by first | exact absurd (by decide) c10 | exact absurd c10 (by decide))
      refine Ev.ild2 dX6_levelOf_121 ?_
      refine Ev.iconst (v := -1) dX6_levelOf_122 (by decide) ?_
      refine Ev.icmp_ne (tgt := 130) dX6_levelOf_123 (by decide) (fun c123 => ?_) (fun c123 => ?_)
      · refine Ev.iconst (v := -1) dX6_levelOf_130 (by decide) ?_
        refine Ev.iret dX6_levelOf_131 rfl rfl ?_
        exact ⟨_, rfl, by rw [lvo, if_neg c123], rfl⟩
      · refine Ev.ild3 dX6_levelOf_126 ?_
        refine Ev.goto (tgt := 131) dX6_levelOf_127 (by decide) ?_
        refine Ev.iret dX6_levelOf_131 rfl rfl ?_
        exact ⟨_, rfl, by rw [lvo, if_pos c123], rfl⟩
    | succ e ih =>
      intro k n a5 a6 a7 hk hk1
      have h9 : ¬ 999 < nI k := nI_nlt (a := 999) (by omega) (by omega)
      have hsub : (1000 : Int32) - nI k = nI (1000 - k) := nI_subI (a := 1000) (by omega)
      have J : ∀ p, p = lpk sd k → Ev G mX6_levelOf 28 [some (.ref (a 0)), some (.int sd), some (.int i), some (.int n), some (.int (nI k)), a5, a6, a7] [.int p] M 0 0 (fun u M' => ∃ x, u = some (.int x) ∧ x = lvo b sd i (e + 1) k n ∧ M' = M) := by
        intro p hp
        have st : ∀ (x : Int32), ¬ (¬ lis b sd (lpk sd k) (bn b) = 0 ∧ n = i) → x = (if lis b sd (lpk sd k) (bn b) = 0 then 0 else 1) → lvo b sd i e (k + 1) (n + x) = lvo b sd i (e + 1) k n := fun x h1 h2 => by rw [lvo, if_neg h1, h2]
        refine Ev.ist5 dX6_levelOf_28 rfl rfl ?_
        refine Ev.iconst (v := 0) dX6_levelOf_30 (by decide) ?_
        refine Ev.ist6 dX6_levelOf_31 rfl rfl ?_
        refine Ev.iconst (v := 0) dX6_levelOf_33 (by decide) ?_
        refine Ev.ist7 dX6_levelOf_34 rfl rfl ?_
        refine m_lvi hA hB hZ ?_
        rw [hp]
        refine Ev.ild6 dX6_levelOf_89 ?_
        refine Ev.if_eq (tgt := 102) dX6_levelOf_91 (by decide) (fun c91 => ?_) (fun c91 => ?_)
        · refine Ev.ild3 dX6_levelOf_102 ?_
          refine Ev.ild6 dX6_levelOf_103 ?_
          refine Ev.if_eq (tgt := 112) dX6_levelOf_105 (by decide) (fun c105 => ?_) (fun c105 => ?_)
          · refine Ev.iconst (v := 0) dX6_levelOf_112 (by decide) ?_
            refine Ev.iadd dX6_levelOf_113 ?_
            refine Ev.ist3 dX6_levelOf_114 rfl rfl ?_
            apply Ev.iinc4 dX6_levelOf_115 rfl rfl
            · first | exact nI_inc _ | rfl
            refine Ev.goto (tgt := 5) dX6_levelOf_118 (by decide) ?_
            have := ih (k + 1) (n + 0) (some (.int (lpk sd k))) (some (.int (lis b sd (lpk sd k) (bn b)))) (some (.int (nI (bn b)))) (by omega) (by omega)
            rw [st 0 (fun z => z.1 c91) (if_pos c91).symm] at this
            exact this
          · refine Ev.iconst (v := 1) dX6_levelOf_108 (by decide) ?_
            refine Ev.goto (tgt := 113) dX6_levelOf_109 (by decide) ?_
            refine Ev.iadd dX6_levelOf_113 ?_
            refine Ev.ist3 dX6_levelOf_114 rfl rfl ?_
            apply Ev.iinc4 dX6_levelOf_115 rfl rfl
            · first | exact nI_inc _ | rfl
            refine Ev.goto (tgt := 5) dX6_levelOf_118 (by decide) ?_
            exact absurd c91 c105
        · refine Ev.ild3 dX6_levelOf_94 ?_
          refine Ev.ild2 dX6_levelOf_95 ?_
          refine Ev.icmp_ne (tgt := 102) dX6_levelOf_96 (by decide) (fun c96 => ?_) (fun c96 => ?_)
          · refine Ev.ild3 dX6_levelOf_102 ?_
            refine Ev.ild6 dX6_levelOf_103 ?_
            refine Ev.if_eq (tgt := 112) dX6_levelOf_105 (by decide) (fun c105 => ?_) (fun c105 => ?_)
            · refine Ev.iconst (v := 0) dX6_levelOf_112 (by decide) ?_
              refine Ev.iadd dX6_levelOf_113 ?_
              refine Ev.ist3 dX6_levelOf_114 rfl rfl ?_
              apply Ev.iinc4 dX6_levelOf_115 rfl rfl
              · first | exact nI_inc _ | rfl
              refine Ev.goto (tgt := 5) dX6_levelOf_118 (by decide) ?_
              exact absurd c105 c91
            · refine Ev.iconst (v := 1) dX6_levelOf_108 (by decide) ?_
              refine Ev.goto (tgt := 113) dX6_levelOf_109 (by decide) ?_
              refine Ev.iadd dX6_levelOf_113 ?_
              refine Ev.ist3 dX6_levelOf_114 rfl rfl ?_
              apply Ev.iinc4 dX6_levelOf_115 rfl rfl
              · first | exact nI_inc _ | rfl
              refine Ev.goto (tgt := 5) dX6_levelOf_118 (by decide) ?_
              have := ih (k + 1) (n + 1) (some (.int (lpk sd k))) (some (.int (lis b sd (lpk sd k) (bn b)))) (some (.int (nI (bn b)))) (by omega) (by omega)
              rw [st 1 (fun z => c96 z.2) (if_neg c91).symm] at this
              exact this
          · refine Ev.ild5 dX6_levelOf_99 ?_
            refine Ev.iret dX6_levelOf_101 rfl rfl ?_
            exact ⟨_, rfl, by rw [lvo, if_pos ⟨c91, c96⟩], rfl⟩
      refine Ev.ild4 dX6_levelOf_5 ?_
      refine Ev.sipush (v := 999) dX6_levelOf_7 (by decide) ?_
      refine Ev.icmp_gt (tgt := 121) dX6_levelOf_10 (by decide) (fun c10 => by first | exact absurd c10 h9 | exact absurd h9 c10) (fun c10 => ?_)
      refine Ev.ild1 dX6_levelOf_13 ?_
      refine Ev.if_ne (tgt := 26) dX6_levelOf_14 (by decide) (fun c14 => ?_) (fun c14 => ?_)
      · refine Ev.ild4 dX6_levelOf_26 ?_
        exact J _ (by rw [lpk, if_neg c14])
      · refine Ev.sipush (v := 1000) dX6_levelOf_17 (by decide) ?_
        refine Ev.ild4 dX6_levelOf_20 ?_
        refine Ev.isub dX6_levelOf_22 ?_
        rw [hsub]
        refine Ev.goto (tgt := 28) dX6_levelOf_23 (by decide) ?_
        exact J _ (by rw [lpk, if_pos c14])
  refine Ct.of (ls := [some (.ref (a 0)), some (.int sd), some (.int i), none, none, none, none, none]) (by decide) (by decide) rfl rfl rfl ?_
  refine Ev.iconst (v := 0) dX6_levelOf_0 (by decide) ?_
  refine Ev.ist3 dX6_levelOf_1 rfl rfl ?_
  refine Ev.iconst (v := 1) dX6_levelOf_2 (by decide) ?_
  refine Ev.ist4 dX6_levelOf_3 rfl rfl ?_
  exact KL 999 1 0 _ _ _ rfl (by omega)
set_option maxRecDepth 20000 in
theorem m_lsm {Q : Option Value → Wd → Prop} {sd i k p : Int32} (hA : Ag (X 1) b) (hB : BW 40 b) (hZ : MZ a M0 v L X M) (kk : Q (some (.int (lsm b sd p k (bn b)))) M) : Ev G mX6_level 65 [some (.ref (a 0)), some (.int sd), some (.int i), some (.int k), some (.int p), some (.int 0), some (.int 0), none] [] M 0 0 Q := by
  have hn := hB.2.1
  have e8 : X 1 328 = nI (bn b) := hA.2.1.trans hB.1
  have KL : ∀ a7, Ev G mX6_level 65 [some (.ref (a 0)), some (.int sd), some (.int i), some (.int k), some (.int p), some (.int (lsm b sd p k 0)), some (.int (nI 0)), a7] [] M 0 0 Q := by
    refine ev_ind (bn b) (fun t => ∀ a7, Ev G mX6_level 65 [some (.ref (a 0)), some (.int sd), some (.int i), some (.int k), some (.int p), some (.int (lsm b sd p k t)), some (.int (nI t)), a7] [] M 0 0 Q) ?_ ?_
    · intro a7
      refine Ev.ild6 dX6_level_65 ?_
      refine Ev.ald0 dX6_level_67 ?_
      refine Ev.mgr (kx := 1) dX6_level_68 fX6_13 hZ rfl ?_
      refine Ev.sipush (v := 328) dX6_level_71 (by decide) ?_
      refine Ev.mld (j := 328) mq1 dX6_level_74 hZ (by first | assumption | (simp only [nI, Int32.ofNat_add, Int32.ofNat_mul]; done) | (simp only [nI, Int32.ofNat_add, Int32.ofNat_mul]; rfl) | rfl) (by omega) ?_
      (try simp only [ux_s, ux_n, ne_eq, Nat.reduceEqDiff, Nat.succ_ne_self, not_false_eq_true])
      rw [e8]
      refine Ev.icmp_ge (tgt := 182) dX6_level_75 (by decide) (fun c75 => ?_) (fun c75 => by first | exact absurd (Int32.le_refl _) c75 | exact absurd c75 (Int32.le_refl _))
      refine Ev.ild5 dX6_level_182 ?_
      refine Ev.iret dX6_level_184 rfl rfl ?_
      exact kk
    · intro t ht ih a7
      have e1 : X 1 (8 * t + 1) = b (8 * t + 1) := hA.1.at ht (by omega)
      have e2 : X 1 (8 * t + 2) = b (8 * t + 2) := hA.1.at ht (by omega)
      have e3 : X 1 (8 * t + 3) = b (8 * t + 3) := hA.1.at ht (by omega)
      have e4 : X 1 (8 * t + 4) = b (8 * t + 4) := hA.1.at ht (by omega)
      have J : ∀ y, y = shw b t → ((b (8 * t + 7) = 0 ∧ b (8 * t + 0) = sd ∧ b (8 * t + 1) ≠ 0) ∧ b (8 * t + 3) = p) → Ev G mX6_level 143 [some (.ref (a 0)), some (.int sd), some (.int i), some (.int k), some (.int p), some (.int (lsm b sd p k t)), some (.int (nI t)), a7] [.int y] M 0 0 Q := by
        intro y hy hc
        rw [lsm, if_pos hc] at ih
        refine Ev.ist7 dX6_level_143 rfl rfl ?_
        refine Ev.ild5 dX6_level_145 ?_
        refine Ev.ild3 dX6_level_147 ?_
        refine Ev.iconst (v := 1) dX6_level_148 (by decide) ?_
        refine Ev.icmp_ne (tgt := 157) dX6_level_149 (by decide) (fun c149 => ?_) (fun c149 => ?_)
        · refine Ev.ild3 dX6_level_157 ?_
          refine Ev.iconst (v := 2) dX6_level_158 (by decide) ?_
          refine Ev.icmp_ne (tgt := 172) dX6_level_159 (by decide) (fun c159 => ?_) (fun c159 => ?_)
          · refine Ev.iconst (v := 1) dX6_level_172 (by decide) ?_
            refine Ev.iadd dX6_level_173 ?_
            refine Ev.ist5 dX6_level_174 rfl rfl ?_
            apply Ev.iinc6 dX6_level_176 rfl rfl
            · first | exact nI_inc _ | rfl
            refine Ev.goto (tgt := 65) dX6_level_179 (by decide) ?_
            rw [if_neg c149, if_neg c159] at ih
            exact ih _
          · refine Ev.ald0 dX6_level_162 ?_
            refine Ev.ild6 dX6_level_163 ?_
            refine Ev.iconst (v := 2) dX6_level_165 (by decide) ?_
            refine Ev.cvI (Yc := mX6_of) (ci := 6) dX6_level_166 lX6_201 vX6_of rfl (m_of (t) (2) (by first | assumption | (simp only [nI, Int32.ofNat_add, Int32.ofNat_mul]; done) | (simp only [nI, Int32.ofNat_add, Int32.ofNat_mul]; rfl) | rfl) (by first | assumption | (simp only [nI, Int32.ofNat_add, Int32.ofNat_mul]; done) | (simp only [nI, Int32.ofNat_add, Int32.ofNat_mul]; rfl) | rfl) hZ.2.1.1 hZ.2.1.g1 (by omega)) ⟨_, hZ.2.1.1⟩ rfl rfl rfl rfl ?_
            rintro y166 M9 ⟨hy166, rfl⟩
            subst hy166
            rw [e2]
            refine Ev.goto (tgt := 173) dX6_level_169 (by decide) ?_
            refine Ev.iadd dX6_level_173 ?_
            refine Ev.ist5 dX6_level_174 rfl rfl ?_
            apply Ev.iinc6 dX6_level_176 rfl rfl
            · first | exact nI_inc _ | rfl
            refine Ev.goto (tgt := 65) dX6_level_179 (by decide) ?_
            rw [if_neg c149, if_pos c159] at ih
            exact ih _
        · refine Ev.ild7 dX6_level_152 ?_
          refine Ev.goto (tgt := 173) dX6_level_154 (by decide) ?_
          refine Ev.iadd dX6_level_173 ?_
          refine Ev.ist5 dX6_level_174 rfl rfl ?_
          apply Ev.iinc6 dX6_level_176 rfl rfl
          · first | exact nI_inc _ | rfl
          refine Ev.goto (tgt := 65) dX6_level_179 (by decide) ?_
          rw [if_pos c149, ← hy] at ih
          exact ih _
      refine Ev.ild6 dX6_level_65 ?_
      refine Ev.ald0 dX6_level_67 ?_
      refine Ev.mgr (kx := 1) dX6_level_68 fX6_13 hZ rfl ?_
      refine Ev.sipush (v := 328) dX6_level_71 (by decide) ?_
      refine Ev.mld (j := 328) mq1 dX6_level_74 hZ (by first | assumption | (simp only [nI, Int32.ofNat_add, Int32.ofNat_mul]; done) | (simp only [nI, Int32.ofNat_add, Int32.ofNat_mul]; rfl) | rfl) (by omega) ?_
      (try simp only [ux_s, ux_n, ne_eq, Nat.reduceEqDiff, Nat.succ_ne_self, not_false_eq_true])
      rw [e8]
      refine Ev.icmp_ge (tgt := 182) dX6_level_75 (by decide) (fun c75 => by first | exact absurd c75 (nI_ge ht (by omega)) | exact absurd (nI_ge ht (by omega)) c75) (fun c75 => ?_)
      refine Ev.ald0 dX6_level_78 ?_
      refine Ev.ild6 dX6_level_79 ?_
      refine Ev.ild1 dX6_level_81 ?_
      refine Ev.cvI (Yc := mX6_stands) (ci := 6) dX6_level_82 lX6_331 vX6_stands rfl (m_stands t rfl ht hA hB hZ) ⟨_, hZ.2.1.1⟩ rfl rfl rfl rfl ?_
      rintro y82 M9 ⟨hy82, rfl⟩
      refine Ev.if_eq (tgt := 176) dX6_level_85 (by decide) (fun c85 => ?_) (fun c85 => ?_)
      · apply Ev.iinc6 dX6_level_176 rfl rfl
        · first | exact nI_inc _ | rfl
        refine Ev.goto (tgt := 65) dX6_level_179 (by decide) ?_
        rw [lsm, if_neg (fun z => v01_f hy82 c85 z.1)] at ih
        exact ih _
      · refine Ev.ald0 dX6_level_88 ?_
        refine Ev.ild6 dX6_level_89 ?_
        refine Ev.iconst (v := 3) dX6_level_91 (by decide) ?_
        refine Ev.cvI (Yc := mX6_of) (ci := 6) dX6_level_92 lX6_201 vX6_of rfl (m_of (t) (3) (by first | assumption | (simp only [nI, Int32.ofNat_add, Int32.ofNat_mul]; done) | (simp only [nI, Int32.ofNat_add, Int32.ofNat_mul]; rfl) | rfl) (by first | assumption | (simp only [nI, Int32.ofNat_add, Int32.ofNat_mul]; done) | (simp only [nI, Int32.ofNat_add, Int32.ofNat_mul]; rfl) | rfl) hZ.2.1.1 hZ.2.1.g1 (by omega)) ⟨_, hZ.2.1.1⟩ rfl rfl rfl rfl ?_
        rintro y92 M9 ⟨hy92, rfl⟩
        subst hy92
        rw [e3]
        refine Ev.ild4 dX6_level_95 ?_
        refine Ev.icmp_ne (tgt := 176) dX6_level_97 (by decide) (fun c97 => ?_) (fun c97 => ?_)
        · apply Ev.iinc6 dX6_level_176 rfl rfl
          · first | exact nI_inc _ | rfl
          refine Ev.goto (tgt := 65) dX6_level_179 (by decide) ?_
          rw [lsm, if_neg (fun z => c97 z.2)] at ih
          exact ih _
        · refine Ev.ald0 dX6_level_100 ?_
          refine Ev.ild6 dX6_level_101 ?_
          refine Ev.iconst (v := 1) dX6_level_103 (by decide) ?_
          refine Ev.cvI (Yc := mX6_of) (ci := 6) dX6_level_104 lX6_201 vX6_of rfl (m_of (t) (1) (by first | assumption | (simp only [nI, Int32.ofNat_add, Int32.ofNat_mul]; done) | (simp only [nI, Int32.ofNat_add, Int32.ofNat_mul]; rfl) | rfl) (by first | assumption | (simp only [nI, Int32.ofNat_add, Int32.ofNat_mul]; done) | (simp only [nI, Int32.ofNat_add, Int32.ofNat_mul]; rfl) | rfl) hZ.2.1.1 hZ.2.1.g1 (by omega)) ⟨_, hZ.2.1.1⟩ rfl rfl rfl rfl ?_
          rintro y104 M9 ⟨hy104, rfl⟩
          subst hy104
          rw [e1]
          refine Ev.iconst (v := 2) dX6_level_107 (by decide) ?_
          refine Ev.icmp_ne (tgt := 115) dX6_level_108 (by decide) (fun c108 => ?_) (fun c108 => ?_)
          · refine Ev.ald0 dX6_level_115 ?_
            refine Ev.ild6 dX6_level_116 ?_
            refine Ev.iconst (v := 1) dX6_level_118 (by decide) ?_
            refine Ev.cvI (Yc := mX6_of) (ci := 6) dX6_level_119 lX6_201 vX6_of rfl (m_of (t) (1) (by first | assumption | (simp only [nI, Int32.ofNat_add, Int32.ofNat_mul]; done) | (simp only [nI, Int32.ofNat_add, Int32.ofNat_mul]; rfl) | rfl) (by first | assumption | (simp only [nI, Int32.ofNat_add, Int32.ofNat_mul]; done) | (simp only [nI, Int32.ofNat_add, Int32.ofNat_mul]; rfl) | rfl) hZ.2.1.1 hZ.2.1.g1 (by omega)) ⟨_, hZ.2.1.1⟩ rfl rfl rfl rfl ?_
            rintro y119 M9 ⟨hy119, rfl⟩
            subst hy119
            rw [e1]
            refine Ev.iconst (v := 3) dX6_level_122 (by decide) ?_
            refine Ev.icmp_ne (tgt := 136) dX6_level_123 (by decide) (fun c123 => ?_) (fun c123 => ?_)
            · refine Ev.ald0 dX6_level_136 ?_
              refine Ev.ild6 dX6_level_137 ?_
              refine Ev.iconst (v := 2) dX6_level_139 (by decide) ?_
              refine Ev.cvI (Yc := mX6_of) (ci := 6) dX6_level_140 lX6_201 vX6_of rfl (m_of (t) (2) (by first | assumption | (simp only [nI, Int32.ofNat_add, Int32.ofNat_mul]; done) | (simp only [nI, Int32.ofNat_add, Int32.ofNat_mul]; rfl) | rfl) (by first | assumption | (simp only [nI, Int32.ofNat_add, Int32.ofNat_mul]; done) | (simp only [nI, Int32.ofNat_add, Int32.ofNat_mul]; rfl) | rfl) hZ.2.1.1 hZ.2.1.g1 (by omega)) ⟨_, hZ.2.1.1⟩ rfl rfl rfl rfl ?_
              rintro y140 M9 ⟨hy140, rfl⟩
              subst hy140
              (try rw [e2])
              exact J _ (by rw [shw, if_neg c108, if_neg c123]) ⟨v01_t hy82 c85, c97⟩
            · refine Ev.ald0 dX6_level_126 ?_
              refine Ev.ild6 dX6_level_127 ?_
              refine Ev.iconst (v := 4) dX6_level_129 (by decide) ?_
              refine Ev.cvI (Yc := mX6_of) (ci := 6) dX6_level_130 lX6_201 vX6_of rfl (m_of (t) (4) (by first | assumption | (simp only [nI, Int32.ofNat_add, Int32.ofNat_mul]; done) | (simp only [nI, Int32.ofNat_add, Int32.ofNat_mul]; rfl) | rfl) (by first | assumption | (simp only [nI, Int32.ofNat_add, Int32.ofNat_mul]; done) | (simp only [nI, Int32.ofNat_add, Int32.ofNat_mul]; rfl) | rfl) hZ.2.1.1 hZ.2.1.g1 (by omega)) ⟨_, hZ.2.1.1⟩ rfl rfl rfl rfl ?_
              rintro y130 M9 ⟨hy130, rfl⟩
              subst hy130
              rw [e4]
              refine Ev.goto (tgt := 143) dX6_level_133 (by decide) ?_
              (try rw [e4])
              exact J _ (by rw [shw, if_neg c108, if_pos c123]) ⟨v01_t hy82 c85, c97⟩
          · refine Ev.iconst (v := 0) dX6_level_111 (by decide) ?_
            refine Ev.goto (tgt := 143) dX6_level_112 (by decide) ?_
            exact J _ (by rw [shw, if_pos c108]) ⟨v01_t hy82 c85, c97⟩
  exact KL _
set_option maxRecDepth 20000 in
theorem m_level {s i k : Int32} (hS : Sok S) (hR : MR v X S) (hZ : MZ a M0 v L X M) : CtI G mX6_level [.ref (a 0), .int s, .int i, .int k] M 0 0 (fun x M' => x = an_level S s i k ∧ ∃ (v' : Nat → Int32) (X' : Nat → Nat → Int32), MZ a M0 v' L X' M' ∧ MR v' X' S) := by
  have hB : BW 40 S.1.1 := hS.1.1
  by_cases hok : (0 ≤ s ∧ s ≤ 1) ∧ ¬ i < -1 ∧ (0 ≤ k ∧ k ≤ 3)
  · rw [an_level, if_pos hok]
    obtain ⟨h1, h3, h4⟩ := hok
    refine Ct.of (ls := [some (.ref (a 0)), some (.int s), some (.int i), some (.int k), none, none, none, none]) (by decide) (by decide) rfl rfl rfl ?_
    refine Ev.ald0 dX6_level_0 ?_
    refine Ev.iconst (v := 0) dX6_level_1 (by decide) ?_
    refine Ev.mput (kx := 0) dX6_level_2 fX6_1 hZ rfl rfl (fun M hZ => ?_)
    refine Ev.ild1 dX6_level_5 ?_
    refine Ev.i2l dX6_level_6 ?_
    refine Ev.lconst (v := 0) dX6_level_7 (by decide) ?_
    refine Ev.lconst (v := 1) dX6_level_8 (by decide) ?_
    refine Ev.csI (Yc := mX6_within) dX6_level_9 lX6_93 vX6_within rfl (m_wI (y := 0) (z := 1) (by decide) (by decide)) rfl rfl rfl ?_
    rintro y9 M9 ⟨hy9, rfl⟩
    rw [if_pos h1] at hy9
    refine Ev.if_eq (tgt := 32) dX6_level_12 (by decide) (fun c12 => by first | exact absurd c12 (by rw [hy9]; decide) | exact absurd (by rw [hy9]; decide) c12) (fun c12 => ?_)
    refine Ev.ild2 dX6_level_15 ?_
    refine Ev.iconst (v := -1) dX6_level_16 (by decide) ?_
    refine Ev.icmp_lt (tgt := 32) dX6_level_17 (by decide) (fun c17 => by first | exact absurd c17 h3 | exact absurd h3 c17) (fun c17 => ?_)
    refine Ev.ild3 dX6_level_20 ?_
    refine Ev.i2l dX6_level_21 ?_
    refine Ev.lconst (v := 0) dX6_level_22 (by decide) ?_
    refine Ev.ldc2 dX6_level_23 kX6_138 ?_
    refine Ev.csI (Yc := mX6_within) dX6_level_26 lX6_93 vX6_within rfl (m_wI (y := 0) (z := 3) (by decide) (by decide)) rfl rfl rfl ?_
    rintro y26 M9 ⟨hy26, rfl⟩
    rw [if_pos h4] at hy26
    refine Ev.if_ne (tgt := 34) dX6_level_29 (by decide) (fun c29 => ?_) (fun c29 => by first | exact absurd (by rw [hy26]; decide) c29 | exact absurd c29 (by rw [hy26]; decide))
    refine Ev.ald0 dX6_level_34 ?_
    refine Ev.ild1 dX6_level_35 ?_
    refine Ev.ild2 dX6_level_36 ?_
    refine Ev.cvI (Yc := mX6_levelOf) (ci := 6) dX6_level_37 lX6_334 vX6_levelOf rfl (m_levelOf (b := S.1.1) hR.1.1 hB hZ) ⟨_, hZ.2.1.1⟩ rfl rfl rfl rfl ?_
    rintro y37 M9 ⟨hy37, rfl⟩
    subst hy37
    refine Ev.ist4 dX6_level_40 rfl rfl ?_
    refine Ev.ild2 dX6_level_42 ?_
    refine Ev.iconst (v := -1) dX6_level_43 (by decide) ?_
    refine Ev.icmp_eq (tgt := 56) dX6_level_44 (by decide) (fun c44 => ?_) (fun c44 => ?_)
    · refine Ev.ild4 dX6_level_56 ?_
      refine Ev.iret dX6_level_58 rfl rfl ?_
      exact ⟨_, rfl, (if_pos (Or.inl c44)).symm, _, _, hZ, hR.q QT.rf.t hR.1⟩
    · refine Ev.ild4 dX6_level_47 ?_
      refine Ev.if_lt (tgt := 56) dX6_level_49 (by decide) (fun c49 => ?_) (fun c49 => ?_)
      · refine Ev.ild4 dX6_level_56 ?_
        refine Ev.iret dX6_level_58 rfl rfl ?_
        exact ⟨_, rfl, (if_pos (Or.inr (Or.inl c49))).symm, _, _, hZ, hR.q QT.rf.t hR.1⟩
      · refine Ev.ild3 dX6_level_52 ?_
        refine Ev.if_ne (tgt := 59) dX6_level_53 (by decide) (fun c53 => ?_) (fun c53 => ?_)
        · refine Ev.iconst (v := 0) dX6_level_59 (by decide) ?_
          refine Ev.ist5 dX6_level_60 rfl rfl ?_
          refine Ev.iconst (v := 0) dX6_level_62 (by decide) ?_
          refine Ev.ist6 dX6_level_63 rfl rfl ?_
          exact m_lsm hR.1.1 hB hZ ⟨_, rfl, (if_neg (fun z => z.elim c44 (fun z => z.elim c49 c53))).symm, _, _, hZ, hR.q QT.rf.t hR.1⟩
        · refine Ev.ild4 dX6_level_56 ?_
          refine Ev.iret dX6_level_58 rfl rfl ?_
          exact ⟨_, rfl, (if_pos (Or.inr (Or.inr c53))).symm, _, _, hZ, hR.q QT.rf.t hR.1⟩
  · rw [an_level, if_neg hok]
    refine Ct.of (ls := [some (.ref (a 0)), some (.int s), some (.int i), some (.int k), none, none, none, none]) (by decide) (by decide) rfl rfl rfl ?_
    refine Ev.ald0 dX6_level_0 ?_
    refine Ev.iconst (v := 0) dX6_level_1 (by decide) ?_
    refine Ev.mput (kx := 0) dX6_level_2 fX6_1 hZ rfl rfl (fun M hZ => ?_)
    refine Ev.ild1 dX6_level_5 ?_
    refine Ev.i2l dX6_level_6 ?_
    refine Ev.lconst (v := 0) dX6_level_7 (by decide) ?_
    refine Ev.lconst (v := 1) dX6_level_8 (by decide) ?_
    refine Ev.csI (Yc := mX6_within) dX6_level_9 lX6_93 vX6_within rfl (m_wI (y := 0) (z := 1) (by decide) (by decide)) rfl rfl rfl ?_
    rintro y9 M9 ⟨hy9, rfl⟩
    refine Ev.if_eq (tgt := 32) dX6_level_12 (by decide) (fun c12 => ?_) (fun c12 => ?_)
    · refine Ev.iconst (v := -1) dX6_level_32 (by decide) ?_
      refine Ev.iret dX6_level_33 rfl rfl ?_
      exact ⟨_, rfl, rfl, _, _, hZ, hR.q QT.rf.t hR.1⟩
    · refine Ev.ild2 dX6_level_15 ?_
      refine Ev.iconst (v := -1) dX6_level_16 (by decide) ?_
      refine Ev.icmp_lt (tgt := 32) dX6_level_17 (by decide) (fun c17 => ?_) (fun c17 => ?_)
      · refine Ev.iconst (v := -1) dX6_level_32 (by decide) ?_
        refine Ev.iret dX6_level_33 rfl rfl ?_
        exact ⟨_, rfl, rfl, _, _, hZ, hR.q QT.rf.t hR.1⟩
      · refine Ev.ild3 dX6_level_20 ?_
        refine Ev.i2l dX6_level_21 ?_
        refine Ev.lconst (v := 0) dX6_level_22 (by decide) ?_
        refine Ev.ldc2 dX6_level_23 kX6_138 ?_
        refine Ev.csI (Yc := mX6_within) dX6_level_26 lX6_93 vX6_within rfl (m_wI (y := 0) (z := 3) (by decide) (by decide)) rfl rfl rfl ?_
        rintro y26 M9 ⟨hy26, rfl⟩
        refine Ev.if_ne (tgt := 34) dX6_level_29 (by decide) (fun c29 => ?_) (fun c29 => ?_)
        · exact absurd ⟨v01_t hy9 c12, c17, v01_t hy26 c29⟩ hok
        · refine Ev.iconst (v := -1) dX6_level_32 (by decide) ?_
          refine Ev.iret dX6_level_33 rfl rfl ?_
          exact ⟨_, rfl, rfl, _, _, hZ, hR.q QT.rf.t hR.1⟩
set_option maxRecDepth 20000 in
theorem m_bestOf {sd : Int32} (hA : Ag (X 1) b) (hB : BW 40 b) (hZ : MZ a M0 v L X M) : CtI G mX6_bestOf [.ref (a 0), .int sd] M 0 0 (fun x M' => x = bso b sd ∧ M' = M) := by
  refine Ct.of (ls := [some (.ref (a 0)), some (.int sd), none]) (by decide) (by decide) rfl rfl rfl ?_
  refine Ev.ald0 dX6_bestOf_0 ?_
  refine Ev.ild1 dX6_bestOf_1 ?_
  refine Ev.iconst (v := 0) dX6_bestOf_2 (by decide) ?_
  refine Ev.cvI (Yc := mX6_levelOf) (ci := 6) dX6_bestOf_3 lX6_334 vX6_levelOf rfl (m_levelOf (b := b) hA hB hZ) ⟨_, hZ.2.1.1⟩ rfl rfl rfl rfl ?_
  rintro y3 M9 ⟨hy3, rfl⟩
  subst hy3
  refine Ev.ist2 dX6_bestOf_6 rfl rfl ?_
  refine Ev.ild2 dX6_bestOf_7 ?_
  refine Ev.if_le (tgt := 15) dX6_bestOf_8 (by decide) (fun c8 => ?_) (fun c8 => ?_)
  · refine Ev.ild1 dX6_bestOf_15 ?_
    refine Ev.if_ne (tgt := 23) dX6_bestOf_16 (by decide) (fun c16 => ?_) (fun c16 => ?_)
    · refine Ev.sipush (v := 1000) dX6_bestOf_23 (by decide) ?_
      refine Ev.iret dX6_bestOf_26 rfl rfl ?_
      exact ⟨_, rfl, by rw [bso, if_neg (Int32.not_lt.mpr c8), if_neg c16], rfl⟩
    · refine Ev.iconst (v := 0) dX6_bestOf_19 (by decide) ?_
      refine Ev.goto (tgt := 26) dX6_bestOf_20 (by decide) ?_
      refine Ev.iret dX6_bestOf_26 rfl rfl ?_
      exact ⟨_, rfl, by rw [bso, if_neg (Int32.not_lt.mpr c8), if_pos c16], rfl⟩
  · refine Ev.ild2 dX6_bestOf_11 ?_
    refine Ev.goto (tgt := 26) dX6_bestOf_12 (by decide) ?_
    refine Ev.iret dX6_bestOf_26 rfl rfl ?_
    exact ⟨_, rfl, by rw [bso, if_pos (Int32.not_le.mp c8)], rfl⟩
set_option maxRecDepth 20000 in
theorem m_past {i k : Int32} (hS : Sok S) (hR : MR v X S) (hZ : MZ a M0 v L X M) : CtI G mX6_past [.ref (a 0), .int i, .int k] M 0 0 (fun x M' => ∃ (v' : Nat → Int32) (X' : Nat → Nat → Int32), MZ a M0 v' L X' M' ∧ MR v' X' S ∧ (pok S i k ∧ v' 0 = 0 ∧ x = an_past S i k ∨ ¬ pok S i k ∧ v' 0 = 1)) := by
  have e5 : v 5 = nI (min 8 S.2.2.2.2.2) := hR.2.2.2.2.1
  by_cases hok : pok S i k
  · obtain ⟨h1, h2⟩ := hok
    obtain ⟨r, hr, rfl⟩ : ∃ r, r < min 8 S.2.2.2.2.2 ∧ i = nI r := by
      by_cases h0 : min 8 S.2.2.2.2.2 = 0
      · rw [h0] at h1
        exact absurd (Int32.le_trans h1.1 h1.2) (by decide)
      · have e : nI (min 8 S.2.2.2.2.2) - 1 = nI (min 8 S.2.2.2.2.2 - 1) := nI_subI (b := 1) (by omega)
        rw [e] at h1
        obtain ⟨r, r1, r2⟩ := int_le (by omega) h1.1 h1.2
        exact ⟨r, by omega, r2⟩
    obtain ⟨j, hj, rfl⟩ := int_le (c := 3) (by omega) h2.1 h2.2
    have ex := hR.2.2.2.2.2 (4 * r + j) (by omega)
    refine Ct.of (ls := [some (.ref (a 0)), some (.int (nI r)), some (.int (nI j))]) (by decide) (by decide) rfl rfl rfl ?_
    refine Ev.ald0 dX6_past_0 ?_
    refine Ev.ild1 dX6_past_1 ?_
    refine Ev.i2l dX6_past_2 ?_
    refine Ev.lconst (v := 0) dX6_past_3 (by decide) ?_
    refine Ev.ald0 dX6_past_4 ?_
    refine Ev.mgv (kx := 5) dX6_past_5 fX6_73 hZ rfl ?_
    rw [e5]
    refine Ev.iconst (v := 1) dX6_past_8 (by decide) ?_
    refine Ev.isub dX6_past_9 ?_
    refine Ev.i2l dX6_past_10 ?_
    refine Ev.csI (Yc := mX6_within) dX6_past_11 lX6_93 vX6_within rfl (m_wI (y := 0) (z := nI (min 8 S.2.2.2.2.2) - 1) (by decide) rfl) rfl rfl rfl ?_
    rintro y11 M9 ⟨hy11, rfl⟩
    rw [if_pos h1] at hy11
    refine Ev.if_eq (tgt := 33) dX6_past_14 (by decide) (fun c14 => by first | exact absurd c14 (by rw [hy11]; decide) | exact absurd (by rw [hy11]; decide) c14) (fun c14 => ?_)
    refine Ev.ild2 dX6_past_17 ?_
    refine Ev.i2l dX6_past_18 ?_
    refine Ev.lconst (v := 0) dX6_past_19 (by decide) ?_
    refine Ev.ldc2 dX6_past_20 kX6_138 ?_
    refine Ev.csI (Yc := mX6_within) dX6_past_23 lX6_93 vX6_within rfl (m_wI (y := 0) (z := 3) (by decide) (by decide)) rfl rfl rfl ?_
    rintro y23 M9 ⟨hy23, rfl⟩
    rw [if_pos h2] at hy23
    refine Ev.if_eq (tgt := 33) dX6_past_26 (by decide) (fun c26 => by first | exact absurd c26 (by rw [hy23]; decide) | exact absurd (by rw [hy23]; decide) c26) (fun c26 => ?_)
    refine Ev.iconst (v := 0) dX6_past_29 (by decide) ?_
    refine Ev.goto (tgt := 34) dX6_past_30 (by decide) ?_
    refine Ev.mput (kx := 0) dX6_past_34 fX6_1 hZ rfl rfl (fun M hZ => ?_)
    refine Ev.ald0 dX6_past_37 ?_
    refine Ev.mgv (kx := 0) dX6_past_38 fX6_1 hZ rfl ?_
    rw [pk_us]
    refine Ev.if_le (tgt := 48) dX6_past_41 (by decide) (fun c41 => ?_) (fun c41 => by first | exact absurd (by decide) c41 | exact absurd c41 (by decide))
    refine Ev.ald0 dX6_past_48 ?_
    refine Ev.mgr (kx := 4) dX6_past_49 fX6_20 hZ rfl ?_
    refine Ev.iconst (v := 4) dX6_past_52 (by decide) ?_
    refine Ev.ild1 dX6_past_53 ?_
    refine Ev.imul dX6_past_54 ?_
    refine Ev.ild2 dX6_past_55 ?_
    refine Ev.iadd dX6_past_56 ?_
    refine Ev.mld (j := ((4 * r) + j)) mq4 dX6_past_57 hZ (by first | assumption | (simp only [nI, Int32.ofNat_add, Int32.ofNat_mul]; done) | (simp only [nI, Int32.ofNat_add, Int32.ofNat_mul]; rfl) | rfl) (by omega) ?_
    (try simp only [ux_s, ux_n, ne_eq, Nat.reduceEqDiff, Nat.succ_ne_self, not_false_eq_true])
    refine Ev.iret dX6_past_58 rfl rfl ?_
    exact ⟨_, rfl, _, _, hZ, hR.q QT.rf.t hR.1, Or.inl ⟨⟨h1, h2⟩, pk_us, by rw [an_past, nI_clamp (by omega), nI_clamp (by omega)]; exact ex⟩⟩
  · refine Ct.of (ls := [some (.ref (a 0)), some (.int i), some (.int k)]) (by decide) (by decide) rfl rfl rfl ?_
    refine Ev.ald0 dX6_past_0 ?_
    refine Ev.ild1 dX6_past_1 ?_
    refine Ev.i2l dX6_past_2 ?_
    refine Ev.lconst (v := 0) dX6_past_3 (by decide) ?_
    refine Ev.ald0 dX6_past_4 ?_
    refine Ev.mgv (kx := 5) dX6_past_5 fX6_73 hZ rfl ?_
    rw [e5]
    refine Ev.iconst (v := 1) dX6_past_8 (by decide) ?_
    refine Ev.isub dX6_past_9 ?_
    refine Ev.i2l dX6_past_10 ?_
    refine Ev.csI (Yc := mX6_within) dX6_past_11 lX6_93 vX6_within rfl (m_wI (y := 0) (z := nI (min 8 S.2.2.2.2.2) - 1) (by decide) rfl) rfl rfl rfl ?_
    rintro y11 M9 ⟨hy11, rfl⟩
    refine Ev.if_eq (tgt := 33) dX6_past_14 (by decide) (fun c14 => ?_) (fun c14 => ?_)
    · refine Ev.iconst (v := 1) dX6_past_33 (by decide) ?_
      refine Ev.mput (kx := 0) dX6_past_34 fX6_1 hZ rfl rfl (fun M hZ => ?_)
      refine Ev.ald0 dX6_past_37 ?_
      refine Ev.mgv (kx := 0) dX6_past_38 fX6_1 hZ rfl ?_
      rw [pk_us]
      refine Ev.if_le (tgt := 48) dX6_past_41 (by decide) (fun c41 => by first | exact absurd c41 (by decide) | exact absurd (by decide) c41) (fun c41 => ?_)
      refine Ev.iconst (v := 0) dX6_past_44 (by decide) ?_
      refine Ev.goto (tgt := 58) dX6_past_45 (by decide) ?_
      refine Ev.iret dX6_past_58 rfl rfl ?_
      exact ⟨_, rfl, _, _, hZ, hR.q QT.rf.t hR.1, Or.inr ⟨hok, pk_us⟩⟩
    · refine Ev.ild2 dX6_past_17 ?_
      refine Ev.i2l dX6_past_18 ?_
      refine Ev.lconst (v := 0) dX6_past_19 (by decide) ?_
      refine Ev.ldc2 dX6_past_20 kX6_138 ?_
      refine Ev.csI (Yc := mX6_within) dX6_past_23 lX6_93 vX6_within rfl (m_wI (y := 0) (z := 3) (by decide) (by decide)) rfl rfl rfl ?_
      rintro y23 M9 ⟨hy23, rfl⟩
      refine Ev.if_eq (tgt := 33) dX6_past_26 (by decide) (fun c26 => ?_) (fun c26 => ?_)
      · refine Ev.iconst (v := 1) dX6_past_33 (by decide) ?_
        refine Ev.mput (kx := 0) dX6_past_34 fX6_1 hZ rfl rfl (fun M hZ => ?_)
        refine Ev.ald0 dX6_past_37 ?_
        refine Ev.mgv (kx := 0) dX6_past_38 fX6_1 hZ rfl ?_
        rw [pk_us]
        refine Ev.if_le (tgt := 48) dX6_past_41 (by decide) (fun c41 => by first | exact absurd c41 (by decide) | exact absurd (by decide) c41) (fun c41 => ?_)
        refine Ev.iconst (v := 0) dX6_past_44 (by decide) ?_
        refine Ev.goto (tgt := 58) dX6_past_45 (by decide) ?_
        refine Ev.iret dX6_past_58 rfl rfl ?_
        exact ⟨_, rfl, _, _, hZ, hR.q QT.rf.t hR.1, Or.inr ⟨hok, pk_us⟩⟩
      · exact absurd ⟨v01_t hy11 c14, v01_t hy23 c26⟩ hok
set_option maxRecDepth 20000 in
theorem m_cn5 {Q : Option Value → Wd → Prop} {k : Int32} (hA : Ag (X 1) b) (hB : BW 40 b) (hZ : MZ a M0 v L X M) (kk : Q (some (.int (cnS b (bn b)))) M) : Ev G mX6_count 113 [some (.ref (a 0)), some (.int k), some (.int 0), some (.int 0)] [] M 0 0 Q := by
  have hn := hB.2.1
  have e8 : X 1 328 = nI (bn b) := hA.2.1.trans hB.1
  have KL : Ev G mX6_count 113 [some (.ref (a 0)), some (.int k), some (.int (cnS b 0)), some (.int (nI 0))] [] M 0 0 Q := by
    refine ev_ind (bn b) (fun t => Ev G mX6_count 113 [some (.ref (a 0)), some (.int k), some (.int (cnS b t)), some (.int (nI t))] [] M 0 0 Q) ?_ ?_
    · refine Ev.ild3 dX6_count_113 ?_
      refine Ev.ald0 dX6_count_114 ?_
      refine Ev.mgr (kx := 1) dX6_count_115 fX6_13 hZ rfl ?_
      refine Ev.sipush (v := 328) dX6_count_118 (by decide) ?_
      refine Ev.mld (j := 328) mq1 dX6_count_121 hZ (by first | assumption | (simp only [nI, Int32.ofNat_add, Int32.ofNat_mul]; done) | (simp only [nI, Int32.ofNat_add, Int32.ofNat_mul]; rfl) | rfl) (by omega) ?_
      (try simp only [ux_s, ux_n, ne_eq, Nat.reduceEqDiff, Nat.succ_ne_self, not_false_eq_true])
      rw [e8]
      refine Ev.icmp_ge (tgt := 147) dX6_count_122 (by decide) (fun c122 => ?_) (fun c122 => by first | exact absurd (Int32.le_refl _) c122 | exact absurd c122 (Int32.le_refl _))
      refine Ev.ild2 dX6_count_147 ?_
      refine Ev.iret dX6_count_148 rfl rfl ?_
      exact kk
    · intro t ht ih
      have e7 : X 1 (8 * t + 7) = b (8 * t + 7) := hA.1.at ht (by omega)
      rw [cnS] at ih
      refine Ev.ild3 dX6_count_113 ?_
      refine Ev.ald0 dX6_count_114 ?_
      refine Ev.mgr (kx := 1) dX6_count_115 fX6_13 hZ rfl ?_
      refine Ev.sipush (v := 328) dX6_count_118 (by decide) ?_
      refine Ev.mld (j := 328) mq1 dX6_count_121 hZ (by first | assumption | (simp only [nI, Int32.ofNat_add, Int32.ofNat_mul]; done) | (simp only [nI, Int32.ofNat_add, Int32.ofNat_mul]; rfl) | rfl) (by omega) ?_
      (try simp only [ux_s, ux_n, ne_eq, Nat.reduceEqDiff, Nat.succ_ne_self, not_false_eq_true])
      rw [e8]
      refine Ev.icmp_ge (tgt := 147) dX6_count_122 (by decide) (fun c122 => by first | exact absurd c122 (nI_ge ht (by omega)) | exact absurd (nI_ge ht (by omega)) c122) (fun c122 => ?_)
      refine Ev.ild2 dX6_count_125 ?_
      refine Ev.ald0 dX6_count_126 ?_
      refine Ev.ild3 dX6_count_127 ?_
      refine Ev.cvI (Yc := mX6_isGone) (ci := 6) dX6_count_128 lX6_205 vX6_isGone rfl (m_isGone (t) (by first | assumption | (simp only [nI, Int32.ofNat_add, Int32.ofNat_mul]; done) | (simp only [nI, Int32.ofNat_add, Int32.ofNat_mul]; rfl) | rfl) hZ.2.1.1 hZ.2.1.g1 (by omega)) ⟨_, hZ.2.1.1⟩ rfl rfl rfl rfl ?_
      rintro y128 M9 ⟨hy128, rfl⟩
      rw [e7] at hy128
      refine Ev.if_eq (tgt := 138) dX6_count_131 (by decide) (fun c131 => ?_) (fun c131 => ?_)
      · refine Ev.iconst (v := 1) dX6_count_138 (by decide) ?_
        refine Ev.iadd dX6_count_139 ?_
        refine Ev.ist2 dX6_count_140 rfl rfl ?_
        apply Ev.iinc3 dX6_count_141 rfl rfl
        · first | exact nI_inc _ | rfl
        refine Ev.goto (tgt := 113) dX6_count_144 (by decide) ?_
        rw [if_pos ((hB.2.2.1.g01 ht).mp (v01_f hy128 c131))] at ih
        exact ih
      · refine Ev.iconst (v := 0) dX6_count_134 (by decide) ?_
        refine Ev.goto (tgt := 139) dX6_count_135 (by decide) ?_
        refine Ev.iadd dX6_count_139 ?_
        refine Ev.ist2 dX6_count_140 rfl rfl ?_
        apply Ev.iinc3 dX6_count_141 rfl rfl
        · first | exact nI_inc _ | rfl
        refine Ev.goto (tgt := 113) dX6_count_144 (by decide) ?_
        rw [if_neg (fun z => (hB.2.2.1.g01 ht).mpr z (v01_t hy128 c131))] at ih
        exact ih
  exact KL
set_option maxRecDepth 20000 in
theorem m_count {k : Int32} (hS : Sok S) (hR : MR v X S) (hZ : MZ a M0 v L X M) : CtI G mX6_count [.ref (a 0), .int k] M 0 0 (fun x M' => x = an_count S k ∧ ∃ (v' : Nat → Int32) (X' : Nat → Nat → Int32), MZ a M0 v' L X' M' ∧ MR v' X' S) := by
  have hB : BW 40 S.1.1 := hS.1.1
  have hA := hR.1.1
  refine Ct.of (ls := [some (.ref (a 0)), some (.int k), none, none]) (by decide) (by decide) rfl rfl rfl ?_
  refine Ev.ald0 dX6_count_0 ?_
  refine Ev.iconst (v := 0) dX6_count_1 (by decide) ?_
  refine Ev.mput (kx := 0) dX6_count_2 fX6_1 hZ rfl rfl (fun M hZ => ?_)
  refine Ev.ild1 dX6_count_5 ?_
  skip
  have hR0 : MR (upd v 0 0) X S := hR.q QT.rf.t hR.1
  have hQ : ∀ y, y = an_count S k → ∃ x, some (Value.int y) = some (.int x) ∧ x = an_count S k ∧ ∃ (v' : Nat → Int32) (X' : Nat → Nat → Int32), MZ a M0 v' L X' M ∧ MR v' X' S := fun y hy => ⟨y, rfl, hy, _, _, hZ, hR0⟩
  by_cases h0 : k = 0
  · subst h0
    refine Ev.tin (off := 58) (tgt := 64) dX6_count_6 (by decide) (by decide) rfl (by decide) ?_
    refine Ev.ald0 dX6_count_64 ?_
    refine Ev.mgr (kx := 1) dX6_count_65 fX6_13 hZ rfl ?_
    refine Ev.sipush (v := 328) dX6_count_68 (by decide) ?_
    refine Ev.mld (j := 328) mq1 dX6_count_71 hZ (by first | assumption | (simp only [nI, Int32.ofNat_add, Int32.ofNat_mul]; done) | (simp only [nI, Int32.ofNat_add, Int32.ofNat_mul]; rfl) | rfl) (by omega) ?_
    (try simp only [ux_s, ux_n, ne_eq, Nat.reduceEqDiff, Nat.succ_ne_self, not_false_eq_true])
    refine Ev.iret dX6_count_72 rfl rfl ?_
    exact hQ _ hA.2.1
  by_cases h1 : k = 1
  · subst h1
    refine Ev.tin (off := 67) (tgt := 73) dX6_count_6 (by decide) (by decide) rfl (by decide) ?_
    refine Ev.ald0 dX6_count_73 ?_
    refine Ev.mgr (kx := 1) dX6_count_74 fX6_13 hZ rfl ?_
    refine Ev.sipush (v := 329) dX6_count_77 (by decide) ?_
    refine Ev.mld (j := 329) mq1 dX6_count_80 hZ (by first | assumption | (simp only [nI, Int32.ofNat_add, Int32.ofNat_mul]; done) | (simp only [nI, Int32.ofNat_add, Int32.ofNat_mul]; rfl) | rfl) (by omega) ?_
    (try simp only [ux_s, ux_n, ne_eq, Nat.reduceEqDiff, Nat.succ_ne_self, not_false_eq_true])
    refine Ev.iret dX6_count_81 rfl rfl ?_
    exact hQ _ hA.2.2.1
  by_cases h2 : k = 2
  · subst h2
    refine Ev.tin (off := 76) (tgt := 82) dX6_count_6 (by decide) (by decide) rfl (by decide) ?_
    refine Ev.ald0 dX6_count_82 ?_
    refine Ev.mgr (kx := 1) dX6_count_83 fX6_13 hZ rfl ?_
    refine Ev.sipush (v := 330) dX6_count_86 (by decide) ?_
    refine Ev.mld (j := 330) mq1 dX6_count_89 hZ (by first | assumption | (simp only [nI, Int32.ofNat_add, Int32.ofNat_mul]; done) | (simp only [nI, Int32.ofNat_add, Int32.ofNat_mul]; rfl) | rfl) (by omega) ?_
    (try simp only [ux_s, ux_n, ne_eq, Nat.reduceEqDiff, Nat.succ_ne_self, not_false_eq_true])
    refine Ev.iret dX6_count_90 rfl rfl ?_
    exact hQ _ hA.2.2.2.1
  by_cases h3 : k = 3
  · subst h3
    refine Ev.tin (off := 85) (tgt := 91) dX6_count_6 (by decide) (by decide) rfl (by decide) ?_
    refine Ev.ald0 dX6_count_91 ?_
    refine Ev.mgr (kx := 1) dX6_count_92 fX6_13 hZ rfl ?_
    refine Ev.sipush (v := 331) dX6_count_95 (by decide) ?_
    refine Ev.mld (j := 331) mq1 dX6_count_98 hZ (by first | assumption | (simp only [nI, Int32.ofNat_add, Int32.ofNat_mul]; done) | (simp only [nI, Int32.ofNat_add, Int32.ofNat_mul]; rfl) | rfl) (by omega) ?_
    (try simp only [ux_s, ux_n, ne_eq, Nat.reduceEqDiff, Nat.succ_ne_self, not_false_eq_true])
    refine Ev.iret dX6_count_99 rfl rfl ?_
    exact hQ _ hA.2.2.2.2.1
  by_cases h4 : k = 4
  · subst h4
    refine Ev.tin (off := 94) (tgt := 100) dX6_count_6 (by decide) (by decide) rfl (by decide) ?_
    refine Ev.ald0 dX6_count_100 ?_
    refine Ev.mgr (kx := 1) dX6_count_101 fX6_13 hZ rfl ?_
    refine Ev.sipush (v := 332) dX6_count_104 (by decide) ?_
    refine Ev.mld (j := 332) mq1 dX6_count_107 hZ (by first | assumption | (simp only [nI, Int32.ofNat_add, Int32.ofNat_mul]; done) | (simp only [nI, Int32.ofNat_add, Int32.ofNat_mul]; rfl) | rfl) (by omega) ?_
    (try simp only [ux_s, ux_n, ne_eq, Nat.reduceEqDiff, Nat.succ_ne_self, not_false_eq_true])
    refine Ev.iret dX6_count_108 rfl rfl ?_
    exact hQ _ hA.2.2.2.2.2
  by_cases h5 : k = 5
  · subst h5
    refine Ev.tin (off := 103) (tgt := 109) dX6_count_6 (by decide) (by decide) rfl (by decide) ?_
    refine Ev.iconst (v := 0) dX6_count_109 (by decide) ?_
    refine Ev.ist2 dX6_count_110 rfl rfl ?_
    refine Ev.iconst (v := 0) dX6_count_111 (by decide) ?_
    refine Ev.ist3 dX6_count_112 rfl rfl ?_
    exact m_cn5 hA hB hZ (hQ _ rfl)
  by_cases h6 : k = 6
  · subst h6
    refine Ev.tin (off := 143) (tgt := 149) dX6_count_6 (by decide) (by decide) rfl (by decide) ?_
    refine Ev.ald0 dX6_count_149 ?_
    refine Ev.iconst (v := 0) dX6_count_150 (by decide) ?_
    refine Ev.cvI (Yc := mX6_bestOf) (ci := 6) dX6_count_151 lX6_346 vX6_bestOf rfl (m_bestOf (b := S.1.1) hA hB hZ) ⟨_, hZ.2.1.1⟩ rfl rfl rfl rfl ?_
    rintro y M9 ⟨hy, rfl⟩
    refine Ev.iret dX6_count_154 rfl rfl ?_
    exact hQ _ hy
  by_cases h7 : k = 7
  · subst h7
    refine Ev.tin (off := 149) (tgt := 155) dX6_count_6 (by decide) (by decide) rfl (by decide) ?_
    refine Ev.ald0 dX6_count_155 ?_
    refine Ev.iconst (v := 1) dX6_count_156 (by decide) ?_
    refine Ev.cvI (Yc := mX6_bestOf) (ci := 6) dX6_count_157 lX6_346 vX6_bestOf rfl (m_bestOf (b := S.1.1) hA hB hZ) ⟨_, hZ.2.1.1⟩ rfl rfl rfl rfl ?_
    rintro y M9 ⟨hy, rfl⟩
    refine Ev.iret dX6_count_160 rfl rfl ?_
    exact hQ _ hy
  by_cases h8 : k = 8
  · subst h8
    refine Ev.tin (off := 155) (tgt := 161) dX6_count_6 (by decide) (by decide) rfl (by decide) ?_
    refine Ev.ald0 dX6_count_161 ?_
    refine Ev.mgv (kx := 3) dX6_count_162 fX6_70 hZ rfl ?_
    refine Ev.iret dX6_count_165 rfl rfl ?_
    exact hQ _ hR.2.1.1
  by_cases h9 : k = 9
  · subst h9
    refine Ev.tin (off := 160) (tgt := 166) dX6_count_6 (by decide) (by decide) rfl (by decide) ?_
    refine Ev.ald0 dX6_count_166 ?_
    refine Ev.mgv (kx := 8) dX6_count_167 fX6_79 hZ rfl ?_
    refine Ev.iret dX6_count_170 rfl rfl ?_
    exact hQ _ hR.2.2.1.1
  by_cases h10 : k = 10
  · subst h10
    refine Ev.tin (off := 165) (tgt := 171) dX6_count_6 (by decide) (by decide) rfl (by decide) ?_
    refine Ev.ald0 dX6_count_171 ?_
    refine Ev.mgv (kx := 6) dX6_count_172 fX6_76 hZ rfl ?_
    refine Ev.iret dX6_count_175 rfl rfl ?_
    exact hQ _ hR.2.2.2.1
  have n0 := lv_neT h0 (a := 0) rfl
  have n1 := lv_neT h1 (a := 1) rfl
  have n2 := lv_neT h2 (a := 2) rfl
  have n3 := lv_neT h3 (a := 3) rfl
  have n4 := lv_neT h4 (a := 4) rfl
  have n5 := lv_neT h5 (a := 5) rfl
  have n6 := lv_neT h6 (a := 6) rfl
  have n7 := lv_neT h7 (a := 7) rfl
  have n8 := lv_neT h8 (a := 8) rfl
  have n9 := lv_neT h9 (a := 9) rfl
  have n10 := lv_neT h10 (a := 10) rfl
  refine Ev.tout (tgt := 176) dX6_count_6 (by omega) (by decide) ?_
  refine Ev.iconst (v := -1) dX6_count_176 (by decide) ?_
  refine Ev.iret dX6_count_177 rfl rfl ?_
  exact hQ _ (by rw [an_count, if_neg h0, if_neg h1, if_neg h2, if_neg h3, if_neg h4, if_neg h5, if_neg h6, if_neg h7, if_neg h8, if_neg h9, if_neg h10])
end MMK
