/-! the reference's questions: crossed, trade, slice, curve -/
noncomputable def cno (b : Nat → Int32) : Nat → Int32
  | 0 => 0
  | k + 1 => cno b k + (if xf b k = -2 then 1 else 0)
noncomputable def an_crossed (S : Sg) (k : Int32) : Int32 := if k = 0 then (xP (bas S) (-1)).1 else if k = 1 then xV (bas S) (-1) else if k = 2 then xR (bas S) (-1) else if k = 3 then (if (xP (bas S) (-1)).1 < 0 then 0 else (xP (bas S) (-1)).2.1) else if k = 4 then nI (xC (bas S) (-1)).2.2 else if k = 5 then cno (bas S) (bn S.1.1) else (xP (bas S) (-1)).2.2
def trq (o : Option (Nat × Nat × Int32)) (k : Int32) : Int32 := match o with
  | none => 0
  | some q => if k = 0 then nI q.1 else if k = 1 then nI q.2.1 else q.2.2
noncomputable def an_trade (S : Sg) (i k : Int32) : Int32 := if ¬ (0 ≤ k ∧ k ≤ 2) then -1 else if i = -1 then nI (xT (bas S)).length else if 0 ≤ i ∧ i ≤ nI (xT (bas S)).length - 1 then trq ((xT (bas S))[i.toNatClampNeg]?) k else -1
def slq (o : Option (Nat × Int32)) (k : Int32) : Int32 := match o with
  | none => 0
  | some q => if k = 0 then nI q.1 else q.2
noncomputable def an_slice (S : Sg) (s p i k : Int32) : Int32 := if (0 ≤ s ∧ s ≤ 1) ∧ (1 ≤ p ∧ p ≤ 999) ∧ ¬ i < -1 ∧ (0 ≤ k ∧ k ≤ 1) then (if i = -1 then nI (slp S.1.1 (ct0 S.1.1 (-1)) s p).length else if i < nI (slp S.1.1 (ct0 S.1.1 (-1)) s p).length then slq ((slp S.1.1 (ct0 S.1.1 (-1)) s p)[i.toNatClampNeg]?) k else -1) else -1
def crv (t : T4) (k : Int32) : Int32 := if k = 0 then t.1 else if k = 1 then t.2.1 else if k = 2 then ovf t else if k = 3 then hpf t else if k = 4 then vof t else ref t
noncomputable def an_curve (S : Sg) (p k : Int32) : Int32 := crv (bs4 S.1.1 (ct0 S.1.1 (-1)) (qt S.1.1) p (bn S.1.1)) k
theorem nI_nm1 {k : Nat} (h : k < 1000000) : nI k ≠ -1 := fun q => nI_pos (show k < 2 ^ 31 by omega) (by rw [q]; decide)
theorem Xof.at {m c : Nat → Int32} {S : Sg} (h : Xof m c) (hc : c = bas S) {j : Nat} (hj : j < 5) : m (333 + j) = an_crossed S (nI j) := by
  subst hc
  have : j = 0 ∨ j = 1 ∨ j = 2 ∨ j = 3 ∨ j = 4 := by omega
  rcases this with rfl | rfl | rfl | rfl | rfl
  · rw [an_crossed, if_pos nI_0]; exact h.1
  · rw [an_crossed, if_neg (by decide), if_pos (by decide)]; exact h.2.1
  · rw [an_crossed, if_neg (by decide), if_neg (by decide), if_pos (by decide)]; exact h.2.2.1
  · rw [an_crossed, if_neg (by decide), if_neg (by decide), if_neg (by decide), if_pos (by decide)]; exact h.2.2.2.1
  · rw [an_crossed, if_neg (by decide), if_neg (by decide), if_neg (by decide), if_neg (by decide), if_pos (by decide)]; exact h.2.2.2.2.1
section MMH
variable {G : GP} {a : Nat → Nat} {M0 M : Wd} {v : Nat → Int32} {L : Int64} {X : Nat → Nat → Int32} {S : Sg} {b ct my : Nat → Int32}
theorem m_ctA (hZ : MZ a M0 v L X M) (hA : Ag (X 1) b) (hB : BW 41 b) : CtV G mX6_countsAll [.ref (a 0)] M 0 0 (fun M' => ∃ X' : Nat → Nat → Int32, MZ a M0 v L X' M' ∧ (∀ j, j ≠ 22 → j ≠ 23 → X' j = X j) ∧ (∀ k, k < bn b → X' 22 k = ct0 b (-1) k) ∧ (∀ k, k < bn b → X' 23 k = qt b k)) := by
  have hn := hB.2.1
  obtain ⟨g0, g1, g2, g3, g4, g5⟩ := hA
  refine Ct.mono (m_countsAll (n := bn b) hZ.1 hZ.2.1 (M0 := M) Fr.rf (g1.trans hB.1) hn) ?_
  rintro u M' ⟨rfl, h1, h2⟩
  refine ⟨rfl, _, hZ.to h1 h2, fun j q1 q2 => by rw [ux_n q2, ux_n q1], fun k hk => ?_, fun k hk => ?_⟩
  · rw [ux_n (by decide), ux_s, cav_in _ _ _ _ hk, ct0, g0.at (i := 7) hk (by omega)]
    have : nI k ≠ -1 := nI_nm1 (by omega)
    simp [this]
  · rw [ux_s, cmy_in _ _ _ _ hk]
    exact g0.at (i := 2) hk (by omega)
theorem m_smA (hZ : MZ a M0 v L X M) (hA : Ag (X 1) b) (hB : BW 41 b) (hc : ∀ k, k < bn b → X 22 k = ct k) (hy : ∀ k, k < bn b → X 23 k = my k) : CtV G mX6_laysSums [.ref (a 0)] M 0 0 (fun M' => ∃ X' : Nat → Nat → Int32, MZ a M0 v L X' M' ∧ (∀ j, j ∉ [24, 25, 26, 27] → X' j = X j) ∧ ∀ p, 1 ≤ p → p ≤ 999 → (X' 24 p, X' 25 p, X' 26 p, X' 27 p) = bs4 b ct my (nI p) (bn b)) := by
  have hn := hB.2.1
  obtain ⟨g0, g1, g2, g3, g4, g5⟩ := hA
  have hO : OW (X 1) (bn b) := hB.2.2.1.cm g0.sy
  refine Ct.mono (m_laysSums (n := bn b) hZ.1 hZ.2.1 (M0 := M) Fr.rf (g1.trans hB.1) hn (fun k hk _ => by obtain ⟨q, q1, q2, q3⟩ := hO.pp hk; exact ⟨q, by omega, q3⟩)) ?_
  rintro u M' ⟨rfl, h1, h2⟩
  refine ⟨rfl, _, hZ.to h1 h2, fun j hj => x4_n ⟨⟨fun q => hj (by simp [q]), fun q => hj (by simp [q])⟩, fun q => hj (by simp [q]), fun q => hj (by simp [q])⟩, fun p p1 p2 => ?_⟩
  have e := sm_eq (m := X 1) (ct := X 22) (my := X 23) (B := (fl0 (X 24) 0 1001, fl0 (X 25) 0 1001, fl0 (X 26) 0 1001, fl0 (X 27) 0 1001)) ⟨fun j hj => fl0_in _ _ _ (by omega), fun j hj => fl0_in _ _ _ (by omega), fun j hj => fl0_in _ _ _ (by omega), fun j hj => fl0_in _ _ _ (by omega)⟩ p1 p2 (bn b) (fun k hk _ => hO.pp hk)
  rw [bs4_cm g0 (bn b) (Nat.le_refl _) hc hy] at e
  rw [← e]
  rfl
set_option maxRecDepth 20000 in
theorem m_crL {Q : Option Value → Wd → Prop} {k : Int32} {n : Nat} (hn : n ≤ 40) (hZ : MZ a M0 v L X M) (e8 : X 1 328 = nI n) (x7 : ∀ o, o < n → X 1 (339 + o) = xf b o) (kk : Q (some (.int (cno b n))) M) : Ev G mX6_crossed 43 [some (.ref (a 0)), some (.int k), some (.int 0), some (.int 0)] [] M 0 0 Q := by
  have KL : Ev G mX6_crossed 43 [some (.ref (a 0)), some (.int k), some (.int (cno b 0)), some (.int (nI 0))] [] M 0 0 Q := by
    refine ev_ind n (fun t => Ev G mX6_crossed 43 [some (.ref (a 0)), some (.int k), some (.int (cno b t)), some (.int (nI t))] [] M 0 0 Q) ?_ ?_
    · refine Ev.ild3 dX6_crossed_43 ?_
      refine Ev.ald0 dX6_crossed_44 ?_
      refine Ev.mgr (kx := 1) dX6_crossed_45 fX6_13 hZ rfl ?_
      refine Ev.sipush (v := 328) dX6_crossed_48 (by decide) ?_
      refine Ev.mld (j := 328) mq1 dX6_crossed_51 hZ (by first | assumption | (simp only [nI, Int32.ofNat_add, Int32.ofNat_mul]; done) | (simp only [nI, Int32.ofNat_add, Int32.ofNat_mul]; rfl) | rfl) (by omega) ?_
      (try simp only [ux_s, ux_n, ne_eq, Nat.reduceEqDiff, Nat.succ_ne_self, not_false_eq_true])
      rw [e8]
      refine Ev.icmp_ge (tgt := 84) dX6_crossed_52 (by decide) (fun c52 => ?_) (fun c52 => by first | exact absurd (Int32.le_refl _) c52 | exact absurd c52 (Int32.le_refl _))
      refine Ev.ild2 dX6_crossed_84 ?_
      refine Ev.iret dX6_crossed_85 rfl rfl ?_
      exact kk
    · intro t ht ih
      refine Ev.ild3 dX6_crossed_43 ?_
      refine Ev.ald0 dX6_crossed_44 ?_
      refine Ev.mgr (kx := 1) dX6_crossed_45 fX6_13 hZ rfl ?_
      refine Ev.sipush (v := 328) dX6_crossed_48 (by decide) ?_
      refine Ev.mld (j := 328) mq1 dX6_crossed_51 hZ (by first | assumption | (simp only [nI, Int32.ofNat_add, Int32.ofNat_mul]; done) | (simp only [nI, Int32.ofNat_add, Int32.ofNat_mul]; rfl) | rfl) (by omega) ?_
      (try simp only [ux_s, ux_n, ne_eq, Nat.reduceEqDiff, Nat.succ_ne_self, not_false_eq_true])
      rw [e8]
      refine Ev.icmp_ge (tgt := 84) dX6_crossed_52 (by decide) (fun c52 => by first | exact absurd c52 (nI_ge ht (by omega)) | exact absurd (nI_ge ht (by omega)) c52) (fun c52 => ?_)
      refine Ev.ild2 dX6_crossed_55 ?_
      refine Ev.ald0 dX6_crossed_56 ?_
      refine Ev.mgr (kx := 1) dX6_crossed_57 fX6_13 hZ rfl ?_
      refine Ev.sipush (v := 339) dX6_crossed_60 (by decide) ?_
      refine Ev.ild3 dX6_crossed_63 ?_
      refine Ev.iadd dX6_crossed_64 ?_
      refine Ev.mld (j := (339 + t)) mq1 dX6_crossed_65 hZ (by first | assumption | (simp only [nI, Int32.ofNat_add, Int32.ofNat_mul]; done) | (simp only [nI, Int32.ofNat_add, Int32.ofNat_mul]; rfl) | rfl) (by omega) ?_
      (try simp only [ux_s, ux_n, ne_eq, Nat.reduceEqDiff, Nat.succ_ne_self, not_false_eq_true])
      rw [x7 t ht]
      refine Ev.bipush (v := -2) dX6_crossed_66 (by decide) ?_
      refine Ev.icmp_ne (tgt := 75) dX6_crossed_68 (by decide) (fun c68 => ?_) (fun c68 => ?_)
      · refine Ev.iconst (v := 0) dX6_crossed_75 (by decide) ?_
        refine Ev.iadd dX6_crossed_76 ?_
        refine Ev.ist2 dX6_crossed_77 rfl rfl ?_
        apply Ev.iinc3 dX6_crossed_78 rfl rfl
        · first | exact nI_inc _ | rfl
        refine Ev.goto (tgt := 43) dX6_crossed_81 (by decide) ?_
        rw [cno, if_neg c68] at ih
        exact ih
      · refine Ev.iconst (v := 1) dX6_crossed_71 (by decide) ?_
        refine Ev.goto (tgt := 76) dX6_crossed_72 (by decide) ?_
        refine Ev.iadd dX6_crossed_76 ?_
        refine Ev.ist2 dX6_crossed_77 rfl rfl ?_
        apply Ev.iinc3 dX6_crossed_78 rfl rfl
        · first | exact nI_inc _ | rfl
        refine Ev.goto (tgt := 43) dX6_crossed_81 (by decide) ?_
        rw [cno, if_pos c68] at ih
        exact ih
  exact KL
theorem m_slA {sd : Nat} {p : Int32} (hZ : MZ a M0 v L X M) (hA : Ag (X 1) b) (hB : BW 41 b) (hsd : sd < 2) (hc : ∀ k, k < bn b → X 22 k = ct k) (hy : ∀ k, k < bn b → X 23 k = qt b k) : CtV G mX6_laysSlices [.ref (a 0), .int (nI sd), .int p] M 0 0 (fun M' => ∃ (v' : Nat → Int32) (X' : Nat → Nat → Int32), MZ a M0 v' L X' M' ∧ (∀ j, j ≠ 33 → v' j = v j) ∧ (∀ j, j ≠ 31 → j ≠ 32 → X' j = X j) ∧ v' 33 = nI (slp b ct (nI sd) p).length ∧ SG (X' 31) (X' 32) 0 (slp b ct (nI sd) p)) := by
  have hn := hB.2.1
  obtain ⟨g0, g1, g2, g3, g4, g5⟩ := hA
  have hO : OW (X 1) (bn b) := hB.2.2.1.cm g0.sy
  refine Ct.mono (m_laysSlices (n := bn b) hZ.1 hZ.2.1 (M0 := M) Fr.rf (g1.trans hB.1) hn (OW.rko hO hn)) ?_
  rintro u M' ⟨rfl, l, so, sm, hS, hr, hW1, hF1⟩
  have hS' : SLs b ct (qt b) (nI sd) p (bn b) l := hS.cm g0 hc hy
  obtain ⟨u1, u2, u3, u4, u5⟩ := slp_of hB.2.2.1 hn hsd hS'
  refine ⟨rfl, _, _, hZ.to hW1 hF1, fun j hj => pk_un hj, fun j q1 q2 => by rw [ux_n q2, ux_n q1], by rw [pk_us, u4], fun r q hq => ?_⟩
  rw [u1, List.getElem?_map] at hq
  obtain ⟨z, z1, rfl⟩ := Option.map_eq_some_iff.mp hq
  obtain ⟨y1, y2⟩ := hr r z z1
  rw [Nat.zero_add, ux_n (by decide), ux_s, ux_s]
  have zn := (hS.1 z (List.mem_of_getElem? z1)).1
  exact ⟨y1, y2.trans (ptf_cm g0 zn (hy _ zn))⟩
set_option maxRecDepth 20000 in
theorem m_crossed {k : Int32} (hS : Sok S) (hR : MR v X S) (hZ : MZ a M0 v L X M) : CtI G mX6_crossed [.ref (a 0), .int k] M 0 0 (fun x M' => ∃ (v' : Nat → Int32) (X' : Nat → Nat → Int32), MZ a M0 v' L X' M' ∧ MR v' X' S ∧ ((0 ≤ k ∧ k ≤ 6) ∧ v' 0 = 0 ∧ x = an_crossed S k ∨ ¬ (0 ≤ k ∧ k ≤ 6) ∧ v' 0 = 1)) := by
  have hB : BW 40 S.1.1 := hS.1.1
  have hn := hB.2.1
  by_cases hk : 0 ≤ k ∧ k ≤ 6
  · obtain ⟨j, hj, rfl⟩ := int_le (c := 6) (by omega) hk.1 hk.2
    refine Ct.of (ls := [some (.ref (a 0)), some (.int (nI j)), none, none]) (by decide) (by decide) rfl rfl rfl ?_
    refine Ev.ald0 dX6_crossed_0 ?_
    refine Ev.ild1 dX6_crossed_1 ?_
    refine Ev.i2l dX6_crossed_2 ?_
    refine Ev.lconst (v := 0) dX6_crossed_3 (by decide) ?_
    refine Ev.ldc2 dX6_crossed_4 kX6_317 ?_
    refine Ev.csI (Yc := mX6_within) dX6_crossed_7 lX6_93 vX6_within rfl (m_wI (y := 0) (z := 6) (by decide) (by decide)) rfl rfl rfl ?_
    rintro y7 M9 ⟨hy7, rfl⟩
    rw [if_pos hk] at hy7
    refine Ev.if_eq (tgt := 17) dX6_crossed_10 (by decide) (fun c10 => by first | exact absurd c10 (by rw [hy7]; decide) | exact absurd (by rw [hy7]; decide) c10) (fun c10 => ?_)
    refine Ev.iconst (v := 0) dX6_crossed_13 (by decide) ?_
    refine Ev.goto (tgt := 18) dX6_crossed_14 (by decide) ?_
    refine Ev.mput (kx := 0) dX6_crossed_18 fX6_1 hZ rfl rfl (fun M hZ => ?_)
    refine Ev.ald0 dX6_crossed_21 ?_
    refine Ev.mgv (kx := 0) dX6_crossed_22 fX6_1 hZ rfl ?_
    rw [pk_us]
    refine Ev.if_le (tgt := 30) dX6_crossed_25 (by decide) (fun c25 => ?_) (fun c25 => by first | exact absurd (by decide) c25 | exact absurd c25 (by decide))
    refine Ev.ald0 dX6_crossed_30 ?_
    refine Ev.cvV (Yc := mX6_lays) (ci := 6) dX6_crossed_31 lX6_314 vX6_lays rfl (m_lyS hS hR QT.rf.t hZ) ⟨_, hZ.2.1.1⟩ rfl rfl rfl rfl ?_
    rintro M1 ⟨v1, X1, hZ, t0, hR1, hx⟩
    rw [pk_us] at t0
    have e8 : X1 1 328 = nI (bn S.1.1) := hR1.1.1.2.1.trans hB.1
    have x7 := hx.2.2.2.2.2.2.1
    rw [bas_n hS] at x7
    refine Ev.ild1 dX6_crossed_34 ?_
    refine Ev.iconst (v := 5) dX6_crossed_35 (by decide) ?_
    refine Ev.icmp_ne (tgt := 86) dX6_crossed_36 (by decide) (fun c36 => ?_) (fun c36 => ?_)
    · refine Ev.ild1 dX6_crossed_86 ?_
      refine Ev.bipush (v := 6) dX6_crossed_87 (by decide) ?_
      refine Ev.icmp_ne (tgt := 103) dX6_crossed_89 (by decide) (fun c89 => ?_) (fun c89 => ?_)
      · refine Ev.ald0 dX6_crossed_103 ?_
        refine Ev.mgr (kx := 1) dX6_crossed_104 fX6_13 hZ rfl ?_
        refine Ev.sipush (v := 333) dX6_crossed_107 (by decide) ?_
        refine Ev.ild1 dX6_crossed_110 ?_
        refine Ev.iadd dX6_crossed_111 ?_
        refine Ev.mld (j := (333 + j)) mq1 dX6_crossed_112 hZ (by first | assumption | (simp only [nI, Int32.ofNat_add, Int32.ofNat_mul]; done) | (simp only [nI, Int32.ofNat_add, Int32.ofNat_mul]; rfl) | rfl) (by omega) ?_
        (try simp only [ux_s, ux_n, ne_eq, Nat.reduceEqDiff, Nat.succ_ne_self, not_false_eq_true])
        refine Ev.iret dX6_crossed_113 rfl rfl ?_
        exact ⟨_, rfl, v1, X1, hZ, hR1, Or.inl ⟨hk, t0, hx.at rfl (by have h5 : j ≠ 5 := fun q => c36 (by rw [q]; rfl); have h6 : j ≠ 6 := fun q => c89 (by rw [q]; rfl); omega)⟩⟩
      · refine Ev.ald0 dX6_crossed_92 ?_
        refine Ev.mgr (kx := 1) dX6_crossed_93 fX6_13 hZ rfl ?_
        refine Ev.sipush (v := 338) dX6_crossed_96 (by decide) ?_
        refine Ev.mld (j := 338) mq1 dX6_crossed_99 hZ (by first | assumption | (simp only [nI, Int32.ofNat_add, Int32.ofNat_mul]; done) | (simp only [nI, Int32.ofNat_add, Int32.ofNat_mul]; rfl) | rfl) (by omega) ?_
        (try simp only [ux_s, ux_n, ne_eq, Nat.reduceEqDiff, Nat.succ_ne_self, not_false_eq_true])
        refine Ev.goto (tgt := 113) dX6_crossed_100 (by decide) ?_
        refine Ev.iret dX6_crossed_113 rfl rfl ?_
        refine ⟨_, rfl, v1, X1, hZ, hR1, Or.inl ⟨hk, t0, ?_⟩⟩
        rw [an_crossed, c89, if_neg (by decide), if_neg (by decide), if_neg (by decide), if_neg (by decide), if_neg (by decide), if_neg (by decide)]
        exact hx.2.2.2.2.2.1
    · refine Ev.iconst (v := 0) dX6_crossed_39 (by decide) ?_
      refine Ev.ist2 dX6_crossed_40 rfl rfl ?_
      refine Ev.iconst (v := 0) dX6_crossed_41 (by decide) ?_
      refine Ev.ist3 dX6_crossed_42 rfl rfl ?_
      refine m_crL hn hZ e8 x7 ⟨_, rfl, v1, X1, hZ, hR1, Or.inl ⟨hk, t0, ?_⟩⟩
      rw [an_crossed, c36, if_neg (by decide), if_neg (by decide), if_neg (by decide), if_neg (by decide), if_neg (by decide), if_pos rfl]
  · refine Ct.of (ls := [some (.ref (a 0)), some (.int k), none, none]) (by decide) (by decide) rfl rfl rfl ?_
    refine Ev.ald0 dX6_crossed_0 ?_
    refine Ev.ild1 dX6_crossed_1 ?_
    refine Ev.i2l dX6_crossed_2 ?_
    refine Ev.lconst (v := 0) dX6_crossed_3 (by decide) ?_
    refine Ev.ldc2 dX6_crossed_4 kX6_317 ?_
    refine Ev.csI (Yc := mX6_within) dX6_crossed_7 lX6_93 vX6_within rfl (m_wI (y := 0) (z := 6) (by decide) (by decide)) rfl rfl rfl ?_
    rintro y7 M9 ⟨hy7, rfl⟩
    rw [if_neg hk] at hy7
    refine Ev.if_eq (tgt := 17) dX6_crossed_10 (by decide) (fun c10 => ?_) (fun c10 => by first | exact absurd hy7 c10 | exact absurd c10 hy7)
    refine Ev.iconst (v := 1) dX6_crossed_17 (by decide) ?_
    refine Ev.mput (kx := 0) dX6_crossed_18 fX6_1 hZ rfl rfl (fun M hZ => ?_)
    refine Ev.ald0 dX6_crossed_21 ?_
    refine Ev.mgv (kx := 0) dX6_crossed_22 fX6_1 hZ rfl ?_
    rw [pk_us]
    refine Ev.if_le (tgt := 30) dX6_crossed_25 (by decide) (fun c25 => by first | exact absurd c25 (by decide) | exact absurd (by decide) c25) (fun c25 => ?_)
    refine Ev.iconst (v := 0) dX6_crossed_28 (by decide) ?_
    refine Ev.iret dX6_crossed_29 rfl rfl ?_
    exact ⟨_, rfl, _, _, hZ, hR.q QT.rf.t hR.1, Or.inr ⟨hk, pk_us⟩⟩
set_option maxRecDepth 20000 in
theorem m_trade {i k : Int32} (hS : Sok S) (hR : MR v X S) (hZ : MZ a M0 v L X M) : CtI G mX6_trade [.ref (a 0), .int i, .int k] M 0 0 (fun x M' => x = an_trade S i k ∧ ∃ (v' : Nat → Int32) (X' : Nat → Nat → Int32), MZ a M0 v' L X' M' ∧ MR v' X' S) := by
  have hB : BW 40 S.1.1 := hS.1.1
  have hn := hB.2.1
  have hlen : (xT (bas S)).length ≤ 160 := by have := xT_len (b := bas S); rw [bas_n hS] at this; omega
  by_cases hk : 0 ≤ k ∧ k ≤ 2
  · obtain ⟨j, hj, rfl⟩ := int_le (c := 2) (by omega) hk.1 hk.2
    by_cases hi : i = -1
    · rw [an_trade, if_neg (fun z => z hk), if_pos hi]
      subst hi
      refine Ct.of (ls := [some (.ref (a 0)), some (.int (-1)), some (.int (nI j))]) (by decide) (by decide) rfl rfl rfl ?_
      refine Ev.ald0 dX6_trade_0 ?_
      refine Ev.iconst (v := 0) dX6_trade_1 (by decide) ?_
      refine Ev.mput (kx := 0) dX6_trade_2 fX6_1 hZ rfl rfl (fun M hZ => ?_)
      refine Ev.ild2 dX6_trade_5 ?_
      refine Ev.i2l dX6_trade_6 ?_
      refine Ev.lconst (v := 0) dX6_trade_7 (by decide) ?_
      refine Ev.ldc2 dX6_trade_8 kX6_319 ?_
      refine Ev.csI (Yc := mX6_within) dX6_trade_11 lX6_93 vX6_within rfl (m_wI (y := 0) (z := 2) (by decide) (by decide)) rfl rfl rfl ?_
      rintro y11 M9 ⟨hy11, rfl⟩
      rw [if_pos hk] at hy11
      refine Ev.if_ne (tgt := 19) dX6_trade_14 (by decide) (fun c14 => ?_) (fun c14 => by first | exact absurd (by rw [hy11]; decide) c14 | exact absurd c14 (by rw [hy11]; decide))
      refine Ev.ald0 dX6_trade_19 ?_
      refine Ev.cvV (Yc := mX6_lays) (ci := 6) dX6_trade_20 lX6_314 vX6_lays rfl (m_lyS hS hR QT.rf.t hZ) ⟨_, hZ.2.1.1⟩ rfl rfl rfl rfl ?_
      rintro M1 ⟨v1, X1, hZ, t0, hR1, hx⟩
      refine Ev.ild1 dX6_trade_23 ?_
      refine Ev.iconst (v := -1) dX6_trade_24 (by decide) ?_
      refine Ev.icmp_ne (tgt := 37) dX6_trade_25 (by decide) (fun c25 => by first | exact absurd c25 rfl | exact absurd rfl c25) (fun c25 => ?_)
      refine Ev.ald0 dX6_trade_28 ?_
      refine Ev.mgr (kx := 1) dX6_trade_29 fX6_13 hZ rfl ?_
      refine Ev.sipush (v := 708) dX6_trade_32 (by decide) ?_
      refine Ev.mld (j := 708) mq1 dX6_trade_35 hZ (by first | assumption | (simp only [nI, Int32.ofNat_add, Int32.ofNat_mul]; done) | (simp only [nI, Int32.ofNat_add, Int32.ofNat_mul]; rfl) | rfl) (by omega) ?_
      (try simp only [ux_s, ux_n, ne_eq, Nat.reduceEqDiff, Nat.succ_ne_self, not_false_eq_true])
      refine Ev.iret dX6_trade_36 rfl rfl ?_
      exact ⟨_, rfl, hx.2.2.2.2.2.2.2.2.1, _, _, hZ, hR1⟩
    · rw [an_trade, if_neg (fun z => z hk), if_neg hi]
      by_cases hin : 0 ≤ i ∧ i ≤ nI (xT (bas S)).length - 1
      · rw [if_pos hin]
        obtain ⟨r, hr, rfl⟩ : ∃ r, r < (xT (bas S)).length ∧ i = nI r := by
          by_cases h0 : (xT (bas S)).length = 0
          · rw [h0] at hin
            exact absurd (Int32.le_trans hin.1 hin.2) (by decide)
          · have e : nI (xT (bas S)).length - 1 = nI ((xT (bas S)).length - 1) := nI_subI (b := 1) (by omega)
            rw [e] at hin
            obtain ⟨r, r1, r2⟩ := int_le (by omega) hin.1 hin.2
            exact ⟨r, by omega, r2⟩
        rw [nI_clamp (by omega), List.getElem?_eq_getElem hr]
        refine Ct.of (ls := [some (.ref (a 0)), some (.int (nI r)), some (.int (nI j))]) (by decide) (by decide) rfl rfl rfl ?_
        refine Ev.ald0 dX6_trade_0 ?_
        refine Ev.iconst (v := 0) dX6_trade_1 (by decide) ?_
        refine Ev.mput (kx := 0) dX6_trade_2 fX6_1 hZ rfl rfl (fun M hZ => ?_)
        refine Ev.ild2 dX6_trade_5 ?_
        refine Ev.i2l dX6_trade_6 ?_
        refine Ev.lconst (v := 0) dX6_trade_7 (by decide) ?_
        refine Ev.ldc2 dX6_trade_8 kX6_319 ?_
        refine Ev.csI (Yc := mX6_within) dX6_trade_11 lX6_93 vX6_within rfl (m_wI (y := 0) (z := 2) (by decide) (by decide)) rfl rfl rfl ?_
        rintro y11 M9 ⟨hy11, rfl⟩
        rw [if_pos hk] at hy11
        refine Ev.if_ne (tgt := 19) dX6_trade_14 (by decide) (fun c14 => ?_) (fun c14 => by first | exact absurd (by rw [hy11]; decide) c14 | exact absurd c14 (by rw [hy11]; decide))
        refine Ev.ald0 dX6_trade_19 ?_
        refine Ev.cvV (Yc := mX6_lays) (ci := 6) dX6_trade_20 lX6_314 vX6_lays rfl (m_lyS hS hR QT.rf.t hZ) ⟨_, hZ.2.1.1⟩ rfl rfl rfl rfl ?_
        rintro M1 ⟨v1, X1, hZ, t0, hR1, hx⟩
        have hT := hx.2.2.2.2.2.2.2.2
        have hq := hT.2 r _ (List.getElem?_eq_getElem hr)
        refine Ev.ild1 dX6_trade_23 ?_
        refine Ev.iconst (v := -1) dX6_trade_24 (by decide) ?_
        refine Ev.icmp_ne (tgt := 37) dX6_trade_25 (by decide) (fun c25 => ?_) (fun c25 => by first | exact absurd hi c25 | exact absurd c25 hi)
        refine Ev.ild1 dX6_trade_37 ?_
        refine Ev.i2l dX6_trade_38 ?_
        refine Ev.lconst (v := 0) dX6_trade_39 (by decide) ?_
        refine Ev.ald0 dX6_trade_40 ?_
        refine Ev.mgr (kx := 1) dX6_trade_41 fX6_13 hZ rfl ?_
        refine Ev.sipush (v := 708) dX6_trade_44 (by decide) ?_
        refine Ev.mld (j := 708) mq1 dX6_trade_47 hZ (by first | assumption | (simp only [nI, Int32.ofNat_add, Int32.ofNat_mul]; done) | (simp only [nI, Int32.ofNat_add, Int32.ofNat_mul]; rfl) | rfl) (by omega) ?_
        (try simp only [ux_s, ux_n, ne_eq, Nat.reduceEqDiff, Nat.succ_ne_self, not_false_eq_true])
        rw [hT.1]
        refine Ev.iconst (v := 1) dX6_trade_48 (by decide) ?_
        refine Ev.isub dX6_trade_49 ?_
        refine Ev.i2l dX6_trade_50 ?_
        refine Ev.csI (Yc := mX6_within) dX6_trade_51 lX6_93 vX6_within rfl (m_wI (y := 0) (z := nI (xT (bas S)).length - 1) (by decide) rfl) rfl rfl rfl ?_
        rintro y51 M9 ⟨hy51, rfl⟩
        rw [if_pos hin] at hy51
        refine Ev.if_eq (tgt := 74) dX6_trade_54 (by decide) (fun c54 => by first | exact absurd c54 (by rw [hy51]; decide) | exact absurd (by rw [hy51]; decide) c54) (fun c54 => ?_)
        refine Ev.ald0 dX6_trade_57 ?_
        refine Ev.mgr (kx := 1) dX6_trade_58 fX6_13 hZ rfl ?_
        refine Ev.sipush (v := 709) dX6_trade_61 (by decide) ?_
        refine Ev.iconst (v := 3) dX6_trade_64 (by decide) ?_
        refine Ev.ild1 dX6_trade_65 ?_
        refine Ev.imul dX6_trade_66 ?_
        refine Ev.iadd dX6_trade_67 ?_
        refine Ev.ild2 dX6_trade_68 ?_
        refine Ev.iadd dX6_trade_69 ?_
        refine Ev.mld (j := ((709 + (3 * r)) + j)) mq1 dX6_trade_70 hZ (by first | assumption | (simp only [nI, Int32.ofNat_add, Int32.ofNat_mul]; done) | (simp only [nI, Int32.ofNat_add, Int32.ofNat_mul]; rfl) | rfl) (by omega) ?_
        (try simp only [ux_s, ux_n, ne_eq, Nat.reduceEqDiff, Nat.succ_ne_self, not_false_eq_true])
        refine Ev.goto (tgt := 75) dX6_trade_71 (by decide) ?_
        refine Ev.iret dX6_trade_75 rfl rfl ?_
        refine ⟨_, rfl, ?_, _, _, hZ, hR1⟩
        have : j = 0 ∨ j = 1 ∨ j = 2 := by omega
        rcases this with rfl | rfl | rfl
        · exact hq.1
        · exact hq.2.1
        · exact hq.2.2
      · rw [if_neg hin]
        refine Ct.of (ls := [some (.ref (a 0)), some (.int i), some (.int (nI j))]) (by decide) (by decide) rfl rfl rfl ?_
        refine Ev.ald0 dX6_trade_0 ?_
        refine Ev.iconst (v := 0) dX6_trade_1 (by decide) ?_
        refine Ev.mput (kx := 0) dX6_trade_2 fX6_1 hZ rfl rfl (fun M hZ => ?_)
        refine Ev.ild2 dX6_trade_5 ?_
        refine Ev.i2l dX6_trade_6 ?_
        refine Ev.lconst (v := 0) dX6_trade_7 (by decide) ?_
        refine Ev.ldc2 dX6_trade_8 kX6_319 ?_
        refine Ev.csI (Yc := mX6_within) dX6_trade_11 lX6_93 vX6_within rfl (m_wI (y := 0) (z := 2) (by decide) (by decide)) rfl rfl rfl ?_
        rintro y11 M9 ⟨hy11, rfl⟩
        rw [if_pos hk] at hy11
        refine Ev.if_ne (tgt := 19) dX6_trade_14 (by decide) (fun c14 => ?_) (fun c14 => by first | exact absurd (by rw [hy11]; decide) c14 | exact absurd c14 (by rw [hy11]; decide))
        refine Ev.ald0 dX6_trade_19 ?_
        refine Ev.cvV (Yc := mX6_lays) (ci := 6) dX6_trade_20 lX6_314 vX6_lays rfl (m_lyS hS hR QT.rf.t hZ) ⟨_, hZ.2.1.1⟩ rfl rfl rfl rfl ?_
        rintro M1 ⟨v1, X1, hZ, t0, hR1, hx⟩
        have hT := hx.2.2.2.2.2.2.2.2
        refine Ev.ild1 dX6_trade_23 ?_
        refine Ev.iconst (v := -1) dX6_trade_24 (by decide) ?_
        refine Ev.icmp_ne (tgt := 37) dX6_trade_25 (by decide) (fun c25 => ?_) (fun c25 => by first | exact absurd hi c25 | exact absurd c25 hi)
        refine Ev.ild1 dX6_trade_37 ?_
        refine Ev.i2l dX6_trade_38 ?_
        refine Ev.lconst (v := 0) dX6_trade_39 (by decide) ?_
        refine Ev.ald0 dX6_trade_40 ?_
        refine Ev.mgr (kx := 1) dX6_trade_41 fX6_13 hZ rfl ?_
        refine Ev.sipush (v := 708) dX6_trade_44 (by decide) ?_
        refine Ev.mld (j := 708) mq1 dX6_trade_47 hZ (by first | assumption | (simp only [nI, Int32.ofNat_add, Int32.ofNat_mul]; done) | (simp only [nI, Int32.ofNat_add, Int32.ofNat_mul]; rfl) | rfl) (by omega) ?_
        (try simp only [ux_s, ux_n, ne_eq, Nat.reduceEqDiff, Nat.succ_ne_self, not_false_eq_true])
        rw [hT.1]
        refine Ev.iconst (v := 1) dX6_trade_48 (by decide) ?_
        refine Ev.isub dX6_trade_49 ?_
        refine Ev.i2l dX6_trade_50 ?_
        refine Ev.csI (Yc := mX6_within) dX6_trade_51 lX6_93 vX6_within rfl (m_wI (y := 0) (z := nI (xT (bas S)).length - 1) (by decide) rfl) rfl rfl rfl ?_
        rintro y51 M9 ⟨hy51, rfl⟩
        rw [if_neg hin] at hy51
        refine Ev.if_eq (tgt := 74) dX6_trade_54 (by decide) (fun c54 => ?_) (fun c54 => by first | exact absurd hy51 c54 | exact absurd c54 hy51)
        refine Ev.iconst (v := -1) dX6_trade_74 (by decide) ?_
        refine Ev.iret dX6_trade_75 rfl rfl ?_
        exact ⟨_, rfl, rfl, _, _, hZ, hR1⟩
  · rw [an_trade, if_pos hk]
    refine Ct.of (ls := [some (.ref (a 0)), some (.int i), some (.int k)]) (by decide) (by decide) rfl rfl rfl ?_
    refine Ev.ald0 dX6_trade_0 ?_
    refine Ev.iconst (v := 0) dX6_trade_1 (by decide) ?_
    refine Ev.mput (kx := 0) dX6_trade_2 fX6_1 hZ rfl rfl (fun M hZ => ?_)
    refine Ev.ild2 dX6_trade_5 ?_
    refine Ev.i2l dX6_trade_6 ?_
    refine Ev.lconst (v := 0) dX6_trade_7 (by decide) ?_
    refine Ev.ldc2 dX6_trade_8 kX6_319 ?_
    refine Ev.csI (Yc := mX6_within) dX6_trade_11 lX6_93 vX6_within rfl (m_wI (y := 0) (z := 2) (by decide) (by decide)) rfl rfl rfl ?_
    rintro y11 M9 ⟨hy11, rfl⟩
    rw [if_neg hk] at hy11
    refine Ev.if_ne (tgt := 19) dX6_trade_14 (by decide) (fun c14 => by first | exact absurd c14 hy11 | exact absurd hy11 c14) (fun c14 => ?_)
    refine Ev.iconst (v := -1) dX6_trade_17 (by decide) ?_
    refine Ev.iret dX6_trade_18 rfl rfl ?_
    exact ⟨_, rfl, rfl, _, _, hZ, hR.q QT.rf.t hR.1⟩
set_option maxRecDepth 20000 in
theorem m_slice {s p i k : Int32} (hS : Sok S) (hR : MR v X S) (hZ : MZ a M0 v L X M) : CtI G mX6_slice [.ref (a 0), .int s, .int p, .int i, .int k] M 0 0 (fun x M' => x = an_slice S s p i k ∧ ∃ (v' : Nat → Int32) (X' : Nat → Nat → Int32), MZ a M0 v' L X' M' ∧ MR v' X' S) := by
  have hB : BW 40 S.1.1 := hS.1.1
  have hn := hB.2.1
  by_cases hok : (0 ≤ s ∧ s ≤ 1) ∧ (1 ≤ p ∧ p ≤ 999) ∧ ¬ i < -1 ∧ (0 ≤ k ∧ k ≤ 1)
  · rw [an_slice, if_pos hok]
    obtain ⟨h1, h2, h3, h4⟩ := hok
    obtain ⟨sd, hsd, rfl⟩ := int_le (c := 1) (by omega) h1.1 h1.2
    obtain ⟨j, hj, rfl⟩ := int_le (c := 1) (by omega) h4.1 h4.2
    have hl := slp_len (b := S.1.1) (ct := ct0 S.1.1 (-1)) (sd := nI sd) (p := p)
    have J : ∀ (v0 : Nat → Int32) (M : Wd) (Q : Option Value → Wd → Prop), MZ a M0 v0 L X M → QT v v0 X X → (∀ (v2 : Nat → Int32) (X2 : Nat → Nat → Int32) (M2 : Wd), MZ a M0 v2 L X2 M2 → MR v2 X2 S → v2 33 = nI (slp S.1.1 (ct0 S.1.1 (-1)) (nI sd) p).length → SG (X2 31) (X2 32) 0 (slp S.1.1 (ct0 S.1.1 (-1)) (nI sd) p) → Ev G mX6_slice 55 [some (.ref (a 0)), some (.int (nI sd)), some (.int p), some (.int i), some (.int (nI j))] [] M2 0 0 Q) → Ev G mX6_slice 45 [some (.ref (a 0)), some (.int (nI sd)), some (.int p), some (.int i), some (.int (nI j))] [] M 0 0 Q := by
      intro v0 M Q hZ hq kk
      refine Ev.ald0 dX6_slice_45 ?_
      refine Ev.cvV (Yc := mX6_countsAll) (ci := 6) dX6_slice_46 lX6_260 vX6_countsAll rfl (m_ctA hZ hR.1.1 (hB.mono (by omega))) ⟨_, hZ.2.1.1⟩ rfl rfl rfl rfl ?_
      rintro M1 ⟨X1, hZ, a1, a2, a3⟩
      refine Ev.ald0 dX6_slice_49 ?_
      refine Ev.ild1 dX6_slice_50 ?_
      refine Ev.ild2 dX6_slice_51 ?_
      refine Ev.cvV (Yc := mX6_laysSlices) (ci := 6) dX6_slice_52 lX6_254 vX6_laysSlices rfl (m_slA (b := S.1.1) hZ (by rw [a1 1 (by decide) (by decide)]; exact hR.1.1) (hB.mono (by omega)) (by omega) a2 a3) ⟨_, hZ.2.1.1⟩ rfl rfl rfl rfl ?_
      rintro M2 ⟨v2, X2, hZ, b1, b2, b3, b4⟩
      refine kk v2 X2 M2 hZ ?_ b3 b4
      have x : ∀ j, j ≠ 22 → j ≠ 23 → j ≠ 31 → j ≠ 32 → X2 j = X j := fun j q1 q2 q3 q4 => (b2 j q3 q4).trans (a1 j q1 q2)
      refine hR.q (hq.tr ⟨b1 3 (by decide), b1 5 (by decide), b1 6 (by decide), b1 8 (by decide), x 2 (by decide) (by decide) (by decide) (by decide), x 4 (by decide) (by decide) (by decide) (by decide), x 7 (by decide) (by decide) (by decide) (by decide)⟩) ?_
      rw [x 1 (by decide) (by decide) (by decide) (by decide)]
      exact hR.1
    have K : ∀ (v2 : Nat → Int32) (X2 : Nat → Nat → Int32) (M2 : Wd), MZ a M0 v2 L X2 M2 → MR v2 X2 S → v2 33 = nI (slp S.1.1 (ct0 S.1.1 (-1)) (nI sd) p).length → SG (X2 31) (X2 32) 0 (slp S.1.1 (ct0 S.1.1 (-1)) (nI sd) p) → Ev G mX6_slice 55 [some (.ref (a 0)), some (.int (nI sd)), some (.int p), some (.int i), some (.int (nI j))] [] M2 0 0 (fun u M' => ∃ x, u = some (.int x) ∧ x = (if i = -1 then nI (slp S.1.1 (ct0 S.1.1 (-1)) (nI sd) p).length else if i < nI (slp S.1.1 (ct0 S.1.1 (-1)) (nI sd) p).length then slq ((slp S.1.1 (ct0 S.1.1 (-1)) (nI sd) p)[i.toNatClampNeg]?) (nI j) else -1) ∧ ∃ (v' : Nat → Int32) (X' : Nat → Nat → Int32), MZ a M0 v' L X' M' ∧ MR v' X' S) := by
      intro v2 X2 M hZ hR2 e33 hG
      generalize hll : slp S.1.1 (ct0 S.1.1 (-1)) (nI sd) p = l at hl e33 hG
      by_cases hi : i = -1
      · rw [if_pos hi]
        subst hi
        refine Ev.ild3 dX6_slice_55 ?_
        refine Ev.iconst (v := -1) dX6_slice_56 (by decide) ?_
        refine Ev.icmp_ne (tgt := 65) dX6_slice_57 (by decide) (fun c57 => by first | exact absurd c57 rfl | exact absurd rfl c57) (fun c57 => ?_)
        refine Ev.ald0 dX6_slice_60 ?_
        refine Ev.mgv (kx := 33) dX6_slice_61 fX6_242 hZ rfl ?_
        refine Ev.iret dX6_slice_64 rfl rfl ?_
        exact ⟨_, rfl, e33, _, _, hZ, hR2⟩
      · rw [if_neg hi]
        have h0 : ¬ i < 0 := by
          intro q
          have q1 := Int32.lt_iff_toInt_lt.mp q
          have q2 : ¬ i.toInt < -1 := fun z => h3 (Int32.lt_iff_toInt_lt.mpr z)
          have q3 : i.toInt ≠ -1 := fun z => hi (Int32.toInt_inj.mp z)
          have : (0 : Int32).toInt = 0 := rfl
          omega
        obtain ⟨r, hr, rfl⟩ := nI_of h0
        by_cases hlt : nI r < nI l.length
        · rw [if_pos hlt]
          have hr2 : r < l.length := (nI_ltI hr (by omega)).mp hlt
          rw [nI_clamp (by omega), List.getElem?_eq_getElem hr2]
          have hg := hG r _ (List.getElem?_eq_getElem hr2)
          rw [Nat.zero_add] at hg
          refine Ev.ild3 dX6_slice_55 ?_
          refine Ev.iconst (v := -1) dX6_slice_56 (by decide) ?_
          refine Ev.icmp_ne (tgt := 65) dX6_slice_57 (by decide) (fun c57 => ?_) (fun c57 => by first | exact absurd hi c57 | exact absurd c57 hi)
          refine Ev.ild3 dX6_slice_65 ?_
          refine Ev.ald0 dX6_slice_66 ?_
          refine Ev.mgv (kx := 33) dX6_slice_67 fX6_242 hZ rfl ?_
          rw [e33]
          refine Ev.icmp_lt (tgt := 77) dX6_slice_70 (by decide) (fun c70 => ?_) (fun c70 => by first | exact absurd hlt c70 | exact absurd c70 hlt)
          refine Ev.ild4 dX6_slice_77 ?_
          refine Ev.if_ne (tgt := 91) dX6_slice_79 (by decide) (fun c79 => ?_) (fun c79 => ?_)
          · refine Ev.ald0 dX6_slice_91 ?_
            refine Ev.mgr (kx := 32) dX6_slice_92 fX6_52 hZ rfl ?_
            refine Ev.ild3 dX6_slice_95 ?_
            refine Ev.mld (j := r) mq32 dX6_slice_96 hZ (by first | assumption | (simp only [nI, Int32.ofNat_add, Int32.ofNat_mul]; done) | (simp only [nI, Int32.ofNat_add, Int32.ofNat_mul]; rfl) | rfl) (by omega) ?_
            (try simp only [ux_s, ux_n, ne_eq, Nat.reduceEqDiff, Nat.succ_ne_self, not_false_eq_true])
            rw [hg.2]
            refine Ev.iret dX6_slice_97 rfl rfl ?_
            exact ⟨_, rfl, by rw [slq, if_neg c79], _, _, hZ, hR2⟩
          · refine Ev.ald0 dX6_slice_82 ?_
            refine Ev.mgr (kx := 31) dX6_slice_83 fX6_49 hZ rfl ?_
            refine Ev.ild3 dX6_slice_86 ?_
            refine Ev.mld (j := r) mq31 dX6_slice_87 hZ (by first | assumption | (simp only [nI, Int32.ofNat_add, Int32.ofNat_mul]; done) | (simp only [nI, Int32.ofNat_add, Int32.ofNat_mul]; rfl) | rfl) (by omega) ?_
            (try simp only [ux_s, ux_n, ne_eq, Nat.reduceEqDiff, Nat.succ_ne_self, not_false_eq_true])
            rw [hg.1]
            refine Ev.goto (tgt := 97) dX6_slice_88 (by decide) ?_
            refine Ev.iret dX6_slice_97 rfl rfl ?_
            exact ⟨_, rfl, by rw [slq, if_pos c79], _, _, hZ, hR2⟩
        · rw [if_neg hlt]
          refine Ev.ild3 dX6_slice_55 ?_
          refine Ev.iconst (v := -1) dX6_slice_56 (by decide) ?_
          refine Ev.icmp_ne (tgt := 65) dX6_slice_57 (by decide) (fun c57 => ?_) (fun c57 => by first | exact absurd hi c57 | exact absurd c57 hi)
          refine Ev.ild3 dX6_slice_65 ?_
          refine Ev.ald0 dX6_slice_66 ?_
          refine Ev.mgv (kx := 33) dX6_slice_67 fX6_242 hZ rfl ?_
          rw [e33]
          refine Ev.icmp_lt (tgt := 77) dX6_slice_70 (by decide) (fun c70 => by first | exact absurd c70 hlt | exact absurd hlt c70) (fun c70 => ?_)
          refine Ev.iconst (v := -1) dX6_slice_73 (by decide) ?_
          refine Ev.goto (tgt := 97) dX6_slice_74 (by decide) ?_
          refine Ev.iret dX6_slice_97 rfl rfl ?_
          exact ⟨_, rfl, rfl, _, _, hZ, hR2⟩
    refine Ct.of (ls := [some (.ref (a 0)), some (.int (nI sd)), some (.int p), some (.int i), some (.int (nI j))]) (by decide) (by decide) rfl rfl rfl ?_
    refine Ev.ald0 dX6_slice_0 ?_
    refine Ev.iconst (v := 0) dX6_slice_1 (by decide) ?_
    refine Ev.mput (kx := 0) dX6_slice_2 fX6_1 hZ rfl rfl (fun M hZ => ?_)
    refine Ev.ild1 dX6_slice_5 ?_
    refine Ev.i2l dX6_slice_6 ?_
    refine Ev.lconst (v := 0) dX6_slice_7 (by decide) ?_
    refine Ev.lconst (v := 1) dX6_slice_8 (by decide) ?_
    refine Ev.csI (Yc := mX6_within) dX6_slice_9 lX6_93 vX6_within rfl (m_wI (y := 0) (z := 1) (by decide) (by decide)) rfl rfl rfl ?_
    rintro y9 M9 ⟨hy9, rfl⟩
    rw [if_pos h1] at hy9
    refine Ev.if_eq (tgt := 43) dX6_slice_12 (by decide) (fun c12 => by first | exact absurd c12 (by rw [hy9]; decide) | exact absurd (by rw [hy9]; decide) c12) (fun c12 => ?_)
    refine Ev.ild2 dX6_slice_15 ?_
    refine Ev.i2l dX6_slice_16 ?_
    refine Ev.lconst (v := 1) dX6_slice_17 (by decide) ?_
    refine Ev.ldc2 dX6_slice_18 kX6_288 ?_
    refine Ev.csI (Yc := mX6_within) dX6_slice_21 lX6_93 vX6_within rfl (m_wI (y := 1) (z := 999) (by decide) (by decide)) rfl rfl rfl ?_
    rintro y21 M9 ⟨hy21, rfl⟩
    rw [if_pos h2] at hy21
    refine Ev.if_eq (tgt := 43) dX6_slice_24 (by decide) (fun c24 => by first | exact absurd c24 (by rw [hy21]; decide) | exact absurd (by rw [hy21]; decide) c24) (fun c24 => ?_)
    refine Ev.ild3 dX6_slice_27 ?_
    refine Ev.iconst (v := -1) dX6_slice_28 (by decide) ?_
    refine Ev.icmp_lt (tgt := 43) dX6_slice_29 (by decide) (fun c29 => by first | exact absurd c29 h3 | exact absurd h3 c29) (fun c29 => ?_)
    refine Ev.ild4 dX6_slice_32 ?_
    refine Ev.i2l dX6_slice_34 ?_
    refine Ev.lconst (v := 0) dX6_slice_35 (by decide) ?_
    refine Ev.lconst (v := 1) dX6_slice_36 (by decide) ?_
    refine Ev.csI (Yc := mX6_within) dX6_slice_37 lX6_93 vX6_within rfl (m_wI (y := 0) (z := 1) (by decide) (by decide)) rfl rfl rfl ?_
    rintro y37 M9 ⟨hy37, rfl⟩
    rw [if_pos h4] at hy37
    refine Ev.if_ne (tgt := 45) dX6_slice_40 (by decide) (fun c40 => ?_) (fun c40 => by first | exact absurd (by rw [hy37]; decide) c40 | exact absurd c40 (by rw [hy37]; decide))
    exact J _ _ _ hZ QT.rf.t K
  · rw [an_slice, if_neg hok]
    refine Ct.of (ls := [some (.ref (a 0)), some (.int s), some (.int p), some (.int i), some (.int k)]) (by decide) (by decide) rfl rfl rfl ?_
    refine Ev.ald0 dX6_slice_0 ?_
    refine Ev.iconst (v := 0) dX6_slice_1 (by decide) ?_
    refine Ev.mput (kx := 0) dX6_slice_2 fX6_1 hZ rfl rfl (fun M hZ => ?_)
    refine Ev.ild1 dX6_slice_5 ?_
    refine Ev.i2l dX6_slice_6 ?_
    refine Ev.lconst (v := 0) dX6_slice_7 (by decide) ?_
    refine Ev.lconst (v := 1) dX6_slice_8 (by decide) ?_
    refine Ev.csI (Yc := mX6_within) dX6_slice_9 lX6_93 vX6_within rfl (m_wI (y := 0) (z := 1) (by decide) (by decide)) rfl rfl rfl ?_
    rintro y9 M9 ⟨hy9, rfl⟩
    refine Ev.if_eq (tgt := 43) dX6_slice_12 (by decide) (fun c12 => ?_) (fun c12 => ?_)
    · refine Ev.iconst (v := -1) dX6_slice_43 (by decide) ?_
      refine Ev.iret dX6_slice_44 rfl rfl ?_
      exact ⟨_, rfl, rfl, _, _, hZ, hR.q QT.rf.t hR.1⟩
    · refine Ev.ild2 dX6_slice_15 ?_
      refine Ev.i2l dX6_slice_16 ?_
      refine Ev.lconst (v := 1) dX6_slice_17 (by decide) ?_
      refine Ev.ldc2 dX6_slice_18 kX6_288 ?_
      refine Ev.csI (Yc := mX6_within) dX6_slice_21 lX6_93 vX6_within rfl (m_wI (y := 1) (z := 999) (by decide) (by decide)) rfl rfl rfl ?_
      rintro y21 M9 ⟨hy21, rfl⟩
      refine Ev.if_eq (tgt := 43) dX6_slice_24 (by decide) (fun c24 => ?_) (fun c24 => ?_)
      · refine Ev.iconst (v := -1) dX6_slice_43 (by decide) ?_
        refine Ev.iret dX6_slice_44 rfl rfl ?_
        exact ⟨_, rfl, rfl, _, _, hZ, hR.q QT.rf.t hR.1⟩
      · refine Ev.ild3 dX6_slice_27 ?_
        refine Ev.iconst (v := -1) dX6_slice_28 (by decide) ?_
        refine Ev.icmp_lt (tgt := 43) dX6_slice_29 (by decide) (fun c29 => ?_) (fun c29 => ?_)
        · refine Ev.iconst (v := -1) dX6_slice_43 (by decide) ?_
          refine Ev.iret dX6_slice_44 rfl rfl ?_
          exact ⟨_, rfl, rfl, _, _, hZ, hR.q QT.rf.t hR.1⟩
        · refine Ev.ild4 dX6_slice_32 ?_
          refine Ev.i2l dX6_slice_34 ?_
          refine Ev.lconst (v := 0) dX6_slice_35 (by decide) ?_
          refine Ev.lconst (v := 1) dX6_slice_36 (by decide) ?_
          refine Ev.csI (Yc := mX6_within) dX6_slice_37 lX6_93 vX6_within rfl (m_wI (y := 0) (z := 1) (by decide) (by decide)) rfl rfl rfl ?_
          rintro y37 M9 ⟨hy37, rfl⟩
          refine Ev.if_ne (tgt := 45) dX6_slice_40 (by decide) (fun c40 => ?_) (fun c40 => ?_)
          · exact absurd ⟨v01_t hy9 c12, v01_t hy21 c24, c29, v01_t hy37 c40⟩ hok
          · refine Ev.iconst (v := -1) dX6_slice_43 (by decide) ?_
            refine Ev.iret dX6_slice_44 rfl rfl ?_
            exact ⟨_, rfl, rfl, _, _, hZ, hR.q QT.rf.t hR.1⟩
end MMH
