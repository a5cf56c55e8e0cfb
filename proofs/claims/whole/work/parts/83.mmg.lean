section MMG
variable {G : GP} {a : Nat → Nat} {M0 M : Wd} {v : Nat → Int32} {L : Int64} {X : Nat → Nat → Int32} {S : Sg}
set_option maxRecDepth 20000 in
theorem m_priceWith {b : Nat → Int32} {s k q p : Int32} (hT : isT s k q p) (hA : Ag (X 1) b) (hB : BW 40 b) (hZ : MZ a M0 v L X M) : CtI G mX6_priceWith [.ref (a 0), .int s, .int k, .int q, .int p] M 0 0 (fun x M' => x = (xP (ad1 b s k q p q 0 0) (-1)).1 ∧ ∃ (v' : Nat → Int32) (X' : Nat → Nat → Int32), MZ a M0 v' L X' M' ∧ QT v v' X X' ∧ v' 0 = v 0 ∧ Ag (X' 1) b) := by
  have hn := hB.2.1
  have e8 : X 1 328 = nI (bn b) := hA.2.1.trans hB.1
  have q0 : 1 ≤ q := hT.2.2.1.1
  have hB1 : BW (bn b + 1) (ad1 b s k q p q 0 0) := hB.ad1 hT (Or.inr ⟨q0, Int32.le_refl _⟩) ⟨Int32.le_refl _, Int32.le_trans (by decide) q0⟩ ⟨by decide, by decide⟩
  have hA1 := hA.ad1 (s := s) (k := k) (q := q) (p := p) (sh := q) (le := 0) (ow := 0) hn
  have hpre : nI (bn b + 1) - 1 = nI (bn b) := nI_pred _
  refine Ct.of (ls := [some (.ref (a 0)), some (.int s), some (.int k), some (.int q), some (.int p), none]) (by decide) (by decide) rfl rfl rfl ?_
  refine Ev.ald0 dX6_priceWith_0 ?_
  refine Ev.ild1 dX6_priceWith_1 ?_
  refine Ev.ild2 dX6_priceWith_2 ?_
  refine Ev.ild3 dX6_priceWith_3 ?_
  refine Ev.ild4 dX6_priceWith_4 ?_
  refine Ev.ild3 dX6_priceWith_6 ?_
  refine Ev.iconst (v := 0) dX6_priceWith_7 (by decide) ?_
  refine Ev.iconst (v := 0) dX6_priceWith_8 (by decide) ?_
  refine Ev.cvV (Yc := mX6_puts_) (ci := 6) dX6_priceWith_9 lX6_299 vX6_puts_ rfl (m_puts (n := bn b) e8 hn hZ) ⟨_, hZ.2.1.1⟩ rfl rfl rfl rfl ?_
  rintro M2 hZ
  refine Ev.ald0 dX6_priceWith_12 ?_
  refine Ev.iconst (v := -1) dX6_priceWith_13 (by decide) ?_
  refine Ev.cvI (Yc := mX6_priceWithout) (ci := 6) dX6_priceWith_14 lX6_324 vX6_priceWithout rfl (m_priceWithout hZ (by rw [ux_s]; exact hA1) (hB1.mono (by omega)) (Or.inl rfl)) ⟨_, hZ.2.1.1⟩ rfl rfl rfl rfl ?_
  rintro y14 M1 ⟨hy14, v1, X1, hZ, hK⟩
  have x1 : X1 1 = upd (add8 (X 1) (bn b) s k q p q 0 0) 328 (nI (bn b + 1)) := (hK.1 1 (by decide)).trans ux_s
  refine Ev.ist5 dX6_priceWith_17 rfl rfl ?_
  refine Ev.ald0 dX6_priceWith_19 ?_
  refine Ev.mgr (kx := 1) dX6_priceWith_20 fX6_13 hZ rfl ?_
  refine Ev.sipush (v := 328) dX6_priceWith_23 (by decide) ?_
  refine Ev.dup2 dX6_priceWith_26 rfl rfl ?_
  refine Ev.mld (j := 328) mq1 dX6_priceWith_27 hZ (by first | assumption | (simp only [nI, Int32.ofNat_add, Int32.ofNat_mul]; done) | (simp only [nI, Int32.ofNat_add, Int32.ofNat_mul]; rfl) | rfl) (by omega) ?_
  (try simp only [ux_s, ux_n, ne_eq, Nat.reduceEqDiff, Nat.succ_ne_self, not_false_eq_true])
  rw [x1, pk_us]
  refine Ev.iconst (v := 1) dX6_priceWith_28 (by decide) ?_
  refine Ev.isub dX6_priceWith_29 ?_
  rw [hpre]
  refine Ev.mst (j := 328) mq1 dX6_priceWith_30 hZ (by first | assumption | (simp only [nI, Int32.ofNat_add, Int32.ofNat_mul]; done) | (simp only [nI, Int32.ofNat_add, Int32.ofNat_mul]; rfl) | rfl) (by omega) (fun M hZ => ?_)
  (try simp only [ux_u, ux_s, ux_n, ne_eq, Nat.reduceEqDiff, Nat.succ_ne_self, not_false_eq_true] at hZ)
  refine Ev.ild5 dX6_priceWith_31 ?_
  refine Ev.iret dX6_priceWith_33 rfl rfl ?_
  rw [x1] at hZ
  refine ⟨_, rfl, hy14, _, _, hZ, (QT.rf.m.tr hK.q).m, hK.2 0 (by decide), ?_⟩
  rw [ux_s]
  exact hA.same (fun j hj => by rw [pk_un (by omega), pk_un (by omega), add8_lo (Or.inl hj)]) (fun j h1 h2 => by
    by_cases z : j = 328
    · rw [z, pk_us, e8]
    · rw [pk_un z, pk_un z, add8_lo (Or.inr (by omega))])
set_option maxRecDepth 20000 in
theorem m_with {s k q p : Int32} (hS : Sok S) (hR : MR v X S) (hZ : MZ a M0 v L X M) : CtI G mX6_with [.ref (a 0), .int s, .int k, .int q, .int p] M 0 0 (fun x M' => x = an_with S s k q p ∧ ∃ (v' : Nat → Int32) (X' : Nat → Nat → Int32), MZ a M0 v' L X' M' ∧ MR v' X' S) := by
  have hB : BW 40 S.1.1 := hS.1.1
  have hA := hR.1.1
  have e9 : X 1 329 = S.1.1 329 := hA.2.2.1
  refine Ct.of (ls := [some (.ref (a 0)), some (.int s), some (.int k), some (.int q), some (.int p)]) (by decide) (by decide) rfl rfl rfl ?_
  refine Ev.ald0 dX6_with_0 ?_
  refine Ev.iconst (v := 0) dX6_with_1 (by decide) ?_
  refine Ev.mput (kx := 0) dX6_with_2 fX6_1 hZ rfl rfl (fun M hZ => ?_)
  refine Ev.ild1 dX6_with_5 ?_
  refine Ev.ild2 dX6_with_6 ?_
  refine Ev.ild3 dX6_with_7 ?_
  refine Ev.ild4 dX6_with_8 ?_
  refine Ev.csI (Yc := mX6_isTold) dX6_with_10 lX6_290 vX6_isTold rfl m_isTold rfl rfl rfl ?_
  rintro y10 M9 ⟨rfl, hy10⟩
  refine Ev.if_eq (tgt := 40) dX6_with_13 (by decide) (fun c13 => ?_) (fun c13 => ?_)
  · refine Ev.bipush (v := -2) dX6_with_40 (by decide) ?_
    refine Ev.iret dX6_with_42 rfl rfl ?_
    rw [an_with, if_neg (fun z => absurd c13 (by rw [(hy10.resolve_right (fun y => y.1 z.1)).2]; decide))]
    exact ⟨_, rfl, rfl, _, _, hZ, hR.q QT.rf.t hR.1⟩
  · refine Ev.ald0 dX6_with_16 ?_
    refine Ev.mgr (kx := 1) dX6_with_17 fX6_13 hZ rfl ?_
    refine Ev.sipush (v := 329) dX6_with_20 (by decide) ?_
    refine Ev.mld (j := 329) mq1 dX6_with_23 hZ (by first | assumption | (simp only [nI, Int32.ofNat_add, Int32.ofNat_mul]; done) | (simp only [nI, Int32.ofNat_add, Int32.ofNat_mul]; rfl) | rfl) (by omega) ?_
    (try simp only [ux_s, ux_n, ne_eq, Nat.reduceEqDiff, Nat.succ_ne_self, not_false_eq_true])
    rw [e9]
    refine Ev.iconst (v := 2) dX6_with_24 (by decide) ?_
    refine Ev.icmp_eq (tgt := 40) dX6_with_25 (by decide) (fun c25 => ?_) (fun c25 => ?_)
    · refine Ev.bipush (v := -2) dX6_with_40 (by decide) ?_
      refine Ev.iret dX6_with_42 rfl rfl ?_
      rw [an_with, if_neg (fun z => z.2 c25)]
      exact ⟨_, rfl, rfl, _, _, hZ, hR.q QT.rf.t hR.1⟩
    · refine Ev.ald0 dX6_with_28 ?_
      refine Ev.ild1 dX6_with_29 ?_
      refine Ev.ild2 dX6_with_30 ?_
      refine Ev.ild3 dX6_with_31 ?_
      refine Ev.ild4 dX6_with_32 ?_
      refine Ev.cvI (Yc := mX6_priceWith) (ci := 6) dX6_with_34 lX6_327 vX6_priceWith rfl (m_priceWith (hy10.resolve_right (fun y => c13 y.2)).1 hA hB hZ) ⟨_, hZ.2.1.1⟩ rfl rfl rfl rfl ?_
      rintro y34 M1 ⟨hy34, v1, X1, hZ, hq, t0, hA1⟩
      refine Ev.goto (tgt := 42) dX6_with_37 (by decide) ?_
      refine Ev.iret dX6_with_42 rfl rfl ?_
      rw [an_with, if_pos ⟨(hy10.resolve_right (fun y => c13 y.2)).1, c25⟩]
      exact ⟨_, rfl, hy34, _, _, hZ, hR.q (QT.rf.t.tr hq) ⟨hA1, fun z => absurd z c25⟩⟩
set_option maxRecDepth 20000 in
theorem m_thrown (hZ : MZ a M0 v L X M) : CtI G mX6_thrown [.ref (a 0)] M 0 0 (fun x M' => x = v 0 ∧ M' = M) := by
  refine Ct.of (ls := [some (.ref (a 0))]) (by decide) (by decide) rfl rfl rfl ?_
  refine Ev.ald0 dX6_thrown_0 ?_
  refine Ev.mgv (kx := 0) dX6_thrown_1 fX6_1 hZ rfl ?_
  refine Ev.iret dX6_thrown_4 rfl rfl ?_
  exact ⟨_, rfl, rfl, rfl⟩
end MMG
