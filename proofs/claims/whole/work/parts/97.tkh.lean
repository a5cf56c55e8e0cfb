section TKH
variable {G : GP} {a : Nat → Nat} {M0 M : Wd} {v v0 : Nat → Int32} {L : Int64} {X X0 : Nat → Nat → Int32} {S : Sg}
theorem MR.t0 {v1 : Nat → Int32} {X1 : Nat → Nat → Int32} (h : MR v X S) (h3 : v1 3 = v 3) (h5 : v1 5 = v 5) (h6 : v1 6 = v 6) (h8 : v1 8 = 0) (hX : ∀ j, j ≠ 17 → X1 j = X j) : MR v1 X1 (S.1, S.2.1, S.2.2.1, 0, S.2.2.2.2) := by
  obtain ⟨g1, ⟨g2, g3⟩, ⟨g4, g5⟩, g6, g7, g8⟩ := h
  refine ⟨by rw [hX 1 (by decide)]; exact g1, ⟨h3.trans g2, by rw [hX 2 (by decide)]; exact g3⟩, ⟨h8.trans nI_0.symm, fun j hj => absurd hj (Nat.not_lt_zero _)⟩, h6.trans g6, h5.trans g7, by rw [hX 4 (by decide)]; exact g8⟩
set_option maxRecDepth 20000 in
theorem m_txS {Q : Option Value → Wd → Prop} {x1 : Int32} {c : Nat → Nat} {n : Nat} {s : Ps} (w : Nat → Int32) (hS : ST c n s v L X) (h8 : v 8 = 0) (kk : ∀ (v' : Nat → Int32) (X' : Nat → Nat → Int32) (M' : Wd), MZ a M0 v' L X' M' → (∀ (t P : Nat → Int32), MR v' X' ((txb s, w), [], t, 0, P, 0)) → Q (some (.int (nI s.2.2.1))) M') (hZ : MZ a M0 v L X M) : Ev G mX6_text 118 [some (.ref (a 0)), some (.int x1), some (.int 1), none] [] M 0 0 Q := by
  obtain ⟨hT, h16, hk, hAr, h18, hr, h19, hl, h20⟩ := hS
  refine Ev.ald0 dX6_text_118 ?_
  refine Ev.cvV (Yc := mX6_begins) (ci := 6) dX6_text_119 lX6_67 vX6_begins rfl (m_begins hZ) ⟨_, hZ.2.1.1⟩ rfl rfl rfl rfl ?_
  rintro M1 hZ
  have e : ∀ j, j ≠ 3 → j ≠ 5 → j ≠ 6 → upd (upd (upd v 3 0) 5 0) 6 0 j = v j := fun j q1 q2 q3 => by rw [pk_un q3, pk_un q2, pk_un q1]
  have e3 : upd (upd (upd v 3 0) 5 0) 6 0 3 = 0 := rfl
  have e5 : upd (upd (upd v 3 0) 5 0) 6 0 5 = 0 := rfl
  have e6 : upd (upd (upd v 3 0) 5 0) 6 0 6 = 0 := rfl
  generalize upd (upd (upd v 3 0) 5 0) 6 0 = v3 at hZ e e3 e5 e6
  have h16 := (e 16 (by decide) (by decide) (by decide)).trans h16
  refine Ev.ald0 dX6_text_122 ?_
  refine Ev.mgr (kx := 1) dX6_text_123 fX6_13 hZ rfl ?_
  refine Ev.sipush (v := 328) dX6_text_126 (by decide) ?_
  refine Ev.ald0 dX6_text_129 ?_
  refine Ev.mgv (kx := 16) dX6_text_130 fX6_161 hZ rfl ?_
  rw [h16]
  refine Ev.mst (j := 328) mq1 dX6_text_133 hZ (by first | assumption | (simp only [nI, Int32.ofNat_add, Int32.ofNat_mul]; done) | (simp only [nI, Int32.ofNat_add, Int32.ofNat_mul]; rfl) | rfl) (by omega) (fun M hZ => ?_)
  (try simp only [ux_u, ux_s, ux_n, ne_eq, Nat.reduceEqDiff, Nat.succ_ne_self, not_false_eq_true] at hZ)
  refine Ev.iconst (v := 0) dX6_text_134 (by decide) ?_
  refine Ev.ist3 dX6_text_135 rfl rfl ?_
  skip
  have m28 : upd (upd (upd (upd (upd (upd (X 1) 328 0) 329 0) 330 100) 331 1) 332 999) 328 (nI s.2.2.1) 328 = nI s.2.2.1 := pk_us
  have m29 : upd (upd (upd (upd (upd (upd (X 1) 328 0) 329 0) 330 100) 331 1) 332 999) 328 (nI s.2.2.1) 329 = 0 := rfl
  generalize upd (upd (upd (upd (upd (upd (X 1) 328 0) 329 0) 330 100) 331 1) 332 999) 328 (nI s.2.2.1) = g at hZ m28 m29
  refine m_txC hk h16 (fun M hZ => ?_) hZ
  rw [ux_u, ux_s, ux_n (by decide)] at hZ
  refine m_tx2 (m := fun j => if j < 8 * s.2.2.1 then X 17 j else g j) hr hl h16 ((e 18 (by decide) (by decide) (by decide)).trans h18) ((e 19 (by decide) (by decide) (by decide)).trans h19) (fun z => (e 20 (by decide) (by decide) (by decide)).trans (h20 z)) (fun M hZ => kk v3 _ M hZ (fun t P => ?_)) hZ
  refine ⟨⟨⟨?_, ?_, ?_, ?_, ?_, ?_⟩, fun z => absurd z ?_⟩, ⟨e3.trans nI_0.symm, fun i q hi => by simp at hi⟩, ⟨((e 8 (by decide) (by decide) (by decide)).trans h8).trans nI_0.symm, fun j hj => absurd hj (Nat.not_lt_zero _)⟩, e6.trans nI_0.symm, e5.trans nI_0.symm, fun j hj => absurd hj (Nat.not_lt_zero _)⟩
  · have en : bn (txb s) = s.2.2.1 := by rw [bn, txb, pk_un (by decide), pk_un (by decide), pk_un (by decide), pk_un (by decide), pk_us, nI_clamp (by omega)]
    rw [ux_s]
    show Ar (bn (txb s)) _ (txb s)
    rw [en]
    intro j hj
    rw [txb, pk_un (by omega), pk_un (by omega), pk_un (by omega), pk_un (by omega), pk_un (by omega), pk_un (by omega), pk_un (by omega), pk_un (by omega), if_pos hj]
    exact hAr j hj
  · rw [ux_s]
    show _ = txb s 328
    rw [txb, pk_un (by decide), pk_un (by decide), pk_un (by decide), pk_un (by decide), pk_un (by decide), pk_un (by decide), pk_un (by decide), pk_us, if_neg (by omega)]
    exact m28
  · rw [ux_s]
    show _ = txb s 329
    rw [txb, pk_un (by decide), pk_un (by decide), pk_un (by decide), pk_un (by decide), pk_un (by decide), pk_un (by decide), pk_us, if_neg (by omega)]
    exact m29
  · rw [ux_s]
    show _ = txb s 330
    rw [txb, pk_un (by decide), pk_un (by decide), pk_us, pk_un (by decide), pk_un (by decide), pk_us]
  · rw [ux_s]
    show _ = txb s 331
    rw [txb, pk_un (by decide), pk_us, pk_un (by decide), pk_us]
  · rw [ux_s]
    show _ = txb s 332
    rw [txb, pk_us, pk_us]
  · show ¬ txb s 329 = 2
    rw [txb, pk_un (by decide), pk_un (by decide), pk_un (by decide), pk_us]
    decide
set_option maxRecDepth 20000 in
theorem m_text {x : Int32} (hS : Sok S) (hb : Tby S) (hR : MR v X S) (hZ : MZ a M0 v L X M) : CtI G mX6_text [.ref (a 0), .int x] M 572 3432 (fun y M' => y = (sp_text S x).1 ∧ ∃ (v' : Nat → Int32) (L' : Int64) (X' : Nat → Nat → Int32), MZ a M0 v' L' X' M' ∧ MR v' X' (sp_text S x).2) := by
  have h8 : v 8 = nI S.2.2.2.1 := hR.2.2.1.1
  have hlen : S.2.2.2.1 ≤ 800 := hS.2.2.2
  by_cases hok : 0 ≤ x ∧ x ≤ nI S.2.2.2.1
  · obtain ⟨n, hn, rfl⟩ := int_le (by omega) hok.1 hok.2
    have hsp : sp_text S (nI n) = (match prs0 (cdt S.2.2.1) n (fun _ => 0) with
      | .inl F => (-2 - nI F, (S.1, S.2.1, S.2.2.1, 0, S.2.2.2.2))
      | .inr s => (nI s.2.2.1, ((txb s, S.1.2), [], S.2.2.1, 0, S.2.2.2.2.1, 0))) := by
      rw [sp_text, if_pos hok, nI_clamp (by omega)]
      rfl
    have hcd : Cds (X 7) n (cdt S.2.2.1) := fun j hj => by
      rw [hR.2.2.1.2 j (by omega)]
      exact ⟨(hb j (by omega)).1, (hb j (by omega)).2.1⟩
    generalize hQ : (fun (u : Option Value) (M' : Wd) => ∃ y, u = some (.int y) ∧ y = (sp_text S (nI n)).1 ∧ ∃ (v' : Nat → Int32) (L' : Int64) (X' : Nat → Nat → Int32), MZ a M0 v' L' X' M' ∧ MR v' X' (sp_text S (nI n)).2) = Q
    show Ct G mX6_text _ M 572 3432 (fun (u : Option Value) (M' : Wd) => ∃ y, u = some (.int y) ∧ y = (sp_text S (nI n)).1 ∧ ∃ (v' : Nat → Int32) (L' : Int64) (X' : Nat → Nat → Int32), MZ a M0 v' L' X' M' ∧ MR v' X' (sp_text S (nI n)).2)
    rw [hQ]
    refine Ct.of (ls := [some (.ref (a 0)), some (.int (nI n)), none, none]) (by decide) (by decide) rfl rfl rfl ?_
    refine Ev.ald0 dX6_text_0 ?_
    refine Ev.iconst (v := 0) dX6_text_1 (by decide) ?_
    refine Ev.mput (kx := 0) dX6_text_2 fX6_1 hZ rfl rfl (fun M hZ => ?_)
    refine Ev.ild1 dX6_text_5 ?_
    refine Ev.i2l dX6_text_6 ?_
    refine Ev.lconst (v := 0) dX6_text_7 (by decide) ?_
    refine Ev.ald0 dX6_text_8 ?_
    refine Ev.mgv (kx := 8) dX6_text_9 fX6_79 hZ rfl ?_
    rw [show upd v 0 0 8 = nI S.2.2.2.1 from h8]
    refine Ev.i2l dX6_text_12 ?_
    refine Ev.csI (Yc := mX6_within) dX6_text_13 lX6_93 vX6_within rfl (m_wI (y := 0) (z := nI S.2.2.2.1) (by decide) rfl) rfl rfl rfl ?_
    rintro y13 M9 ⟨hy13, rfl⟩
    rw [if_pos hok] at hy13
    refine Ev.if_ne (tgt := 21) dX6_text_16 (by decide) (fun c16 => ?_) (fun c16 => by first | exact absurd (by rw [hy13]; decide) c16 | exact absurd c16 (by rw [hy13]; decide))
    refine Ev.ald0 dX6_text_21 ?_
    refine Ev.ild1 dX6_text_22 ?_
    refine Ev.mput (kx := 9) dX6_text_23 fX6_86 hZ rfl rfl (fun M hZ => ?_)
    refine Ev.ald0 dX6_text_26 ?_
    refine Ev.iconst (v := 0) dX6_text_27 (by decide) ?_
    refine Ev.mput (kx := 8) dX6_text_28 fX6_79 hZ rfl rfl (fun M hZ => ?_)
    refine Ev.ald0 dX6_text_31 ?_
    refine Ev.iconst (v := 0) dX6_text_32 (by decide) ?_
    refine Ev.mput (kx := 11) dX6_text_33 fX6_101 hZ rfl rfl (fun M hZ => ?_)
    refine Ev.ald0 dX6_text_36 ?_
    refine Ev.iconst (v := 0) dX6_text_37 (by decide) ?_
    refine Ev.mput (kx := 15) dX6_text_38 fX6_142 hZ rfl rfl (fun M hZ => ?_)
    refine Ev.ald0 dX6_text_41 ?_
    refine Ev.iconst (v := 0) dX6_text_42 (by decide) ?_
    refine Ev.mput (kx := 16) dX6_text_43 fX6_161 hZ rfl rfl (fun M hZ => ?_)
    refine Ev.ald0 dX6_text_46 ?_
    refine Ev.iconst (v := 0) dX6_text_47 (by decide) ?_
    refine Ev.mput (kx := 18) dX6_text_48 fX6_158 hZ rfl rfl (fun M hZ => ?_)
    refine Ev.ald0 dX6_text_51 ?_
    refine Ev.iconst (v := 0) dX6_text_52 (by decide) ?_
    refine Ev.mput (kx := 19) dX6_text_53 fX6_167 hZ rfl rfl (fun M hZ => ?_)
    skip
    have eo : ∀ j, j ∉ txi → j ≠ 0 → j ≠ 8 → upd (upd (upd (upd (upd (upd (upd (upd v 0 0) 9 (nI n)) 8 0) 11 0) 15 0) 16 0) 18 0) 19 0 j = v j := fun j h1 h2 h3 => by
      simp only [List.mem_cons, List.not_mem_nil, or_false, not_or] at h1
      rw [pk_un (by omega), pk_un (by omega), pk_un (by omega), pk_un (by omega), pk_un (by omega), pk_un (by omega), pk_un (by omega), pk_un (by omega)]
    have e8 : upd (upd (upd (upd (upd (upd (upd (upd v 0 0) 9 (nI n)) 8 0) 11 0) 15 0) 16 0) 18 0) 19 0 8 = 0 := rfl
    have e9 : upd (upd (upd (upd (upd (upd (upd (upd v 0 0) 9 (nI n)) 8 0) 11 0) 15 0) 16 0) 18 0) 19 0 9 = nI n := rfl
    have e11 : upd (upd (upd (upd (upd (upd (upd (upd v 0 0) 9 (nI n)) 8 0) 11 0) 15 0) 16 0) 18 0) 19 0 11 = nI 0 := rfl
    have e15 : upd (upd (upd (upd (upd (upd (upd (upd v 0 0) 9 (nI n)) 8 0) 11 0) 15 0) 16 0) 18 0) 19 0 15 = 0 := rfl
    have e16 : upd (upd (upd (upd (upd (upd (upd (upd v 0 0) 9 (nI n)) 8 0) 11 0) 15 0) 16 0) 18 0) 19 0 16 = nI 0 := rfl
    have e18 : upd (upd (upd (upd (upd (upd (upd (upd v 0 0) 9 (nI n)) 8 0) 11 0) 15 0) 16 0) 18 0) 19 0 18 = nI 0 := rfl
    have e19 : upd (upd (upd (upd (upd (upd (upd (upd v 0 0) 9 (nI n)) 8 0) 11 0) 15 0) 16 0) 18 0) 19 0 19 = nI 0 := rfl
    generalize upd (upd (upd (upd (upd (upd (upd (upd v 0 0) 9 (nI n)) 8 0) 11 0) 15 0) 16 0) 18 0) 19 0 = v1 at hZ eo e8 e9 e11 e15 e16 e18 e19
    generalize hc : cdt S.2.2.1 = c at hsp hcd
    have fF : ∀ (F : Nat) (v' : Nat → Int32) (L' : Int64) (X' : Nat → Nat → Int32) (M' : Wd), MZ a M0 v' L' X' M' → KT v1 v' X X' → prs0 c n (fun _ => 0) = .inl F → Q (some (.int (-2 - nI F))) M' := by
      intro F v' L' X' M' hZ hK hp
      rw [hp] at hsp
      rw [← hQ, hsp]
      exact ⟨_, rfl, rfl, v', L', X', hZ, hR.t0 ((hK.1 3 (by decide)).trans (eo 3 (by decide) (by decide) (by decide))) ((hK.1 5 (by decide)).trans (eo 5 (by decide) (by decide) (by decide))) ((hK.1 6 (by decide)).trans (eo 6 (by decide) (by decide) (by decide))) ((hK.1 8 (by decide)).trans e8) hK.2⟩
    have fS : ∀ (s : Ps) (v' : Nat → Int32) (L' : Int64) (X' : Nat → Nat → Int32) (M' : Wd) (x1 : Int32), MZ a M0 v' L' X' M' → KT v1 v' X X' → ST c n s v' L' X' → prs0 c n (fun _ => 0) = .inr s → Ev G mX6_text 118 [some (.ref (a 0)), some (.int x1), some (.int 1), none] [] M' 0 0 Q := by
      intro s v' L' X' M' x1 hZ hK hST hp
      rw [hp] at hsp
      refine m_txS S.1.2 hST ((hK.1 8 (by decide)).trans e8) (fun v2 X2 M2 hZ2 hM => ?_) hZ
      rw [← hQ, hsp]
      exact ⟨_, rfl, rfl, v2, L', X2, hZ2, hM _ _⟩
    refine Ev.ald0 dX6_text_56 ?_
    refine Ev.cvV (Yc := mX6_go) (ci := 6) dX6_text_57 lX6_151 vX6_go rfl (m_go (p := 0) (by omega) e9 e11 (by omega) hcd hZ) ⟨_, hZ.2.1.1⟩ rfl rfl rfl rfl ?_
    rintro M1 ⟨v2, L2, hZ, hv, hTK⟩
    have hST : ST c n (0, (fun _ => 0), 0, 0, 0, 0) v2 L2 X := ⟨⟨by omega, hv.w (by decide) e9, hcd, by show 0 ≤ n; omega, hTK, hv.w (by decide) e15⟩, hv.w (by decide) e16, by show 0 ≤ 40; omega, fun j hj => absurd hj (by show ¬ j < 8 * 0; omega), hv.w (by decide) e18, by show 0 ≤ 999; omega, hv.w (by decide) e19, by show 0 ≤ 999; omega, fun z => absurd rfl z⟩
    refine Ev.ald0 dX6_text_60 ?_
    refine Ev.cvIn (Yc := mX6_line) (ci := 6) dX6_text_61 lX6_198 vX6_line rfl (m_line hST hZ) ⟨_, hZ.2.1.1⟩ rfl rfl rfl rfl (by omega) (by omega) ?_
    rintro y61 M2 hy61
    refine Ev.ist2 dX6_text_64 rfl rfl ?_
    skip
    obtain ⟨v3, L3, X3, hZ3, hK3, hm⟩ := hy61
    have hK13 : KT v1 v3 X X3 := hv.k.tr hK3
    cases hq : lin c n (0, (fun _ => 0), 0, 0, 0, 0) with
    | inl F =>
      rw [hq] at hm
      obtain ⟨rfl, h15⟩ := hm
      exact m_txF h15 (fF F v3 L3 X3 M2 hZ3 hK13 (by rw [prs0, hq])) hZ3
    | inr s =>
      have hmu := lin_mu hq (by show 0 ≤ 40; omega)
      have hm0 : mul (0, (fun _ => 0), 0, 0, 0, 0) = 42 := rfl
      rw [hq] at hm
      obtain ⟨rfl, hS2⟩ := hm
      have hpr : prs0 c n (fun _ => 0) = lns c n 43 s := by rw [prs0, hq]
      exact Ev.wd (m_tx (s := s) (fun F v' L' X' M' g1 g2 g3 => fF F v' L' X' M' g1 g2 (hpr.trans g3)) (fun s' v' L' X' M' g1 g2 g3 g4 => fS s' v' L' X' M' _ g1 g2 g3 (hpr.trans g4)) 43 s v3 L3 X3 M2 (by omega) rfl hZ3 hK13 hS2) (by omega) (by omega)
  · rw [sp_text, if_neg hok]
    refine Ct.of (ls := [some (.ref (a 0)), some (.int x), none, none]) (by decide) (by decide) rfl rfl rfl ?_
    refine Ev.ald0 dX6_text_0 ?_
    refine Ev.iconst (v := 0) dX6_text_1 (by decide) ?_
    refine Ev.mput (kx := 0) dX6_text_2 fX6_1 hZ rfl rfl (fun M hZ => ?_)
    refine Ev.ild1 dX6_text_5 ?_
    refine Ev.i2l dX6_text_6 ?_
    refine Ev.lconst (v := 0) dX6_text_7 (by decide) ?_
    refine Ev.ald0 dX6_text_8 ?_
    refine Ev.mgv (kx := 8) dX6_text_9 fX6_79 hZ rfl ?_
    rw [show upd v 0 0 8 = nI S.2.2.2.1 from h8]
    refine Ev.i2l dX6_text_12 ?_
    refine Ev.csI (Yc := mX6_within) dX6_text_13 lX6_93 vX6_within rfl (m_wI (y := 0) (z := nI S.2.2.2.1) (by decide) rfl) rfl rfl rfl ?_
    rintro y13 M9 ⟨hy13, rfl⟩
    rw [if_neg hok] at hy13
    refine Ev.if_ne (tgt := 21) dX6_text_16 (by decide) (fun c16 => by first | exact absurd c16 hy13 | exact absurd hy13 c16) (fun c16 => ?_)
    refine Ev.iconst (v := -1) dX6_text_19 (by decide) ?_
    refine Ev.iret dX6_text_20 rfl rfl ?_
    exact ⟨_, rfl, rfl, _, _, _, hZ, hR.q QT.rf.t hR.1⟩
set_option maxRecDepth 20000 in
theorem m_p1 {Q : Option Value → Wd → Prop} {x k k' : Int32} {n : Nat} (hk : ¬ k < 0) (hk' : k + Int32.ofInt (-8) = k') (h8 : v 8 = nI n) (hn : n < 800) (kk : ∀ M', MZ a M0 (upd v 8 (nI (n + 1))) L (ux X 7 (upd (X 7) n (by8 x k))) M' → Ev G mX6_puts 3 [some (.ref (a 0)), some (.int x), some (.int k')] [] M' 0 0 Q) (hZ : MZ a M0 v L X M) : Ev G mX6_puts 3 [some (.ref (a 0)), some (.int x), some (.int k)] [] M 0 0 Q := by
  subst hk'
  refine Ev.ild2 dX6_puts_3 ?_
  refine Ev.if_lt (tgt := 36) dX6_puts_4 (by decide) (fun c4 => by first | exact absurd c4 hk | exact absurd hk c4) (fun c4 => ?_)
  refine Ev.ald0 dX6_puts_7 ?_
  refine Ev.mgr (kx := 7) dX6_puts_8 fX6_23 hZ rfl ?_
  refine Ev.ald0 dX6_puts_11 ?_
  refine Ev.mgv (kx := 8) dX6_puts_12 fX6_79 hZ rfl ?_
  rw [h8]
  refine Ev.ild1 dX6_puts_15 ?_
  refine Ev.ild2 dX6_puts_16 ?_
  refine Ev.ishr dX6_puts_17 ?_
  refine Ev.i2b dX6_puts_18 ?_
  refine Ev.mbst (j := n) mq7 dX6_puts_19 hZ (by first | assumption | (simp only [nI, Int32.ofNat_add, Int32.ofNat_mul]; done) | (simp only [nI, Int32.ofNat_add, Int32.ofNat_mul]; rfl) | rfl) (by omega) (fun M hZ => ?_)
  (try simp only [ux_u, ux_s, ux_n, ne_eq, Nat.reduceEqDiff, Nat.succ_ne_self, not_false_eq_true] at hZ)
  refine Ev.ald0 dX6_puts_20 ?_
  refine Ev.dup dX6_puts_21 rfl ?_
  refine Ev.mgv (kx := 8) dX6_puts_22 fX6_79 hZ rfl ?_
  rw [h8]
  refine Ev.iconst (v := 1) dX6_puts_25 (by decide) ?_
  refine Ev.iadd dX6_puts_26 ?_
  rw [nI_1]
  refine Ev.mput (kx := 8) dX6_puts_27 fX6_79 hZ rfl rfl (fun M hZ => ?_)
  apply Ev.iinc2 dX6_puts_30 rfl rfl
  · rfl
  refine Ev.goto (tgt := 3) dX6_puts_33 (by decide) ?_
  exact kk _ hZ
set_option maxRecDepth 20000 in
theorem m_puts1 {x : Int32} {n : Nat} (h8 : v 8 = nI n) (hn : n + 4 ≤ 800) (hZ : MZ a M0 v L X M) : CtV G mX6_puts [.ref (a 0), .int x] M 0 0 (fun M' => ∃ v' : Nat → Int32, MZ a M0 v' L (ux X 7 (pt4 (X 7) n x)) M' ∧ v' 8 = nI (n + 4) ∧ ∀ j, j ≠ 8 → v' j = v j) := by
  refine Ct.of (ls := [some (.ref (a 0)), some (.int x), none]) (by decide) (by decide) rfl rfl rfl ?_
  refine Ev.bipush (v := 24) dX6_puts_0 (by decide) ?_
  refine Ev.ist2 dX6_puts_2 rfl rfl ?_
  skip
  refine m_p1 (k' := 16) (n := n) (by decide) (by decide) h8 (by omega) (fun M hZ => ?_) hZ
  refine m_p1 (k' := 8) (n := n + 1) (by decide) (by decide) pk_us (by omega) (fun M hZ => ?_) hZ
  refine m_p1 (k' := 0) (n := n + 2) (by decide) (by decide) pk_us (by omega) (fun M hZ => ?_) hZ
  refine m_p1 (k' := -8) (n := n + 3) (by decide) (by decide) pk_us (by omega) (fun M hZ => ?_) hZ
  rw [ux_u, ux_u, ux_u, ux_s, ux_s, ux_s] at hZ
  refine Ev.ild2 dX6_puts_3 ?_
  refine Ev.if_lt (tgt := 36) dX6_puts_4 (by decide) (fun c4 => ?_) (fun c4 => by first | exact absurd (by decide) c4 | exact absurd c4 (by decide))
  refine Ev.vret dX6_puts_36 rfl ?_
  refine ⟨rfl, _, hZ, pk_us, fun j hj => ?_⟩
  rw [pk_un hj, pk_un hj, pk_un hj, pk_un hj]
set_option maxRecDepth 20000 in
theorem m_feed {x0 x1 x2 x3 x4 : Int32} (hS : Sok S) (hR : MR v X S) (hZ : MZ a M0 v L X M) : CtI G mX6_feed [.ref (a 0), .int x0, .int x1, .int x2, .int x3, .int x4] M 0 0 (fun y M' => y = (sp_feed S x0 x1 x2 x3 x4).1 ∧ ∃ (v' : Nat → Int32) (X' : Nat → Nat → Int32), MZ a M0 v' L X' M' ∧ MR v' X' (sp_feed S x0 x1 x2 x3 x4).2) := by
  have h8 : upd v 0 0 8 = nI S.2.2.2.1 := hR.2.2.1.1
  have hlen : S.2.2.2.1 ≤ 800 := hS.2.2.2
  have e20 : nI S.2.2.2.1 + 20 = nI (S.2.2.2.1 + 20) := nI_add _ 20
  by_cases hok : S.2.2.2.1 + 20 ≤ 800
  · rw [sp_feed, if_pos hok]
    refine Ct.of (ls := [some (.ref (a 0)), some (.int x0), some (.int x1), some (.int x2), some (.int x3), some (.int x4)]) (by decide) (by decide) rfl rfl rfl ?_
    refine Ev.ald0 dX6_feed_0 ?_
    refine Ev.iconst (v := 0) dX6_feed_1 (by decide) ?_
    refine Ev.mput (kx := 0) dX6_feed_2 fX6_1 hZ rfl rfl (fun M hZ => ?_)
    refine Ev.ald0 dX6_feed_5 ?_
    refine Ev.mgv (kx := 8) dX6_feed_6 fX6_79 hZ rfl ?_
    rw [h8]
    refine Ev.bipush (v := 20) dX6_feed_9 (by decide) ?_
    refine Ev.iadd dX6_feed_11 ?_
    rw [e20]
    refine Ev.sipush (v := 800) dX6_feed_12 (by decide) ?_
    refine Ev.icmp_le (tgt := 20) dX6_feed_15 (by decide) (fun c15 => ?_) (fun c15 => by first | exact absurd (nI_le (b := 800) hok (by decide)) c15 | exact absurd c15 (nI_le (b := 800) hok (by decide)))
    refine Ev.ald0 dX6_feed_20 ?_
    refine Ev.ild1 dX6_feed_21 ?_
    refine Ev.cvV (Yc := mX6_puts) (ci := 6) dX6_feed_22 lX6_82 vX6_puts rfl (m_puts1 h8 (by omega) hZ) ⟨_, hZ.2.1.1⟩ rfl rfl rfl rfl ?_
    rintro M1 ⟨v1, hZ, g1, f1⟩
    refine Ev.ald0 dX6_feed_25 ?_
    refine Ev.ild2 dX6_feed_26 ?_
    refine Ev.cvV (Yc := mX6_puts) (ci := 6) dX6_feed_27 lX6_82 vX6_puts rfl (m_puts1 g1 (by omega) hZ) ⟨_, hZ.2.1.1⟩ rfl rfl rfl rfl ?_
    rintro M2 ⟨v2, hZ, g2, f2⟩
    rw [ux_u, ux_s] at hZ
    refine Ev.ald0 dX6_feed_30 ?_
    refine Ev.ild3 dX6_feed_31 ?_
    refine Ev.cvV (Yc := mX6_puts) (ci := 6) dX6_feed_32 lX6_82 vX6_puts rfl (m_puts1 g2 (by omega) hZ) ⟨_, hZ.2.1.1⟩ rfl rfl rfl rfl ?_
    rintro M3 ⟨v3, hZ, g3, f3⟩
    rw [ux_u, ux_s] at hZ
    refine Ev.ald0 dX6_feed_35 ?_
    refine Ev.ild4 dX6_feed_36 ?_
    refine Ev.cvV (Yc := mX6_puts) (ci := 6) dX6_feed_38 lX6_82 vX6_puts rfl (m_puts1 g3 (by omega) hZ) ⟨_, hZ.2.1.1⟩ rfl rfl rfl rfl ?_
    rintro M4 ⟨v4, hZ, g4, f4⟩
    rw [ux_u, ux_s] at hZ
    refine Ev.ald0 dX6_feed_41 ?_
    refine Ev.ild5 dX6_feed_42 ?_
    refine Ev.cvV (Yc := mX6_puts) (ci := 6) dX6_feed_44 lX6_82 vX6_puts rfl (m_puts1 g4 (by omega) hZ) ⟨_, hZ.2.1.1⟩ rfl rfl rfl rfl ?_
    rintro M5 ⟨v5, hZ, g5, f5⟩
    rw [ux_u, ux_s] at hZ
    refine Ev.ald0 dX6_feed_47 ?_
    refine Ev.mgv (kx := 8) dX6_feed_48 fX6_79 hZ rfl ?_
    rw [g5]
    refine Ev.iret dX6_feed_51 rfl rfl ?_
    skip
    have f : ∀ j, j ≠ 8 → j ≠ 0 → v5 j = v j := fun j q q0 => by rw [f5 j q, f4 j q, f3 j q, f2 j q, f1 j q, pk_un q0]
    obtain ⟨k1, ⟨k2, k3⟩, ⟨k4, k5⟩, k6, k7, k8⟩ := hR
    have cg : ∀ (f g : Nat → Int32) (n m : Nat) (x : Int32), (∀ j, j < n → f j = g j) → m = n + 4 → ∀ j, j < m → pt4 f n x j = pt4 g n x j := by
      intro f g n m x h hm j hj
      rw [pt4, pt4]
      by_cases q3 : j = n + 3
      · rw [q3, pk_us, pk_us]
      · rw [pk_un q3, pk_un q3]
        by_cases q2 : j = n + 2
        · rw [q2, pk_us, pk_us]
        · rw [pk_un q2, pk_un q2]
          by_cases q1 : j = n + 1
          · rw [q1, pk_us, pk_us]
          · rw [pk_un q1, pk_un q1]
            by_cases q0 : j = n
            · rw [q0, pk_us, pk_us]
            · rw [pk_un q0, pk_un q0]
              exact h j (by omega)
    refine ⟨_, rfl, rfl, v5, _, hZ, by rw [ux_n (by decide)]; exact k1, ⟨(f 3 (by decide) (by decide)).trans k2, by rw [ux_n (by decide)]; exact k3⟩, ⟨g5, ?_⟩, (f 6 (by decide) (by decide)).trans k6, (f 5 (by decide) (by decide)).trans k7, by rw [ux_n (by decide)]; exact k8⟩
    rw [ux_s]
    exact cg _ _ _ _ _ (cg _ _ _ _ _ (cg _ _ _ _ _ (cg _ _ _ _ _ (cg _ _ _ _ _ k5 rfl) rfl) rfl) rfl) rfl
  · rw [sp_feed, if_neg hok]
    refine Ct.of (ls := [some (.ref (a 0)), some (.int x0), some (.int x1), some (.int x2), some (.int x3), some (.int x4)]) (by decide) (by decide) rfl rfl rfl ?_
    refine Ev.ald0 dX6_feed_0 ?_
    refine Ev.iconst (v := 0) dX6_feed_1 (by decide) ?_
    refine Ev.mput (kx := 0) dX6_feed_2 fX6_1 hZ rfl rfl (fun M hZ => ?_)
    refine Ev.ald0 dX6_feed_5 ?_
    refine Ev.mgv (kx := 8) dX6_feed_6 fX6_79 hZ rfl ?_
    rw [h8]
    refine Ev.bipush (v := 20) dX6_feed_9 (by decide) ?_
    refine Ev.iadd dX6_feed_11 ?_
    rw [e20]
    refine Ev.sipush (v := 800) dX6_feed_12 (by decide) ?_
    refine Ev.icmp_le (tgt := 20) dX6_feed_15 (by decide) (fun c15 => by first | exact absurd c15 (nI_ge (a := 800) (by omega) (by omega)) | exact absurd (nI_ge (a := 800) (by omega) (by omega)) c15) (fun c15 => ?_)
    refine Ev.iconst (v := -1) dX6_feed_18 (by decide) ?_
    refine Ev.iret dX6_feed_19 rfl rfl ?_
    exact ⟨_, rfl, rfl, _, _, hZ, hR.q QT.rf.t hR.1⟩
end TKH
