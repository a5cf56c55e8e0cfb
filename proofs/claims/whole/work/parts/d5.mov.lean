/-! moves -/
theorem upd_upd {f : Nat → Int32} {i : Nat} {x y : Int32} : upd (upd f i x) i y = upd f i y := by
  funext j
  by_cases c : j = i
  · rw [c, pk_us, pk_us]
  · rw [pk_un c, pk_un c, pk_un c]
section MVQ
variable {f : Nat → Int32} {o : Nat} {x : Int32}
theorem uq_o {a i : Nat} (hi : i < 8) (h2 : i ≠ 2) : upd f (8 * o + 2) x (8 * a + i) = f (8 * a + i) := pk_un (by omega)
theorem skey_q {a t : Nat} : skey (upd f (8 * o + 2) x) a t = skey f a t := by
  simp only [skey, bas0, nea, hid, uq_o (f := f) (o := o) (x := x) (a := a) (i := 1) (by decide) (by decide), uq_o (f := f) (o := o) (x := x) (a := a) (i := 0) (by decide) (by decide), uq_o (f := f) (o := o) (x := x) (a := a) (i := 3) (by decide) (by decide)]
theorem sv_q {sd a t : Nat} (hm : f (8 * o + 1) = 0) : sv (upd f (8 * o + 2) x) sd a t ↔ sv f sd a t := by
  rw [sv, sv, uq_o (i := 7) (by decide) (by decide), uq_o (i := 0) (by decide) (by decide), uq_o (i := 1) (by decide) (by decide), uq_o (i := 4) (by decide) (by decide)]
  by_cases e : a = o
  · have : ¬ f (8 * a + 1) = 3 := by rw [e, hm]; decide
    constructor
    · rintro ⟨h1, h2, h3 | ⟨-, h3, -⟩⟩
      · exact ⟨h1, h2, Or.inl h3⟩
      · exact absurd h3 this
    · rintro ⟨h1, h2, h3 | ⟨-, h3, -⟩⟩
      · exact ⟨h1, h2, Or.inl h3⟩
      · exact absurd h3 this
  · rw [pk_un (show 8 * a + 2 ≠ 8 * o + 2 by omega)]
theorem LSl.qq {n sd : Nat} {s : Nat → Int32} {l : List (Nat × Nat)} (hm : f (8 * o + 1) = 0) (h : LSl f n sd s l) : LSl (upd f (8 * o + 2) x) n sd s l := by
  refine ⟨fun i q hq => by rw [skey_q]; exact h.1 i q hq, ?_, fun a t => by rw [sv_q hm]; exact h.2.2 a t⟩
  have := h.2.1
  simp only [skey_q]
  exact this
theorem tkey_q {a : Nat} : tkey (upd f (8 * o + 2) x) a = tkey f a := by
  simp only [tkey, frm, uq_o (f := f) (o := o) (x := x) (a := a) (i := 0) (by decide) (by decide), uq_o (f := f) (o := o) (x := x) (a := a) (i := 3) (by decide) (by decide)]
theorem TU.qq {n tc : Nat} {tu : Nat → Int32} (h : TU f n tu tc) : TU (upd f (8 * o + 2) x) n tu tc := by
  refine ⟨fun i hi => ?_, h.2.1, fun a ha g1 g2 => ?_⟩
  · obtain ⟨a, a1, a2, a3, a4⟩ := h.1 i hi
    exact ⟨a, a1, by rw [uq_o (i := 7) (by decide) (by decide)]; exact a2, by rw [uq_o (i := 1) (by decide) (by decide)]; exact a3, by rw [tkey_q]; exact a4⟩
  · rw [uq_o (i := 7) (by decide) (by decide)] at g1
    rw [uq_o (i := 1) (by decide) (by decide)] at g2
    rw [tkey_q]
    exact h.2.2 a ha g1 g2
end MVQ
/-- the auction holds book b in rows f -/
def CHf (q : Nat → Nat) (h rr z : Nat) (f b : Nat → Int32) (M : Wd) : Prop := ∃ (r : Nat) (l0 l1 : List (Nat × Nat)) (D : R5) (i1 i2 i3 : Int32) (tr : Nat → Int32), AH (aq q) h rr f b (bn b) r (blo b) (bhi b) l0 l1 D i1 i2 i3 tr M ∧ Inj (AD (aq q) h rr) ∧ (gt M rr = some (ia 0 z f) ∧ 8 * bn b ≤ z ∧ z ≤ 100000) ∧ ∃ (r w : Nat) (ph : Int32), gt M h = some (bk r w (bn b) ph (b 330) (b 331) (b 332))
section MOV
variable {G : GP} {M : Wd} {q : Nat → Nat} {na : Nat} {S : Sg}
theorem CHf.qq {h rr z o : Nat} {f b b' : Nat → Int32} {x : Int32} (hH : CHf q h rr z f b M) (hm : f (8 * o + 1) = 0) (hB : BW 41 b') (e8 : bn b' = bn b) (e0 : b' 330 = b 330) (e1 : b' 331 = b 331) (e2 : b' 332 = b 332) (hA : Ar (bn b) (upd f (8 * o + 2) x) b') : CHf q h rr z (upd f (8 * o + 2) x) b' (up M rr (ia 0 z (upd f (8 * o + 2) x))) := by
  obtain ⟨r, l0, l1, D, i1, i2, i3, tr, ⟨so, po, tc, cn, tu, s0, s1, hs, hO, hc, ⟨t, ov, hp, vo, re, q3, q0, q1, q2, q7, q17, q18⟩, q6, q8, q9, q10, q11, q15, q16⟩, hj, ⟨hr, z1, z2⟩, r', w', ph, hh⟩ := hH
  have el : blo b' = blo b := by rw [blo, blo, e1]
  have eh : bhi b' = bhi b := by rw [bhi, bhi, e2]
  have N : ∀ i, i < 20 → i ≠ 14 → AD (aq q) h rr i ≠ rr := fun i hi hne z => hj i 14 hi (by decide) hne z
  have RR : ∀ {i : Nat} {e : En}, gt M (AD (aq q) h rr i) = some e → i < 20 → i ≠ 14 → gt (up M rr (ia 0 z (upd f (8 * o + 2) x))) (AD (aq q) h rr i) = some e := fun k hi hne => gt_rd (N _ hi hne) k
  have hO' : RO (upd f (8 * o + 2) x) b' tu s0 s1 (bn b') tc r (blo b') (bhi b') l0 l1 := by
    rw [e8, el, eh]
    exact ⟨(by have := hB.2.2.1; rw [e8] at this; exact this.cm hA.sy), hO.hn, hA, by rw [e0]; exact hO.h330, hO.hr, hO.hlo, hO.hlh, hO.hhi, hO.tu.qq, hO.l0.qq hm, hO.l1.qq hm⟩
  refine ⟨r, l0, l1, D, i1, i2, i3, tr, ⟨so, po, tc, cn, tu, s0, s1, hs, hO', hc, ⟨t, ov, hp, vo, re, RR (i := 3) q3 (by decide) (by decide), RR (i := 0) q0 (by decide) (by decide), RR (i := 1) q1 (by decide) (by decide), RR (i := 2) q2 (by decide) (by decide), RR (i := 7) q7 (by decide) (by decide), RR (i := 17) q17 (by decide) (by decide), RR (i := 18) q18 (by decide) (by decide)⟩, RR (i := 6) q6 (by decide) (by decide), RR (i := 8) q8 (by decide) (by decide), RR (i := 9) q9 (by decide) (by decide), RR (i := 10) q10 (by decide) (by decide), RR (i := 11) q11 (by decide) (by decide), RR (i := 15) q15 (by decide) (by decide), RR (i := 16) q16 (by decide) (by decide)⟩, hj, ⟨gt_up hr, by rw [e8]; exact z1, z2⟩, r', w', ph, ?_⟩
  rw [e8, e0, e1, e2]
  exact RR (i := 13) hh (by decide) (by decide)
theorem k_holdF {h rr z r w : Nat} {ph : Int32} {f b : Nat → Int32} (hj : Inj (AD (aq q) h rr)) (hb : BW 41 b) (hB : gt M h = some (bk r w (bn b) ph (b 330) (b 331) (b 332))) (hR : gt M rr = some (ia 0 z f)) (hz : 8 * bn b ≤ z) (hz2 : z ≤ 100000) (hf : Ar (bn b) f b) (hA : AWc (aq q) M) : CtV G mX0_hold [.ref (q 13), .ref h, .ref rr] M 0 0 (fun M' => Fr (afr (aq q)) M M' ∧ AWc (aq q) M' ∧ CHf q h rr z f b M') := by
  obtain ⟨e8, hn, hO, elo, ehi, b1, b2, b3, rf, r1, r2, e0⟩ := hb
  have hB0 := hB
  rw [e0, elo, ehi] at hB
  refine (c_hold (G := G) (m := b) hA hj hB hR hz hz2 (hO.cm hf.sy) hn hf e0 (by omega) b1 b2 b3).imp ?_
  rintro M' ⟨⟨l0, l1, D, i1, i2, i3, tr, hH⟩, hF⟩
  have nb : ∀ i, i < 20 → i ∉ [0, 1, 2, 3, 6, 7, 10, 11, 15, 16, 17, 18] → AD (aq q) h rr i ∉ afr (aq q) := fun i hi hn => nin (js := [0, 1, 2, 3, 6, 7, 10, 11, 15, 16, 17, 18]) hj hi (by decide) hn
  exact ⟨hF, hH.aw, rf, l0, l1, D, i1, i2, i3, tr, hH, hj, ⟨hF.rd (nb 14 (by decide) (by decide)) hR, hz, hz2⟩, r, w, ph, hF.rd (nb 13 (by decide) (by decide)) hB0⟩
theorem k_runF {h rr z : Nat} {f b : Nat → Int32} {x : Int32} (hb : BW 41 b) (hH : CHf q h rr z f b M) : CtV G mX0_run [.ref (q 13), .int x] M 0 0 (fun M' => Fr (afr (aq q)) M M' ∧ AWc (aq q) M' ∧ CX5 q h rr b x M' ∧ CHf q h rr z f b M') := by
  obtain ⟨r, l0, l1, D, i1, i2, i3, tr, hA, hj, ⟨z1, z2, z3⟩, r', w', ph, hB⟩ := hH
  have hB0 := hB
  have e0 : b 330 = nI r := by
    obtain ⟨so, po, tc, cn, tu, s0, s1, hs, hO, -⟩ := hA
    exact hO.h330
  rw [e0, hb.2.2.2.1, hb.2.2.2.2.1] at hB
  have nb : ∀ i, i < 20 → i ∉ [0, 1, 2, 3, 6, 7, 10, 11, 15, 16, 17, 18] → AD (aq q) h rr i ∉ afr (aq q) := fun i hi hn => nin (js := [0, 1, 2, 3, 6, 7, 10, 11, 15, 16, 17, 18]) hj hi (by decide) hn
  refine (c_run (G := G) (x := x) hj hA hB z1 z2 z3).imp ?_
  rintro M2 ⟨⟨D', h1, h2, h3⟩, hF2⟩
  have y1 := hF2.rd (nb 14 (by decide) (by decide)) z1
  have y2 := hF2.rd (nb 13 (by decide) (by decide)) hB0
  exact ⟨hF2, h1.aw, ⟨f, r, l0, l1, D', i3, tr, h1, h2, h3, hj, ⟨z, y1, z2, z3⟩, r', w', ph, y2⟩, r, l0, l1, D', _, _, i3, tr, h1, hj, ⟨y1, z2, z3⟩, r', w', ph, y2⟩
theorem ar_mq {b f : Nat → Int32} {s x sh : Int32} (h : Ar (bn b) f b) (hn : bn b ≤ 40) : Ar (bn b + 1) (upd (add8 f (bn b) s 0 1 0 0 0 0) (8 * bn b + 2) x) (ad1 b s 0 x 0 sh 0 0) := fun j hj => by
  rw [← h.ad1 hn j hj]
  by_cases c : j < 8 * bn b
  · rw [pk_un (by omega), add8_lo (Or.inl c), add8_lo (Or.inl c)]
  · obtain ⟨e0, e1, e2, e3, e4, e5, e6, e7⟩ := add8_at (f := f) (k := bn b) (a0 := s) (a1 := 0) (a2 := 1) (a3 := 0) (a4 := 0) (a5 := 0) (a6 := 0)
    obtain ⟨d0, d1, d2, d3, d4, d5, d6, d7⟩ := add8_at (f := f) (k := bn b) (a0 := s) (a1 := 0) (a2 := x) (a3 := 0) (a4 := sh) (a5 := 0) (a6 := 0)
    have : j = 8 * bn b + 0 ∨ j = 8 * bn b + 1 ∨ j = 8 * bn b + 2 ∨ j = 8 * bn b + 3 ∨ j = 8 * bn b + 4 ∨ j = 8 * bn b + 5 ∨ j = 8 * bn b + 6 ∨ j = 8 * bn b + 7 := by omega
    rcases this with e | e | e | e | e | e | e | e <;> rw [e]
    · rw [pk_un (by omega), e0, d0]
    · rw [pk_un (by omega), e1, d1]
    · rw [pk_us, d2]
    · rw [pk_un (by omega), e3, d3]
    · rw [pk_un (by omega), e4, d4, if_neg (by decide), if_neg (by decide)]
    · rw [pk_un (by omega), e5, d5]
    · rw [pk_un (by omega), e6, d6]
    · rw [pk_un (by omega), e7, d7]
set_option maxRecDepth 20000 in
theorem k_moves {s k : Int32} (hC : CR q na S M) (hS : Sok S) : CtI G mX5_moves [.ref (q 0), .int s, .int k] M 0 0 (fun x M' => x = an_moves S s k ∧ KR q S M M') := by
  have hC0 := hC
  obtain ⟨⟨hj, hna⟩, h0, h1, h2, hA, ⟨f, g, g40, g41, g42, gf, gw⟩, -⟩ := hC
  have hn := hS.1.1.2.1
  have no : ∀ a3 a4 a5, ¬ ((0 ≤ s ∧ s ≤ 1) ∧ (0 ≤ k ∧ k ≤ 1) ∧ S.1.1 329 ≠ 2) → Ev G mX5_moves 27 [some (.ref (q 0)), some (.int s), some (.int k), a3, a4, a5] [] M 0 0 (fun v M' => ∃ x : Int32, v = some (.int x) ∧ x = an_moves S s k ∧ KR q S M M') := by
    intro a3 a4 a5 hno
    refine Ev.iconst (v := -1) dX5_moves_27 (by decide) ?_
    refine Ev.iret dX5_moves_28 rfl rfl ?_
    rw [an_moves, if_neg hno]
    exact ⟨_, rfl, rfl, q, na, hC0, SQ.rf, Fr.rf⟩
  have hQ : ∀ x : Nat, 1 ≤ x → x ≤ 200 → (0 ≤ s ∧ s ≤ 1) → BW 41 (ad1 S.1.1 s 0 (nI x) 0 (nI x) 0 0) := by
    intro x x1 x2 t1
    have p0 : (0 : Int32) ≤ nI x := nI_pos' (by omega)
    exact (hS.1.1.ad1 (s := s) (k := 0) (q := nI x) (p := 0) (sh := nI x) (le := 0) (ow := 0) ⟨t1, by decide, ⟨(nI_leI (a := 1) (by omega) (by omega)).mpr x1, (nI_leI (b := 9999) (by omega) (by omega)).mpr (by omega)⟩, Or.inl rfl⟩ (Or.inl (by decide)) ⟨by decide, p0⟩ (by decide)).mono (by omega)
  have LL : (0 ≤ s ∧ s ≤ 1) ∧ (0 ≤ k ∧ k ≤ 1) ∧ S.1.1 329 ≠ 2 → ∀ (d x : Nat), x + d = 201 → 1 ≤ x → ∀ (M1 : Wd) (F b9 : Nat → Int32), CR q na S M1 → CHf q (q 43) (q 44) 328 F b9 M1 → (bn b9 = bn S.1.1 + 1 ∧ b9 330 = S.1.1 330 ∧ b9 331 = S.1.1 331 ∧ b9 332 = S.1.1 332) → (∀ y sh, Ar (bn S.1.1 + 1) (upd F (8 * bn S.1.1 + 2) y) (ad1 S.1.1 s 0 y 0 sh 0 0)) → Fr (qfr q) M M1 → mvs S.1.1 s k (xP S.1.1 (-1)).1 d x = an_moves S s k → Ev G mX5_moves 92 [some (.ref (q 0)), some (.int s), some (.int k), some (.int (xP S.1.1 (-1)).1), some (.int (nI (bn S.1.1))), some (.int (nI x))] [] M1 0 0 (fun v M' => ∃ x : Int32, v = some (.int x) ∧ x = an_moves S s k ∧ KR q S M M') := by
    intro hok d
    induction d with
    | zero =>
      intro x hx x1 M1 F b9 hC1 hH1 hb9 hF hFr hm
      refine Ev.ild5 dX5_moves_92 ?_
      refine Ev.sipush (v := 200) dX5_moves_94 (by decide) ?_
      refine Ev.icmp_gt (tgt := 160) dX5_moves_97 (by decide) (fun _ => ?_) (fun c9 => absurd ((nI_ltI (a := 200) (by omega) (by omega)).mpr (by omega)) c9)
      refine Ev.iconst (v := -1) dX5_moves_160 (by decide) ?_
      refine Ev.iret dX5_moves_161 rfl rfl ?_
      exact ⟨_, rfl, by rw [← hm]; rfl, q, na, hC1, SQ.rf, hFr⟩
    | succ d ih =>
      intro x hx x1 M1 F b9 hC1 hH1 hb9 hF hFr hm
      have hC1' := hC1
      have k0 := hC1.2.1
      obtain ⟨f1, g1, k40, k41, k42, kf, kw⟩ := hC1.2.2.2.2.2.1
      obtain ⟨n9, p9, r9, lo9, hi9, f9, g9, d43, d44, d45⟩ := hC1.2.2.2.2.2.2
      have d44' : gt M1 (q 44) = some (ia 0 328 F) := by
        obtain ⟨r, l0, l1, D, i1, i2, i3, tr, -, -, ⟨z1, -⟩, -⟩ := hH1
        exact z1
      refine Ev.ild5 dX5_moves_92 ?_
      refine Ev.sipush (v := 200) dX5_moves_94 (by decide) ?_
      refine Ev.icmp_gt (tgt := 160) dX5_moves_97 (by decide) (fun c9 => absurd ((nI_ltI (a := 200) (by omega) (by omega)).mp c9) (by omega)) (fun _ => ?_)
      refine Ev.ald0 dX5_moves_100 ?_
      apply Ev.getf dX5_moves_101 fX5_23
      · repeat (first | assumption | (refine gt_upI ?_; (repeat (first | exact In_of (gt_nw (by assumption)) | (apply In_of; assumption) | refine In_up ?_ | refine In_nw ?_)); done) | refine gt_rd (by first | assumption | (apply Ne.symm; assumption) | (exact hj _ _ (by omega) (by omega) (by omega)) | omega) ?_ | exact gt_nw (by assumption) | refine gt_odr (by first | assumption | (apply Ne.symm; assumption) | omega) ?_)
      · first | rfl | assumption
      refine Ev.ild4 dX5_moves_104 ?_
      refine Ev.iconst (v := 2) dX5_moves_106 (by decide) ?_
      refine Ev.ild5 dX5_moves_107 ?_
      refine Ev.cvV (Yc := mX2_set) (ci := 2) dX5_moves_109 lX5_101 vX2_set rfl (c_set (bn S.1.1) 2 rfl rfl d43 d44' (by omega) (by omega)) ?_ rfl rfl rfl rfl ?_
      · apply Exists.intro; repeat (first | assumption | (refine gt_upI ?_; (repeat (first | exact In_of (gt_nw (by assumption)) | (apply In_of; assumption) | refine In_up ?_ | refine In_nw ?_)); done) | refine gt_rd (by first | assumption | (apply Ne.symm; assumption) | (exact hj _ _ (by omega) (by omega) (by omega)) | omega) ?_ | exact gt_nw (by assumption) | refine gt_odr (by first | assumption | (apply Ne.symm; assumption) | omega) ?_)
      rintro M2 rfl
      have hB := hQ x x1 (by omega) hok.1
      have ebn : bn (ad1 S.1.1 s 0 (nI x) 0 (nI x) 0 0) = bn S.1.1 + 1 := ad1_n hn
      have hm1 : F (8 * bn S.1.1 + 1) = 0 := by
        have := hF 0 0 (8 * bn S.1.1 + 1) (by omega)
        rw [pk_un (by omega)] at this
        rw [this, COpenCrossLaw_law_r5060_e2f5b9.ad1, pk_un (by omega)]
        exact (add8_at (f := S.1.1) (k := bn S.1.1) (a0 := s) (a1 := 0) (a2 := 0) (a3 := 0) (a4 := 0) (a5 := 0) (a6 := 0)).2.1
      have hH2 := hH1.qq (o := bn S.1.1) (x := nI x) (b' := ad1 S.1.1 s 0 (nI x) 0 (nI x) 0 0) hm1 hB (by rw [ebn, hb9.1]) (by rw [ad1_hi hn (by decide), hb9.2.1]) (by rw [ad1_hi hn (by decide), hb9.2.2.1]) (by rw [ad1_hi hn (by decide), hb9.2.2.2]) (by rw [hb9.1]; exact hF (nI x) (nI x))
      have hFX : Fr ([43, 44, 45].map q) M1 (up M1 (q 44) (ia 0 328 (upd F (8 * bn S.1.1 + 2) (nI x)))) := Fr.rf.pt (by simp)
      have hC2 : CR q na S (up M1 (q 44) (ia 0 328 (upd F (8 * bn S.1.1 + 2) (nI x)))) := hC1'.dr hFX ⟨_, _, _, _, _, _, _, gt_rd (hj _ _ (by decide) (by decide) (by decide)) d43, gt_up d44', gt_rd (hj _ _ (by decide) (by decide) (by decide)) d45⟩
      generalize hX : up M1 (q 44) (ia 0 328 (upd F (8 * bn S.1.1 + 2) (nI x))) = X at *
      have l0 := hC2.2.1
      obtain ⟨fs2, k13⟩ := hC2.2.2.2.2.1.ob
      have k13' : gt X (q 13) = some (ob 0 fs2) := k13
      refine Ev.ald0 dX5_moves_112 ?_
      apply Ev.getf dX5_moves_113 fX5_31
      · repeat (first | assumption | (refine gt_upI ?_; (repeat (first | exact In_of (gt_nw (by assumption)) | (apply In_of; assumption) | refine In_up ?_ | refine In_nw ?_)); done) | refine gt_rd (by first | assumption | (apply Ne.symm; assumption) | (exact hj _ _ (by omega) (by omega) (by omega)) | omega) ?_ | exact gt_nw (by assumption) | refine gt_odr (by first | assumption | (apply Ne.symm; assumption) | omega) ?_)
      · first | rfl | assumption
      refine Ev.iconst (v := -1) dX5_moves_116 (by decide) ?_
      refine Ev.cvV (Yc := mX0_run) (ci := 0) dX5_moves_117 lX5_241 vX0_run rfl (k_runF (x := -1) hB hH2) ?_ rfl rfl rfl rfl ?_
      · apply Exists.intro; repeat (first | assumption | (refine gt_upI ?_; (repeat (first | exact In_of (gt_nw (by assumption)) | (apply In_of; assumption) | refine In_up ?_ | refine In_nw ?_)); done) | refine gt_rd (by first | assumption | (apply Ne.symm; assumption) | (exact hj _ _ (by omega) (by omega) (by omega)) | omega) ?_ | exact gt_nw (by assumption) | refine gt_odr (by first | assumption | (apply Ne.symm; assumption) | omega) ?_)
      rintro M3 ⟨hF3, hA3, hX3, hH3⟩
      have hC3 := hC2.au hF3 hA3
      have m0 := hC3.2.1
      obtain ⟨g3, i1, i2, i3, i4, x13, x11, e0, -, -⟩ := hX3.pr
      have x11' : gt M3 (AD (aq q) (q 43) (q 44) 1) = some (cc g3) := x11
      have hFr3 := (hFr.tr (hFX.q (by decide))).tr (Fr.q (js := afj) hF3 (by decide))
      rw [mvs] at hm
      refine Ev.ald0 dX5_moves_120 ?_
      apply Ev.getf dX5_moves_121 fX5_31
      · repeat (first | assumption | (refine gt_upI ?_; (repeat (first | exact In_of (gt_nw (by assumption)) | (apply In_of; assumption) | refine In_up ?_ | refine In_nw ?_)); done) | refine gt_rd (by first | assumption | (apply Ne.symm; assumption) | (exact hj _ _ (by omega) (by omega) (by omega)) | omega) ?_ | exact gt_nw (by assumption) | refine gt_odr (by first | assumption | (apply Ne.symm; assumption) | omega) ?_)
      · first | rfl | assumption
      apply Ev.getr dX5_moves_124 fX5_128
      · repeat (first | assumption | (refine gt_upI ?_; (repeat (first | exact In_of (gt_nw (by assumption)) | (apply In_of; assumption) | refine In_up ?_ | refine In_nw ?_)); done) | refine gt_rd (by first | assumption | (apply Ne.symm; assumption) | (exact hj _ _ (by omega) (by omega) (by omega)) | omega) ?_ | exact gt_nw (by assumption) | refine gt_odr (by first | assumption | (apply Ne.symm; assumption) | omega) ?_)
      · first | rfl | assumption
      apply Ev.getf dX5_moves_127 fX5_137
      · repeat (first | assumption | (refine gt_upI ?_; (repeat (first | exact In_of (gt_nw (by assumption)) | (apply In_of; assumption) | refine In_up ?_ | refine In_nw ?_)); done) | refine gt_rd (by first | assumption | (apply Ne.symm; assumption) | (exact hj _ _ (by omega) (by omega) (by omega)) | omega) ?_ | exact gt_nw (by assumption) | refine gt_odr (by first | assumption | (apply Ne.symm; assumption) | omega) ?_)
      · first | rfl | assumption
      refine Ev.ild3 dX5_moves_130 ?_
      refine Ev.icmp_eq (tgt := 154) dX5_moves_131 (by decide) (fun c131 => ?_) (fun c131 => ?_)
      · rw [if_pos (by rw [← e0]; exact c131)] at hm
        apply Ev.iinc5 dX5_moves_154 rfl rfl
        · first | exact nI_inc _ | rfl
        refine Ev.goto (tgt := 92) dX5_moves_157 (by decide) ?_
        exact ih (x + 1) (by omega) (by omega) M3 (upd F (8 * bn S.1.1 + 2) (nI x)) _ hC3 hH3 ⟨ebn, ad1_hi hn (by decide), ad1_hi hn (by decide), ad1_hi hn (by decide)⟩ (fun y sh => by rw [upd_upd]; exact hF y sh) hFr3 hm
      · rw [if_neg (by rw [← e0]; exact c131)] at hm
        refine Ev.ild2 dX5_moves_134 ?_
        refine Ev.if_ne (tgt := 143) dX5_moves_135 (by decide) (fun c135 => ?_) (fun c135 => ?_)
        · rw [if_neg c135] at hm
          refine Ev.ald0 dX5_moves_143 ?_
          apply Ev.getf dX5_moves_144 fX5_31
          · repeat (first | assumption | (refine gt_upI ?_; (repeat (first | exact In_of (gt_nw (by assumption)) | (apply In_of; assumption) | refine In_up ?_ | refine In_nw ?_)); done) | refine gt_rd (by first | assumption | (apply Ne.symm; assumption) | (exact hj _ _ (by omega) (by omega) (by omega)) | omega) ?_ | exact gt_nw (by assumption) | refine gt_odr (by first | assumption | (apply Ne.symm; assumption) | omega) ?_)
          · first | rfl | assumption
          apply Ev.getr dX5_moves_147 fX5_128
          · repeat (first | assumption | (refine gt_upI ?_; (repeat (first | exact In_of (gt_nw (by assumption)) | (apply In_of; assumption) | refine In_up ?_ | refine In_nw ?_)); done) | refine gt_rd (by first | assumption | (apply Ne.symm; assumption) | (exact hj _ _ (by omega) (by omega) (by omega)) | omega) ?_ | exact gt_nw (by assumption) | refine gt_odr (by first | assumption | (apply Ne.symm; assumption) | omega) ?_)
          · first | rfl | assumption
          apply Ev.getf dX5_moves_150 fX5_137
          · repeat (first | assumption | (refine gt_upI ?_; (repeat (first | exact In_of (gt_nw (by assumption)) | (apply In_of; assumption) | refine In_up ?_ | refine In_nw ?_)); done) | refine gt_rd (by first | assumption | (apply Ne.symm; assumption) | (exact hj _ _ (by omega) (by omega) (by omega)) | omega) ?_ | exact gt_nw (by assumption) | refine gt_odr (by first | assumption | (apply Ne.symm; assumption) | omega) ?_)
          · first | rfl | assumption
          refine Ev.iret dX5_moves_153 rfl rfl ?_
          exact ⟨_, rfl, by rw [← hm]; exact e0, q, na, hC3, SQ.rf, hFr3⟩
        · have c135' : k = 0 := c135
          rw [if_pos c135'] at hm
          refine Ev.ild5 dX5_moves_138 ?_
          refine Ev.goto (tgt := 153) dX5_moves_140 (by decide) ?_
          refine Ev.iret dX5_moves_153 rfl rfl ?_
          exact ⟨_, rfl, by rw [← hm], q, na, hC3, SQ.rf, hFr3⟩
  refine Ct.of (ls := [some (.ref (q 0)), some (.int s), some (.int k), none, none, none]) (by decide) (by decide) rfl rfl rfl ?_
  refine Ev.ald0 dX5_moves_0 ?_
  apply Ev.getf dX5_moves_1 fX5_19
  · repeat (first | assumption | (refine gt_upI ?_; (repeat (first | exact In_of (gt_nw (by assumption)) | (apply In_of; assumption) | refine In_up ?_ | refine In_nw ?_)); done) | refine gt_rd (by first | assumption | (apply Ne.symm; assumption) | (exact hj _ _ (by omega) (by omega) (by omega)) | omega) ?_ | exact gt_nw (by assumption) | refine gt_odr (by first | assumption | (apply Ne.symm; assumption) | omega) ?_)
  · first | rfl | assumption
  apply Ev.getf dX5_moves_4 fX5_80
  · repeat (first | assumption | (refine gt_upI ?_; (repeat (first | exact In_of (gt_nw (by assumption)) | (apply In_of; assumption) | refine In_up ?_ | refine In_nw ?_)); done) | refine gt_rd (by first | assumption | (apply Ne.symm; assumption) | (exact hj _ _ (by omega) (by omega) (by omega)) | omega) ?_ | exact gt_nw (by assumption) | refine gt_odr (by first | assumption | (apply Ne.symm; assumption) | omega) ?_)
  · first | rfl | assumption
  refine Ev.iconst (v := 2) dX5_moves_7 (by decide) ?_
  refine Ev.icmp_eq (tgt := 27) dX5_moves_8 (by decide) (fun c8 => ?_) (fun c8 => ?_)
  · exact no _ _ _ (fun z => z.2.2 c8)
  · refine Ev.ild1 dX5_moves_11 ?_
    refine Ev.csI (Yc := mX5_isSide) dX5_moves_12 lX5_209 vX5_isSide rfl k_isSide rfl rfl rfl ?_
    rintro y M' ⟨hy, rfl⟩
    refine Ev.if_eq (tgt := 27) dX5_moves_15 (by decide) (fun c15 => ?_) (fun c15 => ?_)
    · exact no _ _ _ (fun z => if1_f hy c15 (sd01.mpr z.1))
    · have t1 := sd01.mp (if1_t hy c15)
      refine Ev.ild2 dX5_moves_18 ?_
      refine Ev.iconst (v := 0) dX5_moves_19 (by decide) ?_
      refine Ev.iconst (v := 1) dX5_moves_20 (by decide) ?_
      refine Ev.csI (Yc := mX5_within) dX5_moves_21 lX5_76 vX5_within rfl k_within rfl rfl rfl ?_
      rintro y2 M' ⟨hy2, rfl⟩
      refine Ev.if_ne (tgt := 29) dX5_moves_24 (by decide) (fun c24 => ?_) (fun c24 => ?_)
      · have t2 := if1_t hy2 c24
        refine Ev.ald0 dX5_moves_29 ?_
        refine Ev.cvV (Yc := mX5_runCross) (ci := 5) dX5_moves_30 lX5_112 vX5_runCross rfl (k_runCross hC0 hS) ?_ rfl rfl rfl rfl ?_
        · apply Exists.intro; repeat (first | assumption | (refine gt_upI ?_; (repeat (first | exact In_of (gt_nw (by assumption)) | (apply In_of; assumption) | refine In_up ?_ | refine In_nw ?_)); done) | refine gt_rd (by first | assumption | (apply Ne.symm; assumption) | (exact hj _ _ (by omega) (by omega) (by omega)) | omega) ?_ | exact gt_nw (by assumption) | refine gt_odr (by first | assumption | (apply Ne.symm; assumption) | omega) ?_)
        rintro M1 ⟨hF, hC1, hX⟩
        rw [if_neg c8, show bas S = S.1.1 from if_neg c8] at hX
        have k0 := hC1.2.1
        obtain ⟨g3, i1, i2, i3, i4, x13, x11, e0, -, -⟩ := hX.pr
        have x11' : gt M1 (AD (aq q) (q 40) (q 41) 1) = some (cc g3) := x11
        obtain ⟨f1, g1, k40, k41, k42, kf, kw⟩ := hC1.2.2.2.2.2.1
        obtain ⟨n9, p9, r9, lo9, hi9, f9, g9, d43, d44, d45⟩ := hC1.2.2.2.2.2.2
        refine Ev.ald0 dX5_moves_33 ?_
        apply Ev.getf dX5_moves_34 fX5_31
        · repeat (first | assumption | (refine gt_upI ?_; (repeat (first | exact In_of (gt_nw (by assumption)) | (apply In_of; assumption) | refine In_up ?_ | refine In_nw ?_)); done) | refine gt_rd (by first | assumption | (apply Ne.symm; assumption) | (exact hj _ _ (by omega) (by omega) (by omega)) | omega) ?_ | exact gt_nw (by assumption) | refine gt_odr (by first | assumption | (apply Ne.symm; assumption) | omega) ?_)
        · first | rfl | assumption
        apply Ev.getr dX5_moves_37 fX5_128
        · repeat (first | assumption | (refine gt_upI ?_; (repeat (first | exact In_of (gt_nw (by assumption)) | (apply In_of; assumption) | refine In_up ?_ | refine In_nw ?_)); done) | refine gt_rd (by first | assumption | (apply Ne.symm; assumption) | (exact hj _ _ (by omega) (by omega) (by omega)) | omega) ?_ | exact gt_nw (by assumption) | refine gt_odr (by first | assumption | (apply Ne.symm; assumption) | omega) ?_)
        · first | rfl | assumption
        apply Ev.getf dX5_moves_40 fX5_137
        · repeat (first | assumption | (refine gt_upI ?_; (repeat (first | exact In_of (gt_nw (by assumption)) | (apply In_of; assumption) | refine In_up ?_ | refine In_nw ?_)); done) | refine gt_rd (by first | assumption | (apply Ne.symm; assumption) | (exact hj _ _ (by omega) (by omega) (by omega)) | omega) ?_ | exact gt_nw (by assumption) | refine gt_odr (by first | assumption | (apply Ne.symm; assumption) | omega) ?_)
        · first | rfl | assumption
        refine Ev.ist3 dX5_moves_43 rfl rfl ?_
        refine Ev.ald0 dX5_moves_44 ?_
        apply Ev.getf dX5_moves_45 fX5_23
        · repeat (first | assumption | (refine gt_upI ?_; (repeat (first | exact In_of (gt_nw (by assumption)) | (apply In_of; assumption) | refine In_up ?_ | refine In_nw ?_)); done) | refine gt_rd (by first | assumption | (apply Ne.symm; assumption) | (exact hj _ _ (by omega) (by omega) (by omega)) | omega) ?_ | exact gt_nw (by assumption) | refine gt_odr (by first | assumption | (apply Ne.symm; assumption) | omega) ?_)
        · first | rfl | assumption
        refine Ev.ald0 dX5_moves_48 ?_
        apply Ev.getf dX5_moves_49 fX5_19
        · repeat (first | assumption | (refine gt_upI ?_; (repeat (first | exact In_of (gt_nw (by assumption)) | (apply In_of; assumption) | refine In_up ?_ | refine In_nw ?_)); done) | refine gt_rd (by first | assumption | (apply Ne.symm; assumption) | (exact hj _ _ (by omega) (by omega) (by omega)) | omega) ?_ | exact gt_nw (by assumption) | refine gt_odr (by first | assumption | (apply Ne.symm; assumption) | omega) ?_)
        · first | rfl | assumption
        rw [e0]
        refine Ev.cvV (Yc := mX2_become) (ci := 2) dX5_moves_52 lX5_83 vX2_become rfl (k_become hC1 hS) ?_ rfl rfl rfl rfl ?_
        · apply Exists.intro; repeat (first | assumption | (refine gt_upI ?_; (repeat (first | exact In_of (gt_nw (by assumption)) | (apply In_of; assumption) | refine In_up ?_ | refine In_nw ?_)); done) | refine gt_rd (by first | assumption | (apply Ne.symm; assumption) | (exact hj _ _ (by omega) (by omega) (by omega)) | omega) ?_ | exact gt_nw (by assumption) | refine gt_odr (by first | assumption | (apply Ne.symm; assumption) | omega) ?_)
        rintro M2 ⟨f', hf', rfl⟩
        generalize hXX : up (up M1 (q 43) _) (q 44) _ = X
        have x43 : gt X (q 43) = some (bk (q 44) (q 45) (bn S.1.1) (S.1.1 329) (S.1.1 330) (S.1.1 331) (S.1.1 332)) := by rw [← hXX]; exact (by repeat (first | assumption | (refine gt_upI ?_; (repeat (first | exact In_of (gt_nw (by assumption)) | (apply In_of; assumption) | refine In_up ?_ | refine In_nw ?_)); done) | refine gt_rd (by first | assumption | (apply Ne.symm; assumption) | (exact hj _ _ (by omega) (by omega) (by omega)) | omega) ?_ | exact gt_nw (by assumption) | refine gt_odr (by first | assumption | (apply Ne.symm; assumption) | omega) ?_))
        have x44 : gt X (q 44) = some (ia 0 328 f') := by rw [← hXX]; exact (by repeat (first | assumption | (refine gt_upI ?_; (repeat (first | exact In_of (gt_nw (by assumption)) | (apply In_of; assumption) | refine In_up ?_ | refine In_nw ?_)); done) | refine gt_rd (by first | assumption | (apply Ne.symm; assumption) | (exact hj _ _ (by omega) (by omega) (by omega)) | omega) ?_ | exact gt_nw (by assumption) | refine gt_odr (by first | assumption | (apply Ne.symm; assumption) | omega) ?_))
        have x45 : gt X (q 45) = some (ia 0 320 g9) := by rw [← hXX]; exact (by repeat (first | assumption | (refine gt_upI ?_; (repeat (first | exact In_of (gt_nw (by assumption)) | (apply In_of; assumption) | refine In_up ?_ | refine In_nw ?_)); done) | refine gt_rd (by first | assumption | (apply Ne.symm; assumption) | (exact hj _ _ (by omega) (by omega) (by omega)) | omega) ?_ | exact gt_nw (by assumption) | refine gt_odr (by first | assumption | (apply Ne.symm; assumption) | omega) ?_))
        have hFX : Fr ([43, 44, 45].map q) M1 X := by rw [← hXX]; exact (Fr.rf.pt (by simp)).pt (by simp)
        have l0 := (hC1.dr hFX ⟨_, _, _, _, _, _, _, x43, x44, x45⟩).2.1
        refine Ev.ald0 dX5_moves_55 ?_
        apply Ev.getf dX5_moves_56 fX5_23
        · repeat (first | assumption | (refine gt_upI ?_; (repeat (first | exact In_of (gt_nw (by assumption)) | (apply In_of; assumption) | refine In_up ?_ | refine In_nw ?_)); done) | refine gt_rd (by first | assumption | (apply Ne.symm; assumption) | (exact hj _ _ (by omega) (by omega) (by omega)) | omega) ?_ | exact gt_nw (by assumption) | refine gt_odr (by first | assumption | (apply Ne.symm; assumption) | omega) ?_)
        · first | rfl | assumption
        refine Ev.ild1 dX5_moves_59 ?_
        refine Ev.iconst (v := 0) dX5_moves_60 (by decide) ?_
        refine Ev.iconst (v := 1) dX5_moves_61 (by decide) ?_
        refine Ev.iconst (v := 0) dX5_moves_62 (by decide) ?_
        refine Ev.iconst (v := 0) dX5_moves_63 (by decide) ?_
        refine Ev.iconst (v := 0) dX5_moves_64 (by decide) ?_
        refine Ev.iconst (v := 0) dX5_moves_65 (by decide) ?_
        refine Ev.cvI (Yc := mX2_add) (ci := 2) dX5_moves_66 lX5_86 vX2_add rfl (c_add x43 x44 (by omega) (hj _ _ (by decide) (by decide) (by decide))) ?_ rfl rfl rfl rfl ?_
        · apply Exists.intro; repeat (first | assumption | (refine gt_upI ?_; (repeat (first | exact In_of (gt_nw (by assumption)) | (apply In_of; assumption) | refine In_up ?_ | refine In_nw ?_)); done) | refine gt_rd (by first | assumption | (apply Ne.symm; assumption) | (exact hj _ _ (by omega) (by omega) (by omega)) | omega) ?_ | exact gt_nw (by assumption) | refine gt_odr (by first | assumption | (apply Ne.symm; assumption) | omega) ?_)
        rintro y3 M3 ⟨rfl, rfl⟩
        generalize hYY : up (up X (q 43) _) (q 44) _ = Y
        have y43 : gt Y (q 43) = some (bk (q 44) (q 45) (bn S.1.1 + 1) (S.1.1 329) (S.1.1 330) (S.1.1 331) (S.1.1 332)) := by rw [← hYY]; exact (by repeat (first | assumption | (refine gt_upI ?_; (repeat (first | exact In_of (gt_nw (by assumption)) | (apply In_of; assumption) | refine In_up ?_ | refine In_nw ?_)); done) | refine gt_rd (by first | assumption | (apply Ne.symm; assumption) | (exact hj _ _ (by omega) (by omega) (by omega)) | omega) ?_ | exact gt_nw (by assumption) | refine gt_odr (by first | assumption | (apply Ne.symm; assumption) | omega) ?_))
        have y44 : gt Y (q 44) = some (ia 0 328 (add8 f' (bn S.1.1) s 0 1 0 0 0 0)) := by rw [← hYY]; exact (by repeat (first | assumption | (refine gt_upI ?_; (repeat (first | exact In_of (gt_nw (by assumption)) | (apply In_of; assumption) | refine In_up ?_ | refine In_nw ?_)); done) | refine gt_rd (by first | assumption | (apply Ne.symm; assumption) | (exact hj _ _ (by omega) (by omega) (by omega)) | omega) ?_ | exact gt_nw (by assumption) | refine gt_odr (by first | assumption | (apply Ne.symm; assumption) | omega) ?_))
        have y45 : gt Y (q 45) = some (ia 0 320 g9) := by rw [← hYY]; exact (by repeat (first | assumption | (refine gt_upI ?_; (repeat (first | exact In_of (gt_nw (by assumption)) | (apply In_of; assumption) | refine In_up ?_ | refine In_nw ?_)); done) | refine gt_rd (by first | assumption | (apply Ne.symm; assumption) | (exact hj _ _ (by omega) (by omega) (by omega)) | omega) ?_ | exact gt_nw (by assumption) | refine gt_odr (by first | assumption | (apply Ne.symm; assumption) | omega) ?_))
        have hFY : Fr ([43, 44, 45].map q) M1 Y := by rw [← hYY]; exact (hFX.pt (by simp)).pt (by simp)
        have hCY := hC1.dr hFY ⟨_, _, _, _, _, _, _, y43, y44, y45⟩
        have m0 := hCY.2.1
        have hAY := hCY.2.2.2.2.1
        obtain ⟨fsy, y13⟩ := hAY.ob
        have y13' : gt Y (q 13) = some (ob 0 fsy) := y13
        have hB := hQ 1 (by omega) (by omega) t1
        have ebn : bn (ad1 S.1.1 s 0 (nI 1) 0 (nI 1) 0 0) = bn S.1.1 + 1 := ad1_n hn
        have y43' : gt Y (q 43) = some (bk (q 44) (q 45) (bn (ad1 S.1.1 s 0 (nI 1) 0 (nI 1) 0 0)) (S.1.1 329) (ad1 S.1.1 s 0 (nI 1) 0 (nI 1) 0 0 330) (ad1 S.1.1 s 0 (nI 1) 0 (nI 1) 0 0 331) (ad1 S.1.1 s 0 (nI 1) 0 (nI 1) 0 0 332)) := by rw [ebn, ad1_hi hn (show 328 < 330 by decide), ad1_hi hn (show 328 < 331 by decide), ad1_hi hn (show 328 < 332 by decide)]; exact y43
        have hAr : Ar (bn S.1.1 + 1) (add8 f' (bn S.1.1) s 0 1 0 0 0 0) (ad1 S.1.1 s 0 (nI 1) 0 (nI 1) 0 0) := by
          have e : upd (add8 f' (bn S.1.1) s 0 1 0 0 0 0) (8 * bn S.1.1 + 2) (nI 1) = add8 f' (bn S.1.1) s 0 1 0 0 0 0 := by
            funext j
            by_cases c : j = 8 * bn S.1.1 + 2
            · rw [c, pk_us]
              exact (add8_at (f := f') (k := bn S.1.1) (a0 := s) (a1 := 0) (a2 := 1) (a3 := 0) (a4 := 0) (a5 := 0) (a6 := 0)).2.2.1.symm
            · rw [pk_un c]
          have := ar_mq (s := s) (x := nI 1) (sh := nI 1) hf' hn
          rw [e] at this
          exact this
        refine Ev.ist4 dX5_moves_69 rfl rfl ?_
        refine Ev.ald0 dX5_moves_71 ?_
        apply Ev.getf dX5_moves_72 fX5_31
        · repeat (first | assumption | (refine gt_upI ?_; (repeat (first | exact In_of (gt_nw (by assumption)) | (apply In_of; assumption) | refine In_up ?_ | refine In_nw ?_)); done) | refine gt_rd (by first | assumption | (apply Ne.symm; assumption) | (exact hj _ _ (by omega) (by omega) (by omega)) | omega) ?_ | exact gt_nw (by assumption) | refine gt_odr (by first | assumption | (apply Ne.symm; assumption) | omega) ?_)
        · first | rfl | assumption
        refine Ev.ald0 dX5_moves_75 ?_
        apply Ev.getf dX5_moves_76 fX5_23
        · repeat (first | assumption | (refine gt_upI ?_; (repeat (first | exact In_of (gt_nw (by assumption)) | (apply In_of; assumption) | refine In_up ?_ | refine In_nw ?_)); done) | refine gt_rd (by first | assumption | (apply Ne.symm; assumption) | (exact hj _ _ (by omega) (by omega) (by omega)) | omega) ?_ | exact gt_nw (by assumption) | refine gt_odr (by first | assumption | (apply Ne.symm; assumption) | omega) ?_)
        · first | rfl | assumption
        refine Ev.ald0 dX5_moves_79 ?_
        apply Ev.getf dX5_moves_80 fX5_23
        · repeat (first | assumption | (refine gt_upI ?_; (repeat (first | exact In_of (gt_nw (by assumption)) | (apply In_of; assumption) | refine In_up ?_ | refine In_nw ?_)); done) | refine gt_rd (by first | assumption | (apply Ne.symm; assumption) | (exact hj _ _ (by omega) (by omega) (by omega)) | omega) ?_ | exact gt_nw (by assumption) | refine gt_odr (by first | assumption | (apply Ne.symm; assumption) | omega) ?_)
        · first | rfl | assumption
        apply Ev.getr dX5_moves_83 fX5_212
        · repeat (first | assumption | (refine gt_upI ?_; (repeat (first | exact In_of (gt_nw (by assumption)) | (apply In_of; assumption) | refine In_up ?_ | refine In_nw ?_)); done) | refine gt_rd (by first | assumption | (apply Ne.symm; assumption) | (exact hj _ _ (by omega) (by omega) (by omega)) | omega) ?_ | exact gt_nw (by assumption) | refine gt_odr (by first | assumption | (apply Ne.symm; assumption) | omega) ?_)
        · first | rfl | assumption
        refine Ev.cvV (Yc := mX0_hold) (ci := 0) dX5_moves_86 lX5_215 vX0_hold rfl (k_holdF (rr := q 44) (b := ad1 S.1.1 s 0 (nI 1) 0 (nI 1) 0 0) (hj.ad (by decide) (by decide) (by decide) (by decide) (by decide)) hB y43' y44 (by omega) (by omega) (by rw [ebn]; exact hAr) hAY) ?_ rfl rfl rfl rfl ?_
        · apply Exists.intro; repeat (first | assumption | (refine gt_upI ?_; (repeat (first | exact In_of (gt_nw (by assumption)) | (apply In_of; assumption) | refine In_up ?_ | refine In_nw ?_)); done) | refine gt_rd (by first | assumption | (apply Ne.symm; assumption) | (exact hj _ _ (by omega) (by omega) (by omega)) | omega) ?_ | exact gt_nw (by assumption) | refine gt_odr (by first | assumption | (apply Ne.symm; assumption) | omega) ?_)
        rintro M4 ⟨hF4, hA4, hH4⟩
        have hC4 := hCY.au hF4 hA4
        refine Ev.iconst (v := 1) dX5_moves_89 (by decide) ?_
        refine Ev.ist5 dX5_moves_90 rfl rfl ?_
        refine LL ⟨t1, t2, c8⟩ 200 1 (by omega) (by omega) M4 _ _ hC4 hH4 ⟨ebn, ad1_hi hn (by decide), ad1_hi hn (by decide), ad1_hi hn (by decide)⟩ (fun y sh => ar_mq hf' hn) ?_ ?_
        · exact ((Fr.q (js := afj) hF (by decide)).tr (hFY.q (by decide))).tr (Fr.q (js := afj) hF4 (by decide))
        · rw [an_moves, if_pos ⟨t1, t2, c8⟩]
      · exact no _ _ _ (fun z => if1_f hy2 c24 z.2.1)
end MOV
