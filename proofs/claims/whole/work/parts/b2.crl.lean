/-! the class's world stands for the state -/
abbrev InjQ (q : Nat → Nat) : Prop := ∀ i j : Nat, i < 82 → j < 82 → i ≠ j → q i ≠ q j
theorem ninQ {q : Nat → Nat} (hj : InjQ q) {i : Nat} (hi : i < 82) {js : List Nat} (hjs : ∀ j ∈ js, j < 82) (hn : i ∉ js) : q i ∉ js.map q := by
  intro h
  obtain ⟨j, h1, e⟩ := List.mem_map.mp h
  exact hj j i (hjs j h1) hi (fun z => hn (z ▸ h1)) e
def Bk (M : Wd) (h r w : Nat) (p : Bw) : Prop := ∃ f g : Nat → Int32, gt M h = some (bk r w (bn p.1) (p.1 329) (p.1 330) (p.1 331) (p.1 332)) ∧ gt M r = some (ia 0 328 f) ∧ gt M w = some (ia 0 320 g) ∧ Ar (bn p.1) f p.1 ∧ (p.1 329 = 2 → Ar (bn p.1) g p.2)
def Ba (M : Wd) (h r w : Nat) : Prop := ∃ (n : Nat) (ph rf lo hi : Int32) (f g : Nat → Int32), gt M h = some (bk r w n ph rf lo hi) ∧ gt M r = some (ia 0 328 f) ∧ gt M w = some (ia 0 320 g)
theorem Bk.ba {M : Wd} {h r w : Nat} {p : Bw} (hB : Bk M h r w p) : Ba M h r w := by
  obtain ⟨f, g, h1, h2, h3, -⟩ := hB
  exact ⟨_, _, _, _, _, f, g, h1, h2, h3⟩
theorem Bk.fr {M M' : Wd} {h r w : Nat} {p : Bw} {L : List Nat} (hB : Bk M h r w p) (hF : Fr L M M') (e1 : h ∉ L) (e2 : r ∉ L) (e3 : w ∉ L) : Bk M' h r w p := by
  obtain ⟨f, g, h1, h2, h3, h4⟩ := hB
  exact ⟨f, g, hF.rd e1 h1, hF.rd e2 h2, hF.rd e3 h3, h4⟩
theorem Ba.fr {M M' : Wd} {h r w : Nat} {L : List Nat} (hB : Ba M h r w) (hF : Fr L M M') (e1 : h ∉ L) (e2 : r ∉ L) (e3 : w ∉ L) : Ba M' h r w := by
  obtain ⟨n, a, b, c, d, f, g, h1, h2, h3⟩ := hB
  exact ⟨n, a, b, c, d, f, g, hF.rd e1 h1, hF.rd e2 h2, hF.rd e3 h3⟩
abbrev tpo (ty : Nat) (sz : Int32) (e : Nat → Int32) : En := ob 4 [.int sz, .ref ty, .int (e 0), .int (e 1), .int (e 2), .int (e 3), .int (e 4), .int (e 5), .int (e 6), .int (e 7)]
abbrev oco (q : Nat → Nat) (na L c : Nat) : En := ob 5 [.ref (q 1), .ref (q 40), .ref (q 43), .ref (q 13), .ref (q 3), .int (nI na), .int (nI L), .ref (q 4), .int (nI c)]
/-- where in the ring the k-th lies -/
abbrev rgp (na L k : Nat) : Nat := (na + 12 - L + k) % 12
theorem rgp_lt {na L k : Nat} : rgp na L k < 12 := Nat.mod_lt _ (by decide)
abbrev aq (q : Nat → Nat) : Nat → Nat := fun k => q (10 + k)
def CRt (q : Nat → Nat) (S : Sg) (M : Wd) : Prop := (∃ e, gt M (q 1) = some (tpo (q 2) (nI S.2.2.2.1) e)) ∧ (∃ t, gt M (q 2) = some (ia 1 800 t) ∧ ∀ j, j < S.2.2.2.1 → t j = S.2.2.1 j) ∧ ∃ g, gt M (q 4) = some (ia 0 32 g) ∧ ∀ j, j < 4 * min 8 S.2.2.2.2.2 → g j = S.2.2.2.2.1 j
def CRb (q : Nat → Nat) (na : Nat) (S : Sg) (M : Wd) : Prop := (∃ ac, gt M (q 3) = some (ra 5 12 ac) ∧ ∀ i, i < 12 → ac i = some (q (46 + 3 * i))) ∧ (∀ i, i < 12 → Ba M (q (46 + 3 * i)) (q (47 + 3 * i)) (q (48 + 3 * i))) ∧ ∀ (k : Nat) (p : Bw), S.2.1[k]? = some p → Bk M (q (46 + 3 * rgp na S.2.1.length k)) (q (47 + 3 * rgp na S.2.1.length k)) (q (48 + 3 * rgp na S.2.1.length k)) p
def CR (q : Nat → Nat) (na : Nat) (S : Sg) (M : Wd) : Prop := (InjQ q ∧ na < 12) ∧ gt M (q 0) = some (oco q na S.2.1.length S.2.2.2.2.2) ∧ CRt q S M ∧ CRb q na S M ∧ AWc (aq q) M ∧ Bk M (q 40) (q 41) (q 42) S.1 ∧ Ba M (q 43) (q 44) (q 45)
theorem CRt.fr {q : Nat → Nat} {S : Sg} {M M' : Wd} {js : List Nat} (h : CRt q S M) (hj : InjQ q) (hF : Fr (js.map q) M M') (hjs : ∀ j ∈ js, j < 82) (e1 : 1 ∉ js) (e2 : 2 ∉ js) (e4 : 4 ∉ js) : CRt q S M' := by
  obtain ⟨⟨e, h1⟩, ⟨t, h2, h3⟩, g, h4, h5⟩ := h
  exact ⟨⟨e, hF.rd (ninQ hj (by decide) hjs e1) h1⟩, ⟨t, hF.rd (ninQ hj (by decide) hjs e2) h2, h3⟩, g, hF.rd (ninQ hj (by decide) hjs e4) h4, h5⟩
theorem CRb.fr {q : Nat → Nat} {na : Nat} {S : Sg} {M M' : Wd} {js : List Nat} (h : CRb q na S M) (hj : InjQ q) (hF : Fr (js.map q) M M') (hjs : ∀ j ∈ js, j < 46 ∧ j ≠ 3) : CRb q na S M' := by
  obtain ⟨⟨ac, h1, h2⟩, h3, h4⟩ := h
  have hl : ∀ j ∈ js, j < 82 := fun j hj => by have := hjs j hj; omega
  have N : ∀ i, 46 ≤ i → i < 82 → q i ∉ js.map q := fun i h1 h2 => ninQ hj h2 hl (fun z => by have := hjs i z; omega)
  refine ⟨⟨ac, hF.rd (ninQ hj (by decide) hl (fun z => (hjs 3 z).2 rfl)) h1, h2⟩, fun i hi => (h3 i hi).fr hF (N _ (by omega) (by omega)) (N _ (by omega) (by omega)) (N _ (by omega) (by omega)), fun k p hp => (h4 k p hp).fr hF (N _ ?_ ?_) (N _ ?_ ?_) (N _ ?_ ?_)⟩ <;> (have := rgp_lt (na := na) (L := S.2.1.length) (k := k); omega)
abbrev afj : List Nat := [10, 11, 12, 13, 16, 17, 20, 21, 25, 26, 27, 28]
/-- what the auction does leaves the rest alone -/
theorem CR.au {q : Nat → Nat} {na : Nat} {S : Sg} {M M' : Wd} (h : CR q na S M) (hF : Fr (afr (aq q)) M M') (hA : AWc (aq q) M') : CR q na S M' := by
  obtain ⟨⟨hj, hna⟩, h0, h1, h2, -, h3, h4⟩ := h
  have hF' : Fr (afj.map q) M M' := hF
  have N : ∀ i, i < 82 → i ∉ afj → q i ∉ afj.map q := fun i h1 h2 => ninQ hj h1 (by decide) h2
  exact ⟨⟨hj, hna⟩, hF'.rd (N 0 (by decide) (by decide)) h0, h1.fr hj hF' (by decide) (by decide) (by decide) (by decide), h2.fr hj hF' (by decide), hA, h3.fr hF' (N 40 (by decide) (by decide)) (N 41 (by decide) (by decide)) (N 42 (by decide) (by decide)), h4.fr hF' (N 43 (by decide) (by decide)) (N 44 (by decide) (by decide)) (N 45 (by decide) (by decide))⟩
theorem InjQ.ad {q : Nat → Nat} (hj : InjQ q) {a b : Nat} (ha : 30 ≤ a) (hb : 30 ≤ b) (ha2 : a < 82) (hb2 : b < 82) (hab : a ≠ b) : Inj (AD (aq q) (q a) (q b)) := by
  intro i j hi hj2 hne
  have key : ∀ k, k < 20 → ∃ c, AD (aq q) (q a) (q b) k = q c ∧ c < 82 ∧ (k = 13 ∧ c = a ∨ k = 14 ∧ c = b ∨ k ≠ 13 ∧ k ≠ 14 ∧ c = 10 + k) := by
    intro k hk
    by_cases h1 : k = 13
    · subst h1; exact ⟨a, rfl, ha2, Or.inl ⟨rfl, rfl⟩⟩
    · by_cases h2 : k = 14
      · subst h2; exact ⟨b, rfl, hb2, Or.inr (Or.inl ⟨rfl, rfl⟩)⟩
      · exact ⟨10 + k, by rw [AD, if_neg h1, if_neg h2], by omega, Or.inr (Or.inr ⟨h1, h2, rfl⟩)⟩
  obtain ⟨c, c1, c2, c3⟩ := key i hi
  obtain ⟨d, d1, d2, d3⟩ := key j hj2
  rw [c1, d1]
  exact hj c d c2 d2 (by omega)
theorem Bok.cb {S : Sg} (h : Bok S.1) : BW 40 (bas S) ∧ bn (bas S) = bn S.1.1 ∧ (bas S) 330 = S.1.1 330 ∧ (bas S) 331 = S.1.1 331 ∧ (bas S) 332 = S.1.1 332 := by
  rw [bas]
  by_cases c : S.1.1 329 = 2
  · rw [if_pos c]
    have := h.2.2 c
    exact ⟨this.1, by rw [bn, bn, this.2.1], this.2.2.1, this.2.2.2.1, this.2.2.2.2⟩
  · rw [if_neg c]
    exact ⟨h.1, rfl, rfl, rfl, rfl⟩
/-- a cross has been run over book b -/
def CX5 (q : Nat → Nat) (h rr : Nat) (b : Nat → Int32) (x : Int32) (M : Wd) : Prop := ∃ (f : Nat → Int32) (r : Nat) (l0 l1 : List (Nat × Nat)) (D : R5) (i3 : Int32) (tr : Nat → Int32), AH (aq q) h rr f b (bn b) r (blo b) (bhi b) l0 l1 D (nI (xC b x).2.2) (nI ((xC b x).2.2 - 1)) i3 tr M ∧ CO f (bn b) D.1 (xC b x).1 (xC b x).2.1 ∧ RD f b (bn b) (blo b) (bhi b) l0 l1 (xC b x).1 D ∧ Inj (AD (aq q) h rr) ∧ (∃ z, gt M rr = some (ia 0 z f) ∧ 8 * bn b ≤ z ∧ z ≤ 100000) ∧ ∃ (r w : Nat) (ph : Int32), gt M h = some (bk r w (bn b) ph (b 330) (b 331) (b 332))
section CRL
variable {G : GP} {M : Wd} {q : Nat → Nat} {na : Nat} {S : Sg}
/-- hold and run over any book that agrees -/
theorem k_hr {h rr z r w : Nat} {ph : Int32} {f b : Nat → Int32} (hj : Inj (AD (aq q) h rr)) (hb : BW 41 b) (hB : gt M h = some (bk r w (bn b) ph (b 330) (b 331) (b 332))) (hR : gt M rr = some (ia 0 z f)) (hz : 8 * bn b ≤ z) (hz2 : z ≤ 100000) (hf : Ar (bn b) f b) (hA : AWc (aq q) M) : CtV G mX0_hold [.ref (q 13), .ref h, .ref rr] M 0 0 (fun M' => Fr (afr (aq q)) M M' ∧ AWc (aq q) M' ∧ ∀ x : Int32, CtV G mX0_run [.ref (q 13), .int x] M' 0 0 (fun M2 => Fr (afr (aq q)) M M2 ∧ AWc (aq q) M2 ∧ CX5 q h rr b x M2)) := by
  obtain ⟨e8, hn, hO, elo, ehi, b1, b2, b3, rf, r1, r2, e0⟩ := hb
  have hB0 := hB
  rw [e0, elo, ehi] at hB
  have C := c_hold (G := G) (m := b) hA hj hB hR hz hz2 (hO.cm hf.sy) hn hf e0 (by omega) b1 b2 b3
  refine C.imp ?_
  rintro M' ⟨⟨l0, l1, D, i1, i2, i3, tr, hH⟩, hF⟩
  refine ⟨hF, hH.aw, fun x => ?_⟩
  have nb : ∀ i, i < 20 → i ∉ [0, 1, 2, 3, 6, 7, 10, 11, 15, 16, 17, 18] → AD (aq q) h rr i ∉ afr (aq q) := fun i hi hn => nin (js := [0, 1, 2, 3, 6, 7, 10, 11, 15, 16, 17, 18]) hj hi (by decide) hn
  have C2 := c_run (G := G) (x := x) hj hH (hF.rd (nb 13 (by decide) (by decide)) hB) (hF.rd (nb 14 (by decide) (by decide)) hR) hz hz2
  refine C2.imp ?_
  rintro M2 ⟨⟨D', h1, h2, h3⟩, hF2⟩
  exact ⟨hF.tr hF2, h1.aw, f, rf, l0, l1, D', i3, tr, h1, h2, h3, hj, ⟨z, (hF.tr hF2).rd (nb 14 (by decide) (by decide)) hR, hz, hz2⟩, r, w, ph, (hF.tr hF2).rd (nb 13 (by decide) (by decide)) hB0⟩
set_option maxRecDepth 20000 in
theorem k_runCross (hC : CR q na S M) (hS : Sok S) : CtV G mX5_runCross [.ref (q 0)] M 0 0 (fun M' => Fr (afr (aq q)) M M' ∧ CR q na S M' ∧ CX5 q (q 40) (if S.1.1 329 = 2 then q 42 else q 41) (bas S) (-1) M') := by
  have hC0 := hC
  obtain ⟨⟨hj, hna⟩, h0, h1, h2, hA, ⟨f, g, g40, g41, g42, gf, gw⟩, h4⟩ := hC
  obtain ⟨cb1, cb2, cb3, cb4, cb5⟩ := hS.1.cb
  have hb41 : BW 41 (bas S) := ⟨cb1.1, by have := cb1.2.1; omega, cb1.2.2⟩
  have h3 : ∃ fs, gt M (q 13) = some (ob 0 fs) := by
    obtain ⟨so, po, t0, r0, i1, i2, i3, i4, ov, hp, vo, re, t, g, fl, tr, sa, cn, tu, s0, s1, p0, p1, hs, q3, -⟩ := hA
    exact ⟨_, q3⟩
  obtain ⟨fs, h3⟩ := h3
  have hn40 := cb1.2.1
  refine Ct.of (ls := [some (.ref (q 0))]) (by decide) (by decide) rfl rfl rfl ?_
  refine Ev.ald0 dX5_runCross_0 ?_
  apply Ev.getf dX5_runCross_1 fX5_31
  · repeat (first | assumption | (refine gt_upI ?_; (repeat (first | exact In_of (gt_nw (by assumption)) | (apply In_of; assumption) | refine In_up ?_ | refine In_nw ?_)); done) | refine gt_rd (by first | assumption | (apply Ne.symm; assumption) | (exact hj _ _ (by omega) (by omega) (by omega)) | omega) ?_ | exact gt_nw (by assumption) | refine gt_odr (by first | assumption | (apply Ne.symm; assumption) | omega) ?_)
  · first | rfl | assumption
  refine Ev.ald0 dX5_runCross_4 ?_
  apply Ev.getf dX5_runCross_5 fX5_19
  · repeat (first | assumption | (refine gt_upI ?_; (repeat (first | exact In_of (gt_nw (by assumption)) | (apply In_of; assumption) | refine In_up ?_ | refine In_nw ?_)); done) | refine gt_rd (by first | assumption | (apply Ne.symm; assumption) | (exact hj _ _ (by omega) (by omega) (by omega)) | omega) ?_ | exact gt_nw (by assumption) | refine gt_odr (by first | assumption | (apply Ne.symm; assumption) | omega) ?_)
  · first | rfl | assumption
  refine Ev.ald0 dX5_runCross_8 ?_
  apply Ev.getf dX5_runCross_9 fX5_19
  · repeat (first | assumption | (refine gt_upI ?_; (repeat (first | exact In_of (gt_nw (by assumption)) | (apply In_of; assumption) | refine In_up ?_ | refine In_nw ?_)); done) | refine gt_rd (by first | assumption | (apply Ne.symm; assumption) | (exact hj _ _ (by omega) (by omega) (by omega)) | omega) ?_ | exact gt_nw (by assumption) | refine gt_odr (by first | assumption | (apply Ne.symm; assumption) | omega) ?_)
  · first | rfl | assumption
  apply Ev.getf dX5_runCross_12 fX5_80
  · repeat (first | assumption | (refine gt_upI ?_; (repeat (first | exact In_of (gt_nw (by assumption)) | (apply In_of; assumption) | refine In_up ?_ | refine In_nw ?_)); done) | refine gt_rd (by first | assumption | (apply Ne.symm; assumption) | (exact hj _ _ (by omega) (by omega) (by omega)) | omega) ?_ | exact gt_nw (by assumption) | refine gt_odr (by first | assumption | (apply Ne.symm; assumption) | omega) ?_)
  · first | rfl | assumption
  refine Ev.iconst (v := 2) dX5_runCross_15 (by decide) ?_
  refine Ev.icmp_ne (tgt := 29) dX5_runCross_16 (by decide) (fun c16 => ?_) (fun c16 => ?_)
  · refine Ev.ald0 dX5_runCross_29 ?_
    apply Ev.getf dX5_runCross_30 fX5_19
    · repeat (first | assumption | (refine gt_upI ?_; (repeat (first | exact In_of (gt_nw (by assumption)) | (apply In_of; assumption) | refine In_up ?_ | refine In_nw ?_)); done) | refine gt_rd (by first | assumption | (apply Ne.symm; assumption) | (exact hj _ _ (by omega) (by omega) (by omega)) | omega) ?_ | exact gt_nw (by assumption) | refine gt_odr (by first | assumption | (apply Ne.symm; assumption) | omega) ?_)
    · first | rfl | assumption
    apply Ev.getr dX5_runCross_33 fX5_212
    · repeat (first | assumption | (refine gt_upI ?_; (repeat (first | exact In_of (gt_nw (by assumption)) | (apply In_of; assumption) | refine In_up ?_ | refine In_nw ?_)); done) | refine gt_rd (by first | assumption | (apply Ne.symm; assumption) | (exact hj _ _ (by omega) (by omega) (by omega)) | omega) ?_ | exact gt_nw (by assumption) | refine gt_odr (by first | assumption | (apply Ne.symm; assumption) | omega) ?_)
    · first | rfl | assumption
    have hB' : gt M (q 40) = some (bk (q 41) (q 42) (bn (bas S)) (S.1.1 329) ((bas S) 330) ((bas S) 331) ((bas S) 332)) := by rw [cb2, cb3, cb4, cb5]; exact g40
    have ec : bas S = S.1.1 := if_neg c16
    refine Ev.cvV (Yc := mX0_hold) (ci := 0) dX5_runCross_36 lX5_215 vX0_hold rfl (k_hr (rr := q 41) (hj.ad (by decide) (by decide) (by decide) (by decide) (by decide)) hb41 hB' g41 (by omega) (by omega) (by rw [ec]; exact gf) hA) ?_ rfl rfl rfl rfl ?_
    · apply Exists.intro; repeat (first | assumption | (refine gt_upI ?_; (repeat (first | exact In_of (gt_nw (by assumption)) | (apply In_of; assumption) | refine In_up ?_ | refine In_nw ?_)); done) | refine gt_rd (by first | assumption | (apply Ne.symm; assumption) | (exact hj _ _ (by omega) (by omega) (by omega)) | omega) ?_ | exact gt_nw (by assumption) | refine gt_odr (by first | assumption | (apply Ne.symm; assumption) | omega) ?_)
    rintro M1 ⟨hF, hA1, hrun⟩
    have hC1 := hC0.au hF hA1
    have k0 := hC1.2.1
    have k3 : ∃ fs, gt M1 (q 13) = some (ob 0 fs) := by
      obtain ⟨so, po, t0, r0, i1, i2, i3, i4, ov, hp, vo, re, t, g, fl, tr, sa, cn, tu, s0, s1, p0, p1, hs, q3, -⟩ := hA1
      exact ⟨_, q3⟩
    obtain ⟨fs1, k3⟩ := k3
    refine Ev.ald0 dX5_runCross_39 ?_
    apply Ev.getf dX5_runCross_40 fX5_31
    · repeat (first | assumption | (refine gt_upI ?_; (repeat (first | exact In_of (gt_nw (by assumption)) | (apply In_of; assumption) | refine In_up ?_ | refine In_nw ?_)); done) | refine gt_rd (by first | assumption | (apply Ne.symm; assumption) | (exact hj _ _ (by omega) (by omega) (by omega)) | omega) ?_ | exact gt_nw (by assumption) | refine gt_odr (by first | assumption | (apply Ne.symm; assumption) | omega) ?_)
    · first | rfl | assumption
    refine Ev.iconst (v := -1) dX5_runCross_43 (by decide) ?_
    refine Ev.cvV (Yc := mX0_run) (ci := 0) dX5_runCross_44 lX5_241 vX0_run rfl (hrun (-1)) ?_ rfl rfl rfl rfl ?_
    · apply Exists.intro; repeat (first | assumption | (refine gt_upI ?_; (repeat (first | exact In_of (gt_nw (by assumption)) | (apply In_of; assumption) | refine In_up ?_ | refine In_nw ?_)); done) | refine gt_rd (by first | assumption | (apply Ne.symm; assumption) | (exact hj _ _ (by omega) (by omega) (by omega)) | omega) ?_ | exact gt_nw (by assumption) | refine gt_odr (by first | assumption | (apply Ne.symm; assumption) | omega) ?_)
    rintro M2 ⟨hF2, hA2, hX⟩
    refine Ev.vret dX5_runCross_47 rfl ?_
    rw [if_neg c16]
    exact ⟨rfl, hF2, hC0.au hF2 hA2, hX⟩
  · refine Ev.ald0 dX5_runCross_19 ?_
    apply Ev.getf dX5_runCross_20 fX5_19
    · repeat (first | assumption | (refine gt_upI ?_; (repeat (first | exact In_of (gt_nw (by assumption)) | (apply In_of; assumption) | refine In_up ?_ | refine In_nw ?_)); done) | refine gt_rd (by first | assumption | (apply Ne.symm; assumption) | (exact hj _ _ (by omega) (by omega) (by omega)) | omega) ?_ | exact gt_nw (by assumption) | refine gt_odr (by first | assumption | (apply Ne.symm; assumption) | omega) ?_)
    · first | rfl | assumption
    apply Ev.getr dX5_runCross_23 fX5_284
    · repeat (first | assumption | (refine gt_upI ?_; (repeat (first | exact In_of (gt_nw (by assumption)) | (apply In_of; assumption) | refine In_up ?_ | refine In_nw ?_)); done) | refine gt_rd (by first | assumption | (apply Ne.symm; assumption) | (exact hj _ _ (by omega) (by omega) (by omega)) | omega) ?_ | exact gt_nw (by assumption) | refine gt_odr (by first | assumption | (apply Ne.symm; assumption) | omega) ?_)
    · first | rfl | assumption
    refine Ev.goto (tgt := 36) dX5_runCross_26 (by decide) ?_
    have hB' : gt M (q 40) = some (bk (q 41) (q 42) (bn (bas S)) (S.1.1 329) ((bas S) 330) ((bas S) 331) ((bas S) 332)) := by rw [cb2, cb3, cb4, cb5]; exact g40
    have c16' : S.1.1 329 = 2 := c16
    have ec : bas S = S.1.2 := if_pos c16'
    refine Ev.cvV (Yc := mX0_hold) (ci := 0) dX5_runCross_36 lX5_215 vX0_hold rfl (k_hr (rr := q 42) (hj.ad (by decide) (by decide) (by decide) (by decide) (by decide)) hb41 hB' g42 (by omega) (by omega) (by rw [cb2, ec]; exact gw c16') hA) ?_ rfl rfl rfl rfl ?_
    · apply Exists.intro; repeat (first | assumption | (refine gt_upI ?_; (repeat (first | exact In_of (gt_nw (by assumption)) | (apply In_of; assumption) | refine In_up ?_ | refine In_nw ?_)); done) | refine gt_rd (by first | assumption | (apply Ne.symm; assumption) | (exact hj _ _ (by omega) (by omega) (by omega)) | omega) ?_ | exact gt_nw (by assumption) | refine gt_odr (by first | assumption | (apply Ne.symm; assumption) | omega) ?_)
    rintro M1 ⟨hF, hA1, hrun⟩
    have hC1 := hC0.au hF hA1
    have k0 := hC1.2.1
    have k3 : ∃ fs, gt M1 (q 13) = some (ob 0 fs) := by
      obtain ⟨so, po, t0, r0, i1, i2, i3, i4, ov, hp, vo, re, t, g, fl, tr, sa, cn, tu, s0, s1, p0, p1, hs, q3, -⟩ := hA1
      exact ⟨_, q3⟩
    obtain ⟨fs1, k3⟩ := k3
    refine Ev.ald0 dX5_runCross_39 ?_
    apply Ev.getf dX5_runCross_40 fX5_31
    · repeat (first | assumption | (refine gt_upI ?_; (repeat (first | exact In_of (gt_nw (by assumption)) | (apply In_of; assumption) | refine In_up ?_ | refine In_nw ?_)); done) | refine gt_rd (by first | assumption | (apply Ne.symm; assumption) | (exact hj _ _ (by omega) (by omega) (by omega)) | omega) ?_ | exact gt_nw (by assumption) | refine gt_odr (by first | assumption | (apply Ne.symm; assumption) | omega) ?_)
    · first | rfl | assumption
    refine Ev.iconst (v := -1) dX5_runCross_43 (by decide) ?_
    refine Ev.cvV (Yc := mX0_run) (ci := 0) dX5_runCross_44 lX5_241 vX0_run rfl (hrun (-1)) ?_ rfl rfl rfl rfl ?_
    · apply Exists.intro; repeat (first | assumption | (refine gt_upI ?_; (repeat (first | exact In_of (gt_nw (by assumption)) | (apply In_of; assumption) | refine In_up ?_ | refine In_nw ?_)); done) | refine gt_rd (by first | assumption | (apply Ne.symm; assumption) | (exact hj _ _ (by omega) (by omega) (by omega)) | omega) ?_ | exact gt_nw (by assumption) | refine gt_odr (by first | assumption | (apply Ne.symm; assumption) | omega) ?_)
    rintro M2 ⟨hF2, hA2, hX⟩
    refine Ev.vret dX5_runCross_47 rfl ?_
    rw [if_pos c16']
    exact ⟨rfl, hF2, hC0.au hF2 hA2, hX⟩
end CRL
