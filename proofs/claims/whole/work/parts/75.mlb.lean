theorem OW.pt {b : Nat → Int32} {n k t : Nat} (h : OW b n) (hk : k < n) (ht : t < 2) : ∃ x, x ≤ 9999 ∧ ptf b (qt b) k (nI t) = nI x := by
  obtain ⟨s, kd, q, pr, sh, le, ow, g, e0, e1, e2, e3, e4, e5, e6, e7, b0, b1, b2, b3, b4, b5, b6, b7, b8, b9, b10, b11⟩ := h k hk
  rw [ptf, e1, e4]
  have eq : qt b k = nI q := e2
  rw [eq, mn_n (by omega) (by omega)]
  by_cases h3 : nI kd = 3
  · rw [if_pos h3]
    by_cases h0 : nI t = 0
    · rw [if_pos h0]
      exact ⟨min sh q, by omega, rfl⟩
    · rw [if_neg h0, nI_subI (by omega)]
      exact ⟨q - min sh q, by omega, rfl⟩
  · rw [if_neg h3]
    by_cases h0 : nI t = 0
    · rw [if_pos h0]
      exact ⟨q, by omega, rfl⟩
    · rw [if_neg h0]
      exact ⟨0, by omega, nI_0.symm⟩
theorem OW.q {b : Nat → Int32} {n k : Nat} (h : OW b n) (hk : k < n) : ∃ q, q ≤ 9999 ∧ qt b k = nI q := by
  obtain ⟨s, kd, q, pr, sh, le, ow, g, e0, e1, e2, e3, e4, e5, e6, e7, b0, b1, b2, b3, b4, b5, b6, b7, b8, b9, b10, b11⟩ := h k hk
  exact ⟨q, b2, e2⟩
theorem OW.sd {b : Nat → Int32} {n k : Nat} (h : OW b n) (hk : k < n) : b (8 * k + 0) = 0 ∨ b (8 * k + 0) = 1 := by
  obtain ⟨s, kd, q, pr, sh, le, ow, g, e0, e1, e2, e3, e4, e5, e6, e7, b0, -⟩ := h k hk
  rw [e0]
  have : s = 0 ∨ s = 1 := by omega
  rcases this with rfl | rfl
  · exact Or.inl rfl
  · exact Or.inr rfl
theorem OW.sh {b : Nat → Int32} {n k : Nat} (h : OW b n) (hk : k < n) : ∃ s, s ≤ 9999 ∧ b (8 * k + 4) = nI s := by
  obtain ⟨s, kd, q, pr, sh, le, ow, g, e0, e1, e2, e3, e4, e5, e6, e7, b0, b1, b2, b3, b4, b5, -⟩ := h k hk
  exact ⟨sh, by omega, e4⟩
theorem OW.sums {b ct : Nat → Int32} {n : Nat} {p : Int32} (h : OW b n) (hn : n ≤ 41) (sd ev : Nat) : sN (wt b ct (qt b) p sd ev) n < 1000000 := by
  have := sN_le (h := wt b ct (qt b) p sd ev) (c := 9999) n (fun k hk => by
    obtain ⟨q, q1, q2⟩ := h.q hk
    refine Nat.le_trans wt_le ?_
    rw [q2, nI_clamp (by omega)]
    exact q1)
  have : n * 9999 ≤ 41 * 9999 := Nat.mul_le_mul_right _ hn
  omega
theorem OW.num {b ct : Nat → Int32} {n : Nat} {p : Int32} (h : OW b n) : bs4 b ct (qt b) p n = (nI (sN (wt b ct (qt b) p 0 0) n), nI (sN (wt b ct (qt b) p 1 0) n), nI (sN (wt b ct (qt b) p 0 1) n), nI (sN (wt b ct (qt b) p 1 1) n)) := bs4_num n (fun k hk => by
    obtain ⟨q, q1, q2⟩ := h.q hk
    rw [q2, nI_clamp (by omega)])
theorem OW.vol {b ct : Nat → Int32} {n : Nat} {p : Int32} (h : OW b n) (hn : n ≤ 41) : ∃ t, vof (bs4 b ct (qt b) p n) = nI t ∧ t < 1000000 ∧ t ≤ sN (wt b ct (qt b) p 0 0) n + sN (wt b ct (qt b) p 0 1) n ∧ t ≤ sN (wt b ct (qt b) p 1 0) n + sN (wt b ct (qt b) p 1 1) n := by
  rw [h.num, vof_n (h.sums hn 0 0) (h.sums hn 1 0) (h.sums hn 0 1) (h.sums hn 1 1)]
  refine ⟨_, rfl, ?_, voN_le.1, voN_le.2⟩
  have := h.sums (ct := ct) (p := p) hn 0 0
  have := h.sums (ct := ct) (p := p) hn 1 0
  have := h.sums (ct := ct) (p := p) hn 0 1
  have := h.sums (ct := ct) (p := p) hn 1 1
  rw [voN, hpN]
  split <;> omega
theorem slp_of {b ct : Nat → Int32} {sd : Nat} {p : Int32} {l : List (Nat × Nat)} (hO : OW b (bn b)) (hn : bn b ≤ 41) (hsd : sd < 2) (h : SLs b ct (qt b) (nI sd) p (bn b) l) : slp b ct (nI sd) p = l.map (fun q => (q.1, ptf b (qt b) q.1 (nI q.2))) ∧ PB (slp b ct (nI sd) p) ∧ bS (slp b ct (nI sd) p) = sN (wt b ct (qt b) p sd 0) (bn b) + sN (wt b ct (qt b) p sd 1) (bn b) ∧ (slp b ct (nI sd) p).length = l.length ∧ l.length ≤ 2 * bn b := by
  have e : slp b ct (nI sd) p = l.map (fun q => (q.1, ptf b (qt b) q.1 (nI q.2))) := by rw [slp, slc_eq h]
  refine ⟨e, ?_, ?_, by rw [e, List.length_map], sl_len (fun q hq => ⟨(h.1 q hq).1, (h.1 q hq).2.1⟩) h.2.2⟩
  · rw [e]
    intro q hq
    obtain ⟨r, hr, rfl⟩ := List.mem_map.mp hq
    obtain ⟨a1, a2, a3⟩ := h.1 r hr
    obtain ⟨x, x1, x2⟩ := hO.pt a1 a2
    refine ⟨by show r.1 < 41; omega, x, ?_, x1, x2⟩
    have := a3.2.2
    rw [x2] at this
    by_cases h0 : x = 0
    · subst h0
      exact absurd this (by decide)
    · omega
  · rw [← h.sum hsd (fun k hk => hO.q hk) (fun k hk => hO.sd hk) (fun k hk => hO.sh hk), e, bS, List.map_map]
    rfl
section MLC
variable {G : GP} {a : Nat → Nat} {M0 M : Wd} {v : Nat → Int32} {L : Int64} {X : Nat → Nat → Int32} {b : Nat → Int32}
set_option maxRecDepth 20000 in
theorem m_cpB {Q : Option Value → Wd → Prop} {n0 : Nat} (hn0 : n0 ≤ 82) (kk : ∀ M', MZ a M0 v L (ux (ux X 39 (fun j => if j < n0 then X 31 j else X 39 j)) 40 (fun j => if j < n0 then X 32 j else X 40 j)) M' → Ev G mX6_laysTrades 68 [some (.ref (a 0)), some (.int (nI n0)), some (.int (nI n0)), none, none, none, none] [] M' 0 0 Q) (hZ : MZ a M0 v L X M) : Ev G mX6_laysTrades 33 [some (.ref (a 0)), some (.int (nI n0)), some (.int (nI 0)), none, none, none, none] [] M 0 0 Q := by
  have KL : ∀ M, MZ a M0 v L (ux (ux X 39 (fun j => if j < 0 then X 31 j else X 39 j)) 40 (fun j => if j < 0 then X 32 j else X 40 j)) M → Ev G mX6_laysTrades 33 [some (.ref (a 0)), some (.int (nI n0)), some (.int (nI 0)), none, none, none, none] [] M 0 0 Q := by
    refine ev_ind n0 (fun t => ∀ M, MZ a M0 v L (ux (ux X 39 (fun j => if j < t then X 31 j else X 39 j)) 40 (fun j => if j < t then X 32 j else X 40 j)) M → Ev G mX6_laysTrades 33 [some (.ref (a 0)), some (.int (nI n0)), some (.int (nI t)), none, none, none, none] [] M 0 0 Q) ?_ ?_
    · intro M hZ
      refine Ev.ild2 dX6_laysTrades_33 ?_
      refine Ev.ild1 dX6_laysTrades_34 ?_
      refine Ev.icmp_ge (tgt := 68) dX6_laysTrades_35 (by decide) (fun c35 => ?_) (fun c35 => by first | exact absurd (Int32.le_refl _) c35 | exact absurd c35 (Int32.le_refl _))
      exact kk M hZ
    · intro t ht ih M hZ
      refine Ev.ild2 dX6_laysTrades_33 ?_
      refine Ev.ild1 dX6_laysTrades_34 ?_
      refine Ev.icmp_ge (tgt := 68) dX6_laysTrades_35 (by decide) (fun c35 => by first | exact absurd c35 (nI_ge ht (by omega)) | exact absurd (nI_ge ht (by omega)) c35) (fun c35 => ?_)
      refine Ev.ald0 dX6_laysTrades_38 ?_
      refine Ev.mgr (kx := 39) dX6_laysTrades_39 fX6_61 hZ rfl ?_
      refine Ev.ild2 dX6_laysTrades_42 ?_
      refine Ev.ald0 dX6_laysTrades_43 ?_
      refine Ev.mgr (kx := 31) dX6_laysTrades_44 fX6_49 hZ rfl ?_
      refine Ev.ild2 dX6_laysTrades_47 ?_
      refine Ev.mld (j := t) mq31 dX6_laysTrades_48 hZ (by first | assumption | (simp only [nI, Int32.ofNat_add, Int32.ofNat_mul]; done) | (simp only [nI, Int32.ofNat_add, Int32.ofNat_mul]; rfl) | rfl) (by omega) ?_
      (try simp only [ux_s, ux_n, ne_eq, Nat.reduceEqDiff, Nat.succ_ne_self, not_false_eq_true])
      refine Ev.mst (j := t) mq39 dX6_laysTrades_49 hZ (by first | assumption | (simp only [nI, Int32.ofNat_add, Int32.ofNat_mul]; done) | (simp only [nI, Int32.ofNat_add, Int32.ofNat_mul]; rfl) | rfl) (by omega) (fun M hZ => ?_)
      (try simp only [ux_u, ux_s, ux_n, ne_eq, Nat.reduceEqDiff, Nat.succ_ne_self, not_false_eq_true] at hZ)
      refine Ev.ald0 dX6_laysTrades_50 ?_
      refine Ev.mgr (kx := 40) dX6_laysTrades_51 fX6_64 hZ rfl ?_
      refine Ev.ild2 dX6_laysTrades_54 ?_
      refine Ev.ald0 dX6_laysTrades_55 ?_
      refine Ev.mgr (kx := 32) dX6_laysTrades_56 fX6_52 hZ rfl ?_
      refine Ev.ild2 dX6_laysTrades_59 ?_
      refine Ev.mld (j := t) mq32 dX6_laysTrades_60 hZ (by first | assumption | (simp only [nI, Int32.ofNat_add, Int32.ofNat_mul]; done) | (simp only [nI, Int32.ofNat_add, Int32.ofNat_mul]; rfl) | rfl) (by omega) ?_
      (try simp only [ux_s, ux_n, ne_eq, Nat.reduceEqDiff, Nat.succ_ne_self, not_false_eq_true])
      refine Ev.mst (j := t) mq40 dX6_laysTrades_61 hZ (by first | assumption | (simp only [nI, Int32.ofNat_add, Int32.ofNat_mul]; done) | (simp only [nI, Int32.ofNat_add, Int32.ofNat_mul]; rfl) | rfl) (by omega) (fun M hZ => ?_)
      (try simp only [ux_u, ux_s, ux_n, ne_eq, Nat.reduceEqDiff, Nat.succ_ne_self, not_false_eq_true] at hZ)
      apply Ev.iinc2 dX6_laysTrades_62 rfl rfl
      · first | exact nI_inc _ | rfl
      refine Ev.goto (tgt := 33) dX6_laysTrades_65 (by decide) ?_
      refine ih M (hZ.xc rfl ?_)
      have e1 : upd (fun j => if j < t then X 31 j else X 39 j) t (X 31 t) = fun j => if j < t + 1 then X 31 j else X 39 j := funext fun j => by
        by_cases q : j = t
        · rw [q, pk_us, if_pos (by omega)]
        · rw [pk_un q]
          by_cases q2 : j < t
          · rw [if_pos q2, if_pos (by omega)]
          · rw [if_neg q2, if_neg (by omega)]
      have e2 : upd (fun j => if j < t then X 32 j else X 40 j) t (X 32 t) = fun j => if j < t + 1 then X 32 j else X 40 j := funext fun j => by
        by_cases q : j = t
        · rw [q, pk_us, if_pos (by omega)]
        · rw [pk_un q]
          by_cases q2 : j < t
          · rw [if_pos q2, if_pos (by omega)]
          · rw [if_neg q2, if_neg (by omega)]
      rw [e1, e2]
      funext j
      by_cases q : j = 40
      · rw [q, ux_s, ux_s]
      · rw [ux_n q, ux_n q]
        by_cases q2 : j = 39
        · rw [q2, ux_s, ux_s]
        · rw [ux_n q2, ux_n q2, ux_n q, ux_n q2]
  refine KL M (hZ.xc rfl ?_)
  funext j
  by_cases q : j = 40
  · subst q; rw [ux_s]; funext i; rw [if_neg (by omega)]
  · rw [ux_n q]
    by_cases q2 : j = 39
    · subst q2; rw [ux_s]; funext i; rw [if_neg (by omega)]
    · rw [ux_n q2]
set_option maxRecDepth 20000 in
theorem m_lt2 {Q : Option Value → Wd → Prop} {m ct : Nat → Int32} {n0 p tn : Nat} {a2 : Option Value} {B : List (Nat × Int32)} (hZ : MZ a M0 v L X M) (hm : X 1 = m) (hO : OW b (bn b)) (hn : bn b ≤ 40) (hA : Ar (bn b) m b) (h328 : m 328 = nI (bn b)) (hc : ∀ k, k < bn b → X 22 k = ct k) (hq : ∀ k, k < bn b → X 23 k = qt b k) (hp : v 28 = nI p) (hv : v 37 = nI tn) (t2 : tn < 1000000) (hB : SG (X 39) (X 40) 0 B) (pB : PB B) (tB : tn ≤ bS B) (lB : B.length ≤ 80) (hT : TR m []) (tS : ∀ l, SLs b ct (qt b) (nI 1) (nI p) (bn b) l → tn ≤ bS (slp b ct (nI 1) (nI p)))
    (kk : ∀ (v' : Nat → Int32) (X' : Nat → Nat → Int32) (M' : Wd), MZ a M0 v' L X' M' → TR (X' 1) (trd (B.length + (slp b ct (nI 1) (nI p)).length) (nI tn) B (slp b ct (nI 1) (nI p))) → (∀ j, j ≠ 33 → v' j = v j) → (∀ j, j ≠ 1 → j ≠ 31 → j ≠ 32 → j ≠ 40 → X' j = X j) → (∀ j, j < 708 → X' 1 j = m j) → Q none M') : Ev G mX6_laysTrades 68 [some (.ref (a 0)), some (.int (nI n0)), a2, none, none, none, none] [] M 0 0 Q := by
  refine Ev.ald0 dX6_laysTrades_68 ?_
  refine Ev.iconst (v := 1) dX6_laysTrades_69 (by decide) ?_
  refine Ev.ald0 dX6_laysTrades_70 ?_
  refine Ev.mgv (kx := 28) dX6_laysTrades_71 fX6_223 hZ rfl ?_
  rw [hp]
  refine Ev.cvV (Yc := mX6_laysSlices) (ci := 6) dX6_laysTrades_74 lX6_254 vX6_laysSlices rfl (m_laysSlices (n := bn b) hZ.1 hZ.2.1 (M0 := M) Fr.rf (by rw [hm]; exact h328) (by omega) (OW.rko (hO.cm (by rw [hm]; exact hA.sy)) (by omega))) ⟨_, hZ.2.1.1⟩ rfl rfl rfl rfl ?_
  rintro M1 ⟨r, ro, rm, hS2, hr2, hW2, hF2⟩
  have hZ := hZ.to hW2 hF2
  rw [hm] at hS2 hr2
  have hS2' : SLs b ct (qt b) (nI 1) (nI p) (bn b) r := hS2.cm hA hc hq
  obtain ⟨w1, w2, w3, w4, w5⟩ := slp_of hO (by omega) (by omega) hS2'
  have hr2' : SG ro rm 0 (slp b ct (nI 1) (nI p)) := by
    intro i q hq9
    rw [w1, List.getElem?_map] at hq9
    obtain ⟨z, z1, rfl⟩ := Option.map_eq_some_iff.mp hq9
    obtain ⟨y1, y2⟩ := hr2 i z z1
    rw [Nat.zero_add]
    have zn := (hS2.1 z (List.mem_of_getElem? z1)).1
    exact ⟨y1, y2.trans (ptf_cm hA zn (hq _ zn))⟩
  have x1 : (ux (ux X 31 ro) 32 rm) 1 = m := by rw [ux_n (by decide), ux_n (by decide)]; exact hm
  have x31 : (ux (ux X 31 ro) 32 rm) 31 = ro := by rw [ux_n (by decide), ux_s]
  have x32 : (ux (ux X 31 ro) 32 rm) 32 = rm := ux_s
  have x39 : (ux (ux X 31 ro) 32 rm) 39 = X 39 := by rw [ux_n (by decide), ux_n (by decide)]
  have x40 : (ux (ux X 31 ro) 32 rm) 40 = X 40 := by rw [ux_n (by decide), ux_n (by decide)]
  have xo : ∀ j, j ≠ 31 → j ≠ 32 → (ux (ux X 31 ro) 32 rm) j = X j := fun j q1 q2 => by rw [ux_n q2, ux_n q1]
  generalize ux (ux X 31 ro) 32 rm = X2 at hZ x1 x31 x32 x39 x40 xo
  have e37 : (upd v 33 (nI r.length)) 37 = nI tn := hv
  have ev : ∀ j, j ≠ 33 → (upd v 33 (nI r.length)) j = v j := fun j q1 => pk_un q1
  generalize upd v 33 (nI r.length) = v2 at hZ e37 ev
  refine Ev.ald0 dX6_laysTrades_77 ?_
  refine Ev.mgv (kx := 37) dX6_laysTrades_78 fX6_257 hZ rfl ?_
  rw [e37]
  refine Ev.ist2 dX6_laysTrades_81 rfl rfl ?_
  refine Ev.iconst (v := 0) dX6_laysTrades_82 (by decide) ?_
  refine Ev.ist3 dX6_laysTrades_83 rfl rfl ?_
  refine Ev.iconst (v := 0) dX6_laysTrades_84 (by decide) ?_
  refine Ev.ist4 dX6_laysTrades_85 rfl rfl ?_
  exact m_tr (X := X2) (B.length + (slp b ct (nI 1) (nI p)).length) tn B (slp b ct (nI 1) (nI p)) [] 0 0 X2 M1 _ _ tB (tS r hS2') (Or.inr ⟨Nat.le_refl _, by simp only [List.length_nil]; omega⟩) (by omega) (by omega) pB w2 t2 hZ (fun _ _ _ _ => rfl) (fun _ _ => rfl) (by rw [x39, x40]; exact hB) (by rw [x31, x32]; exact hr2') (by rw [x1]; exact hT) (fun X' M' z1 z2 z3 z4 => kk v2 X' M' z1 z2 ev (fun j q1 q2 q3 q4 => (z3 j q1 q3 q4).trans (xo j q2 q3)) (fun j q1 => (z4 j q1).trans (by rw [x1])))
set_option maxRecDepth 20000 in
theorem m_laysTrades (hZ : MZ a M0 v L X M) (hA : Ag (X 1) b) (hB : BW 40 b) (hC : CX b (-1) v X) : CtV G mX6_laysTrades [.ref (a 0)] M 0 0 (fun M' => ∃ (v' : Nat → Int32) (X' : Nat → Nat → Int32), MZ a M0 v' L X' M' ∧ (∀ j, j ≠ 33 → v' j = v j) ∧ (∀ j, j ∉ [1, 31, 32, 39, 40] → X' j = X j) ∧ (∀ j, j < 708 → X' 1 j = X 1 j) ∧ TR (X' 1) (xT b)) := by
  obtain ⟨h1, h2, h3, h4, h5, h6, h7, h8, h9⟩ := hB
  obtain ⟨g0, g1, g2, g3, g4, g5⟩ := hA
  obtain ⟨k1, k2, k3, k4, k5, k6, k7, k8, k9, k10⟩ := hC
  have hT0 : TR (upd (X 1) 708 0) [] := ⟨pk_us, fun k q hk => by simp at hk⟩
  have hm8 : ∀ j, j < 708 → upd (X 1) 708 0 j = X 1 j := fun j hj => pk_un (by omega)
  rcases xP_pr (b := b) (wo := -1) with hp | ⟨p, p1, p2, hp⟩
  · have hneg : v 28 < 0 := by rw [k5, hp]; decide
    refine Ct.of (ls := [some (.ref (a 0)), none, none, none, none, none, none]) (by decide) (by decide) rfl rfl rfl ?_
    refine Ev.ald0 dX6_laysTrades_0 ?_
    refine Ev.mgr (kx := 1) dX6_laysTrades_1 fX6_13 hZ rfl ?_
    refine Ev.sipush (v := 708) dX6_laysTrades_4 (by decide) ?_
    refine Ev.iconst (v := 0) dX6_laysTrades_7 (by decide) ?_
    refine Ev.mst (j := 708) mq1 dX6_laysTrades_8 hZ (by first | assumption | (simp only [nI, Int32.ofNat_add, Int32.ofNat_mul]; done) | (simp only [nI, Int32.ofNat_add, Int32.ofNat_mul]; rfl) | rfl) (by omega) (fun M hZ => ?_)
    (try simp only [ux_u, ux_s, ux_n, ne_eq, Nat.reduceEqDiff, Nat.succ_ne_self, not_false_eq_true] at hZ)
    refine Ev.ald0 dX6_laysTrades_9 ?_
    refine Ev.mgv (kx := 28) dX6_laysTrades_10 fX6_223 hZ rfl ?_
    refine Ev.if_ge (tgt := 17) dX6_laysTrades_13 (by decide) (fun c13 => by first | exact absurd c13 (Int32.not_le.mpr hneg) | exact absurd (Int32.not_le.mpr hneg) c13) (fun c13 => ?_)
    refine Ev.vret dX6_laysTrades_16 rfl ?_
    refine ⟨rfl, v, _, hZ, fun _ _ => rfl, fun j hj => ux_n (fun q => hj (by simp [q])), fun j hj => by rw [ux_s, pk_un (by omega)], ?_⟩
    rw [ux_s, xT, if_pos (by rw [hp]; decide)]
    exact hT0
  · have hpn : ¬ v 28 < 0 := by rw [k5, hp]; exact nI_pos (by omega)
    have hv28 : v 28 = nI p := k5.trans hp
    have hneg2 : ¬ (xP b (-1)).1 < 0 := by rw [← k5]; exact hpn
    have eT : xT b = trd ((slp b (xC b (-1)).1 (nI 0) (nI p)).length + (slp b (xC b (-1)).1 (nI 1) (nI p)).length) (xV b (-1)) (slp b (xC b (-1)).1 (nI 0) (nI p)) (slp b (xC b (-1)).1 (nI 1) (nI p)) := by
      rw [xT, if_neg hneg2, hp]
      rfl
    have eV : xV b (-1) = vof (bs4 b (xC b (-1)).1 (qt b) (nI p) (bn b)) := by
      have : (rP b (xC b (-1)).1 (qt b) (bn b) (blo b) (bhi b)).1 = nI p := hp
      rw [xV, rV, this, if_neg (nI_pos (by omega))]
    obtain ⟨tn, t1, t2, t3, t4⟩ := h3.vol (ct := (xC b (-1)).1) (p := nI p) (by omega)
    rw [← eV] at t1
    have hAr : Ar (bn b) (upd (X 1) 708 0) b := fun j hj => (hm8 j (by omega)).trans (g0 j hj)
    have hm328 : upd (X 1) 708 0 328 = nI (bn b) := (hm8 _ (by omega)).trans (g1.trans h1)
    generalize hmm : upd (X 1) 708 0 = m at hm8 hT0 hAr hm328
    refine Ct.of (ls := [some (.ref (a 0)), none, none, none, none, none, none]) (by decide) (by decide) rfl rfl rfl ?_
    refine Ev.ald0 dX6_laysTrades_0 ?_
    refine Ev.mgr (kx := 1) dX6_laysTrades_1 fX6_13 hZ rfl ?_
    refine Ev.sipush (v := 708) dX6_laysTrades_4 (by decide) ?_
    refine Ev.iconst (v := 0) dX6_laysTrades_7 (by decide) ?_
    refine Ev.mst (j := 708) mq1 dX6_laysTrades_8 hZ (by first | assumption | (simp only [nI, Int32.ofNat_add, Int32.ofNat_mul]; done) | (simp only [nI, Int32.ofNat_add, Int32.ofNat_mul]; rfl) | rfl) (by omega) (fun M hZ => ?_)
    (try simp only [ux_u, ux_s, ux_n, ne_eq, Nat.reduceEqDiff, Nat.succ_ne_self, not_false_eq_true] at hZ)
    have hmm2 : upd (X 1) 708 0 = m := hmm
    have hZ : MZ a M0 v L (ux X 1 m) M := by rw [← hmm]; exact hZ
    refine Ev.ald0 dX6_laysTrades_9 ?_
    refine Ev.mgv (kx := 28) dX6_laysTrades_10 fX6_223 hZ rfl ?_
    rw [hv28]
    refine Ev.if_ge (tgt := 17) dX6_laysTrades_13 (by decide) (fun c13 => ?_) (fun c13 => by first | exact absurd (nI_pos' (by omega)) c13 | exact absurd c13 (nI_pos' (by omega)))
    refine Ev.ald0 dX6_laysTrades_17 ?_
    refine Ev.iconst (v := 0) dX6_laysTrades_18 (by decide) ?_
    refine Ev.ald0 dX6_laysTrades_19 ?_
    refine Ev.mgv (kx := 28) dX6_laysTrades_20 fX6_223 hZ rfl ?_
    rw [hv28]
    refine Ev.cvV (Yc := mX6_laysSlices) (ci := 6) dX6_laysTrades_23 lX6_254 vX6_laysSlices rfl (m_laysSlices (n := bn b) hZ.1 hZ.2.1 (M0 := M) Fr.rf (by rw [ux_s]; exact hm328) (by omega) (OW.rko (h3.cm (by rw [ux_s]; exact hAr.sy)) (by omega))) ⟨_, hZ.2.1.1⟩ rfl rfl rfl rfl ?_
    rintro M1 ⟨l, so, sm, hS, hr, hW1, hF1⟩
    have hZ := hZ.to hW1 hF1
    have hS' : SLs b (xC b (-1)).1 (qt b) (nI 0) (nI p) (bn b) l := hS.cm (by rw [ux_s]; exact hAr) k1 k2
    obtain ⟨u1, u2, u3, u4, u5⟩ := slp_of h3 (by omega) (by omega) hS'
    have hr' : SG so sm 0 (slp b (xC b (-1)).1 (nI 0) (nI p)) := by
      intro r q hq
      rw [u1, List.getElem?_map] at hq
      obtain ⟨z, z1, rfl⟩ := Option.map_eq_some_iff.mp hq
      obtain ⟨y1, y2⟩ := hr r z z1
      rw [Nat.zero_add]
      have zn := (hS.1 z (List.mem_of_getElem? z1)).1
      rw [ux_s] at y2
      exact ⟨y1, y2.trans (ptf_cm hAr zn (k2 _ zn))⟩
    have x1 : (ux (ux (ux X 1 m) 31 so) 32 sm) 1 = m := by rw [ux_n (by decide), ux_n (by decide), ux_s]
    have x31 : (ux (ux (ux X 1 m) 31 so) 32 sm) 31 = so := by rw [ux_n (by decide), ux_s]
    have x32 : (ux (ux (ux X 1 m) 31 so) 32 sm) 32 = sm := ux_s
    have x22 : (ux (ux (ux X 1 m) 31 so) 32 sm) 22 = X 22 := by rw [ux_n (by decide), ux_n (by decide), ux_n (by decide)]
    have x23 : (ux (ux (ux X 1 m) 31 so) 32 sm) 23 = X 23 := by rw [ux_n (by decide), ux_n (by decide), ux_n (by decide)]
    have xo : ∀ j, j ≠ 1 → j ≠ 31 → j ≠ 32 → (ux (ux (ux X 1 m) 31 so) 32 sm) j = X j := fun j q1 q2 q3 => by rw [ux_n q3, ux_n q2, ux_n q1]
    generalize ux (ux (ux X 1 m) 31 so) 32 sm = X2 at hZ x1 x31 x32 x22 x23 xo
    have e33 : (upd v 33 (nI l.length)) 33 = nI l.length := pk_us
    have e28 : (upd v 33 (nI l.length)) 28 = nI p := hv28
    have e37 : (upd v 33 (nI l.length)) 37 = nI tn := k9.trans t1
    have ev : ∀ j, j ≠ 33 → (upd v 33 (nI l.length)) j = v j := fun j q1 => pk_un q1
    generalize upd v 33 (nI l.length) = v2 at hZ e33 e28 e37 ev
    refine Ev.ald0 dX6_laysTrades_26 ?_
    refine Ev.mgv (kx := 33) dX6_laysTrades_27 fX6_242 hZ rfl ?_
    rw [e33]
    refine Ev.ist1 dX6_laysTrades_30 rfl rfl ?_
    refine Ev.iconst (v := 0) dX6_laysTrades_31 (by decide) ?_
    refine Ev.ist2 dX6_laysTrades_32 rfl rfl ?_
    skip
    refine m_cpB (by omega) (fun M2 hZ2 => ?_) hZ
    have y1 : (ux (ux X2 39 (fun j => if j < l.length then X2 31 j else X2 39 j)) 40 (fun j => if j < l.length then X2 32 j else X2 40 j)) 1 = m := by rw [ux_n (by decide), ux_n (by decide), x1]
    have y22 : (ux (ux X2 39 (fun j => if j < l.length then X2 31 j else X2 39 j)) 40 (fun j => if j < l.length then X2 32 j else X2 40 j)) 22 = X 22 := by rw [ux_n (by decide), ux_n (by decide), x22]
    have y23 : (ux (ux X2 39 (fun j => if j < l.length then X2 31 j else X2 39 j)) 40 (fun j => if j < l.length then X2 32 j else X2 40 j)) 23 = X 23 := by rw [ux_n (by decide), ux_n (by decide), x23]
    have yo : ∀ j, j ≠ 39 → j ≠ 40 → (ux (ux X2 39 (fun j => if j < l.length then X2 31 j else X2 39 j)) 40 (fun j => if j < l.length then X2 32 j else X2 40 j)) j = X2 j := fun j q1 q2 => by rw [ux_n q2, ux_n q1]
    have yB : SG ((ux (ux X2 39 (fun j => if j < l.length then X2 31 j else X2 39 j)) 40 (fun j => if j < l.length then X2 32 j else X2 40 j)) 39) ((ux (ux X2 39 (fun j => if j < l.length then X2 31 j else X2 39 j)) 40 (fun j => if j < l.length then X2 32 j else X2 40 j)) 40) 0 (slp b (xC b (-1)).1 (nI 0) (nI p)) := by
      intro i q hq
      have := hr' i q hq
      have hi : i < l.length := by rw [← u4]; exact (List.getElem?_eq_some_iff.mp hq).1
      rw [ux_n (by decide), ux_s, ux_s, x31, x32]
      rw [Nat.zero_add] at this ⊢
      exact ⟨(if_pos hi).trans this.1, (if_pos hi).trans this.2⟩
    generalize ux (ux X2 39 (fun j => if j < l.length then X2 31 j else X2 39 j)) 40 (fun j => if j < l.length then X2 32 j else X2 40 j) = X3 at hZ2 y1 y22 y23 yo yB
    refine m_lt2 (b := b) (ct := (xC b (-1)).1) (B := slp b (xC b (-1)).1 (nI 0) (nI p)) hZ2 y1 h3 h2 hAr hm328 (by rw [y22]; exact k1) (by rw [y23]; exact k2) e28 e37 t2 yB u2 (by omega) (by omega) hT0 (fun r hr => by obtain ⟨w1, w2, w3, w4, w5⟩ := slp_of h3 (by omega) (by omega) hr; omega) (fun v' X' M' z1 z2 z3 z4 z5 => ?_)
    refine ⟨rfl, v', X', z1, fun j hj => (z3 j hj).trans (ev j hj), fun j hj => ?_, fun j hj => (z5 j hj).trans (hm8 j hj), ?_⟩
    · simp only [List.mem_cons, List.not_mem_nil, or_false, not_or] at hj
      exact (z4 j hj.1 hj.2.1 hj.2.2.1 hj.2.2.2.2).trans ((yo j hj.2.2.2.1 hj.2.2.2.2).trans (xo j hj.1 hj.2.1 hj.2.2.1))
    · rw [eT, t1]
      exact z2
end MLC
