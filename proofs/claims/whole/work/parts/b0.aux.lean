/-! hold, run and match in the reference's words -/
theorem CtV.imp {G : GP} {Y : MI} {As : List Value} {M : Wd} {mc ms : Nat} {P P' : Wd → Prop} (h : CtV G Y As M mc ms P) (hq : ∀ M', P M' → P' M') : CtV G Y As M mc ms P' := Ct.mono h (fun _ M' p => ⟨p.1, hq M' p.2⟩)
theorem nI_any (x : Int32) : ∃ k, x = nI k := ⟨x.toBitVec.toNat, by
  refine Int32.toBitVec_inj.mp (BitVec.eq_of_toNat_eq ?_)
  rw [pk_tn x.toBitVec.isLt]⟩
theorem nin {ad : Nat → Nat} (hj : Inj ad) {i : Nat} (hi : i < 20) {js : List Nat} (hjs : ∀ j ∈ js, j < 20) (hn : i ∉ js) : ad i ∉ js.map ad := by
  intro h
  obtain ⟨j, h1, e⟩ := List.mem_map.mp h
  exact hj j i (hjs j h1) hi (fun z => hn (z ▸ h1)) e
def AD (ac : Nat → Nat) (h rr : Nat) : Nat → Nat := fun k => if k = 13 then h else if k = 14 then rr else ac k
/-- the auction's cells, whatever stands in them -/
def AWc (ac : Nat → Nat) (M : Wd) : Prop := ∃ (so po : Nat → Option Nat) (t0 r0 : Nat) (i1 i2 i3 i4 ov hp vo re : Int32) (t : T4) (g fl tr sa cn tu s0 s1 p0 p1 : Nat → Int32),
  (so 0 = some (ac 15) ∧ so 1 = some (ac 16) ∧ po 0 = some (ac 17) ∧ po 1 = some (ac 18)) ∧ gt M (ac 3) = some (ob 0 [.ref (ac 0), .ref (ac 1), .ref (ac 2), .int i1, .int i2, .int i3, .ref (ac 6), .ref (ac 7), .ref (ac 8), .ref (ac 9), .ref (ac 10), .ref (ac 11), .int i4, .ref t0, .ref r0]) ∧ gt M (ac 0) = some (bl t ov hp vo re) ∧ gt M (ac 1) = some (cc g) ∧ gt M (ac 2) = some (ia 0 41 fl) ∧ gt M (ac 6) = some (ia 0 246 tr) ∧ gt M (ac 7) = some (ia 0 41 sa) ∧ gt M (ac 8) = some (ra 4 2 so) ∧ gt M (ac 9) = some (ra 4 2 po) ∧ gt M (ac 10) = some (ia 0 2 cn) ∧ gt M (ac 11) = some (ia 0 41 tu) ∧ gt M (ac 15) = some (ia 0 82 s0) ∧ gt M (ac 16) = some (ia 0 82 s1) ∧ gt M (ac 17) = some (ia 0 82 p0) ∧ gt M (ac 18) = some (ia 0 82 p1)
abbrev afr (ac : Nat → Nat) : List Nat := [ac 0, ac 1, ac 2, ac 3, ac 6, ac 7, ac 10, ac 11, ac 15, ac 16, ac 17, ac 18]
/-- the auction holds a book -/
def AH (ac : Nat → Nat) (h rr : Nat) (f m : Nat → Int32) (n r lo hi : Nat) (l0 l1 : List (Nat × Nat)) (D : R5) (i1 i2 i3 : Int32) (tr : Nat → Int32) (M : Wd) : Prop := ∃ (so po : Nat → Option Nat) (tc : Nat) (cn tu s0 s1 : Nat → Int32),
  (so 0 = some (ac 15) ∧ so 1 = some (ac 16) ∧ po 0 = some (ac 17) ∧ po 1 = some (ac 18)) ∧ RO f m tu s0 s1 n tc r lo hi l0 l1 ∧ (cn 0 = nI l0.length ∧ cn 1 = nI l1.length ∧ tc ≤ 41) ∧ RP (AD ac h rr) i1 i2 i3 (nI tc) D M ∧ gt M (ac 6) = some (ia 0 246 tr) ∧ gt M (ac 8) = some (ra 4 2 so) ∧ gt M (ac 9) = some (ra 4 2 po) ∧ gt M (ac 10) = some (ia 0 2 cn) ∧ gt M (ac 11) = some (ia 0 41 tu) ∧ gt M (ac 15) = some (ia 0 82 s0) ∧ gt M (ac 16) = some (ia 0 82 s1)
theorem AH.aw {ac : Nat → Nat} {h rr : Nat} {f m : Nat → Int32} {n r lo hi : Nat} {l0 l1 : List (Nat × Nat)} {D : R5} {i1 i2 i3 : Int32} {tr : Nat → Int32} {M : Wd} (hA : AH ac h rr f m n r lo hi l0 l1 D i1 i2 i3 tr M) : AWc ac M := by
  obtain ⟨so, po, tc, cn, tu, s0, s1, hs, -, -, ⟨t, ov, hp, vo, re, q3, q0, q1, q2, q7, q17, q18⟩, q6, q8, q9, q10, q11, q15, q16⟩ := hA
  exact ⟨so, po, h, rr, i1, i2, i3, _, ov, hp, vo, re, t, _, _, tr, _, cn, tu, s0, s1, _, _, hs, q3, q0, q1, q2, q6, q7, q8, q9, q10, q11, q15, q16, q17, q18⟩
theorem RO.cnt {f m tu s0 s1 : Nat → Int32} {n tc r lo hi : Nat} {l0 l1 : List (Nat × Nat)} (h : RO f m tu s0 s1 n tc r lo hi l0 l1) : l0.length ≤ 82 ∧ l1.length ≤ 82 ∧ (∀ j, j < tc → ∃ o, o < n ∧ tu j &&& 63 = nI o) ∧ (∀ i, i < l0.length → ∃ o, o < n ∧ s0 i &&& 63 = nI o) ∧ ∀ i, i < l1.length → ∃ o, o < n ∧ s1 i &&& 63 = nI o := by
  have := ls_len h.l0 h.l1
  have hn := h.hn
  have sl : ∀ (sd : Nat) (s : Nat → Int32) (l : List (Nat × Nat)), LSl f n sd s l → ∀ i, i < l.length → ∃ o, o < n ∧ s i &&& 63 = nI o := by
    intro sd s l hl i hi
    have hg : l[i]? = some l[i] := List.getElem?_eq_getElem hi
    have hm := (hl.2.2 l[i].1 l[i].2).mp (List.getElem_mem hi)
    exact ⟨l[i].1, hm.1, by rw [hl.1 i _ hg, pk_andN (by have := skey_lt (t := l[i].2) h.ow h.hn hm.1; omega) 6 (by decide), show skey f l[i].1 l[i].2 % 2 ^ 6 = l[i].1 from skey_o h.ow h.hn hm.1]⟩
  refine ⟨by omega, by omega, fun j hj => ?_, sl 0 s0 l0 h.l0, sl 1 s1 l1 h.l1⟩
  obtain ⟨o, o1, -, -, o4, -, -⟩ := tu_at h.ow h.hn h.tu hj
  have hf := (h.ow.fr o1).1
  exact ⟨o, o1, by rw [o4, tkey, pk_andN (by omega) 6 (by decide), show (frm f o * 64 + o) % 2 ^ 6 = o by omega]⟩
section AUX
variable {G : GP} {M : Wd} {ac : Nat → Nat} {h rr z r w : Nat} {ph : Int32} {f m : Nat → Int32} {n rf lo hi : Nat} {l0 l1 : List (Nat × Nat)} {D : R5} {i1 i2 i3 : Int32} {tr : Nat → Int32}
theorem c_hold (hA : AWc ac M) (hj : Inj (AD ac h rr)) (hB : gt M h = some (bk r w n ph (nI rf) (nI lo) (nI hi))) (hR : gt M rr = some (ia 0 z f)) (hz : 8 * n ≤ z) (hz2 : z ≤ 100000) (hO : OW f n) (hn : n ≤ 41) (hm : Ar n f m) (h330 : m 330 = nI rf) (hrf : rf < 1000000) (hlo : 1 ≤ lo) (hlh : lo ≤ hi) (hhi : hi ≤ 999) : CtV G mX0_hold [.ref (ac 3), .ref h, .ref rr] M 0 0 (fun M' => (∃ l0 l1 D i1 i2 i3 tr, AH ac h rr f m n rf lo hi l0 l1 D i1 i2 i3 tr M') ∧ Fr (afr ac) M M') := by
  obtain ⟨so, po, t0, r0, i1, i2, i3, i4, ov, hp, vo, re, t, g, fl, tr, sa, cn, tu, s0, s1, p0, p1, hs, q3, q0, q1, q2, q6, q7, q8, q9, q10, q11, q15, q16, q17, q18⟩ := hA
  have C := a_hold (G := G) (ad := AD ac h rr) hj hs.1 hs.2.1 q3 q8 q10 q11 q15 q16 hR hB hn hz hz2 (fun k hk => hO.sd hk)
  refine C.imp ?_
  rintro M' ⟨hP, hF⟩
  obtain ⟨⟨c0, c1, hS, -, -⟩, u1, u2, u3⟩ := hld_sp hO hn (s0, s1, cn, tu, 0) n (Nat.le_refl _)
  obtain ⟨l0, k0, k1⟩ := LSl_of hO hn hS.2.2.1 hS.2.2.2.2.1
  obtain ⟨l1, k2, k3⟩ := LSl_of hO hn hS.2.2.2.1 hS.2.2.2.2.2
  obtain ⟨p3, p8, p10, p11, p15, p16, p14⟩ := hP
  have N : ∀ i, i < 20 → i ∉ [3, 10, 11, 15, 16] → AD ac h rr i ∉ hfr (AD ac h rr) := fun i hi hn => nin hj hi (by decide) hn
  refine ⟨⟨l0, l1, (sa, g, fl, p0, p1), i1, i2, i3, tr, so, po, (hld f (s0, s1, cn, tu, 0) n).2.2.2.2, (hld f (s0, s1, cn, tu, 0) n).2.2.1, (hld f (s0, s1, cn, tu, 0) n).2.2.2.1, (hld f (s0, s1, cn, tu, 0) n).1, (hld f (s0, s1, cn, tu, 0) n).2.1, hs, ⟨hO, hn, hm, h330, hrf, hlo, hlh, hhi, TU_of u1 u2, k0, k2⟩, ⟨by rw [k1]; exact hS.1, by rw [k3]; exact hS.2.1, by omega⟩, ⟨t, ov, hp, vo, re, p3, hF.rd (N 0 (by decide) (by decide)) q0, hF.rd (N 1 (by decide) (by decide)) q1, hF.rd (N 2 (by decide) (by decide)) q2, hF.rd (N 7 (by decide) (by decide)) q7, hF.rd (N 17 (by decide) (by decide)) q17, hF.rd (N 18 (by decide) (by decide)) q18⟩, hF.rd (N 6 (by decide) (by decide)) q6, p8, hF.rd (N 9 (by decide) (by decide)) q9, p10, p11, p15, p16⟩, ?_⟩
  refine hF.mono (fun a ha => ?_)
  simp only [hfr, List.mem_cons, List.not_mem_nil, or_false] at ha
  simp only [afr, List.mem_cons, List.not_mem_nil, or_false]
  rcases ha with e | e | e | e | e <;> simp [e, AD]
/-- the cross of what is held, one order aside -/
noncomputable def CR3 (m : Nat → Int32) (n lo hi : Nat) (x : Int32) : (Nat → Int32) × (Nat → Int32) × Nat := crs m (qt m) n lo hi (n + 1) (ct0 m x) (fun _ => 0) 0
theorem c_run {x : Int32} (hj : Inj (AD ac h rr)) (hA : AH ac h rr f m n rf lo hi l0 l1 D i1 i2 i3 tr M) (hB : gt M h = some (bk r w n ph (nI rf) (nI lo) (nI hi))) (hR : gt M rr = some (ia 0 z f)) (hz : 8 * n ≤ z) (hz2 : z ≤ 100000) : CtV G mX0_run [.ref (ac 3), .int x] M 0 0 (fun M' => (∃ D', AH ac h rr f m n rf lo hi l0 l1 D' (nI (CR3 m n lo hi x).2.2) (nI ((CR3 m n lo hi x).2.2 - 1)) i3 tr M' ∧ CO f n D'.1 (CR3 m n lo hi x).1 (CR3 m n lo hi x).2.1 ∧ RD f m n lo hi l0 l1 (CR3 m n lo hi x).1 D') ∧ Fr (afr ac) M M') := by
  obtain ⟨so, po, tc, cn, tu, s0, s1, hs, hO, hc, hP, q6, q8, q9, q10, q11, q15, q16⟩ := hA
  obtain ⟨e1, e2, e3, e4, e5⟩ := hO.cnt
  have C := a_run (G := G) (x := x) (ad := AD ac h rr) (K := mkK f tu tc n rf lo hi s0 s1 l0.length l1.length) (so := so) (po := po) (z := z) (cn := cn) (r := r) (w := w) (ph := ph) (D := D) (i1 := i1) (i2 := i2) (i3 := i3) (M := M) hj ⟨hs.1, hs.2.1, hs.2.2.1, hs.2.2.2, hc.1, hc.2.1, e1, e2, hO.hn, hz, hz2, hc.2.2, e3, e4, e5⟩ ⟨q8, q9, q10, q11, hB, hR, q15, q16⟩ hP
  refine C.imp ?_
  rintro M' ⟨hP', hF⟩
  obtain ⟨j1, j2, j3, j4, j5⟩ := run_sp hO (x := x) (D := D)
  have N : ∀ i, i < 20 → i ∉ [3, 0, 1, 2, 7, 17, 18] → AD ac h rr i ∉ rfr (AD ac h rr) := fun i hi hn => nin hj hi (by decide) hn
  refine ⟨⟨_, ⟨so, po, tc, cn, tu, s0, s1, hs, hO, hc, ?_, hF.rd (N 6 (by decide) (by decide)) q6, hF.rd (N 8 (by decide) (by decide)) q8, hF.rd (N 9 (by decide) (by decide)) q9, hF.rd (N 10 (by decide) (by decide)) q10, hF.rd (N 11 (by decide) (by decide)) q11, hF.rd (N 15 (by decide) (by decide)) q15, hF.rd (N 16 (by decide) (by decide)) q16⟩, j2, j3⟩, ?_⟩
  · have := hP'
    rw [show (rlp (mkK f tu tc n rf lo hi s0 s1 l0.length l1.length) ((mkK f tu tc n rf lo hi s0 s1 l0.length l1.length).2.2.2.1 + 1) 1 (st0 (mkK f tu tc n rf lo hi s0 s1 l0.length l1.length).1 x D.1 (mkK f tu tc n rf lo hi s0 s1 l0.length l1.length).2.2.2.1, D.2)).1 = (CR3 m n lo hi x).2.2 from j1] at this
    exact this
  · refine hF.mono (fun a ha => ?_)
    simp only [rfr, List.mem_cons, List.not_mem_nil, or_false] at ha
    simp only [afr, List.mem_cons, List.not_mem_nil, or_false]
    rcases ha with e | e | e | e | e | e | e <;> simp [e, AD]
theorem c_match (hj : Inj (AD ac h rr)) (hA : AH ac h rr f m n rf lo hi l0 l1 D i1 i2 i3 tr M) (hbn : bn m = n) (hblo : blo m = lo) (hbhi : bhi m = hi) {ou : Nat → Int32} (hC : CO f n D.1 (CR3 m n lo hi (-1)).1 ou) (hD : RD f m n lo hi l0 l1 (CR3 m n lo hi (-1)).1 D) : CtV G mX0_match [.ref (ac 3)] M 0 0 (fun M' => (∃ D' tr' T, D'.1 = D.1 ∧ D'.2.1 = D.2.1 ∧ D'.2.2.1 = D.2.2.1 ∧ TCl tr' T.length T ∧ T.map gq = xT m ∧ T.length ≤ 82 ∧ AH ac h rr f m n rf lo hi l0 l1 D' i1 i2 (nI T.length) tr' M') ∧ Fr (afr ac) M M') := by
  obtain ⟨so, po, tc, cn, tu, s0, s1, hs, hO, hc, ⟨t, ov, hp, vo, re, p3, p0, p1, p2, p7, p17, p18⟩, q6, q8, q9, q10, q11, q15, q16⟩ := hA
  obtain ⟨e1, e2, e3, e4, e5⟩ := hO.cnt
  obtain ⟨k3, rfl⟩ := nI_any i3
  have C := a_match (G := G) (ad := AD ac h rr) (so := so) (po := po) (cn := cn) (i1 := i1) (i2 := i2) (i4 := nI tc) (P := (D.2.2.2.1, D.2.2.2.2, tr, k3)) hj q8 q9 q10 q15 q16 hs.1 hs.2.1 hs.2.2.1 hs.2.2.2 hc.1 hc.2.1 e1 e2 ⟨p3, q6, p17, p18⟩
  refine C.imp ?_
  rintro M' ⟨hP, hF⟩
  subst hbn; subst hblo; subst hbhi
  obtain ⟨T, t1, t2, t3⟩ := mat_sp hO rfl rfl rfl hC.1 hD (tr := tr)
  have N : ∀ i, i < 20 → i ∉ [3, 6, 17, 18] → AD ac h rr i ∉ mfr (AD ac h rr) := fun i hi hn => nin hj hi (by decide) hn
  obtain ⟨g3, g6, g17, g18⟩ := hP
  have hcnt := t1.1
  generalize mlp s0 s1 l0.length l1.length (l0.length + l1.length) 0 0 (D.2.2.2.1, D.2.2.2.2, tr, 0) = P at *
  refine ⟨⟨(D.1, D.2.1, D.2.2.1, P.1, P.2.1), P.2.2.1, T, rfl, rfl, rfl, by rw [← hcnt]; exact t1, t2, t3, so, po, tc, cn, tu, s0, s1, hs, hO, hc, ⟨t, ov, hp, vo, re, by rw [← hcnt]; exact g3, hF.rd (N 0 (by decide) (by decide)) p0, hF.rd (N 1 (by decide) (by decide)) p1, hF.rd (N 2 (by decide) (by decide)) p2, hF.rd (N 7 (by decide) (by decide)) p7, g17, g18⟩, g6, hF.rd (N 8 (by decide) (by decide)) q8, hF.rd (N 9 (by decide) (by decide)) q9, hF.rd (N 10 (by decide) (by decide)) q10, hF.rd (N 11 (by decide) (by decide)) q11, hF.rd (N 15 (by decide) (by decide)) q15, hF.rd (N 16 (by decide) (by decide)) q16⟩, ?_⟩
  refine hF.mono (fun a ha => ?_)
  simp only [mfr, List.mem_cons, List.not_mem_nil, or_false] at ha
  simp only [afr, List.mem_cons, List.not_mem_nil, or_false]
  rcases ha with e | e | e | e <;> simp [e, AD]
end AUX
