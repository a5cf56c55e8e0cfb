/-! what is shared out -/
theorem a64 (k : Nat) : (k &&& 2 ^ 6 = 0) ↔ k / 64 % 2 = 0 := by
  have hb : ∀ i, (k &&& 2 ^ 6).testBit i = (k.testBit i && decide (6 = i)) := fun i => by rw [Nat.testBit_and, Nat.testBit_two_pow]
  constructor
  · intro h
    have := hb 6
    rw [h, Nat.zero_testBit, Nat.testBit_eq_decide_div_mod_eq] at this
    by_cases q : k / 2 ^ 6 % 2 = 1
    · rw [decide_eq_true q] at this
      exact absurd this (by decide)
    · omega
  · intro h
    refine Nat.eq_of_testBit_eq (fun i => ?_)
    rw [hb, Nat.zero_testBit]
    by_cases e : 6 = i
    · subst e
      rw [Nat.testBit_eq_decide_div_mod_eq, decide_eq_false (by omega)]; rfl
    · rw [decide_eq_false e, Bool.and_false]
theorem nI_64 {k : Nat} (h : k < 2 ^ 31) : (nI k &&& 64 = 0) ↔ k / 64 % 2 = 0 := by
  have e : (nI k &&& 64).toBitVec.toNat = k &&& 2 ^ 6 := by
    rw [Int32.toBitVec_and, BitVec.toNat_and, pk_tn (by omega)]
    rfl
  rw [← a64, ← e]
  constructor
  · intro z
    rw [z]
    rfl
  · intro z
    exact Int32.toBitVec_inj.mp (BitVec.eq_of_toNat_eq z)
section SHR
variable {f sa s : Nat → Int32} {n sd : Nat}
theorem sv_t {o t : Nat} (h : sv f sd o t) : t < 2 := by rcases h.2.2 with e | ⟨e, -⟩ <;> omega
theorem sv_pos (hO : OW f n) {o t : Nat} (ho : o < n) (h : sv f sd o t) : ∃ x, 1 ≤ x ∧ x ≤ 9999 ∧ ptf f (qt f) o (nI t) = nI x := by
  obtain ⟨s, kd, q, pr, sh, le, ow, g, e0, e1, e2, e3, e4, e5, e6, e7, b0, b1, b2, b3, b4, b5, b6, b7, b8, b9, b10, b11⟩ := hO o ho
  have eg : g = 0 := by
    have := h.1
    rw [e7] at this
    exact (nI_eq (b := 0) (by omega) (by omega)).mp this
  have eq : qt f o = nI q := e2
  have h3 : nI kd = 3 ↔ kd = 3 := nI_eq (b := 3) (by omega) (by omega)
  rw [ptf, e1, e4, eq, mn_n (by omega) (by omega)]
  rcases h.2.2 with e | ⟨e, z3, z4⟩
  · rw [e]
    by_cases c : nI kd = 3
    · rw [if_pos c, if_pos nI_0]
      have := b11 eg (h3.mp c)
      exact ⟨min sh q, by omega, by omega, rfl⟩
    · rw [if_neg c, if_pos nI_0]
      exact ⟨q, b10 eg, b2, rfl⟩
  · rw [e4, e2, nI_ltI (by omega) (by omega)] at z4
    rw [e1] at z3
    rw [e, if_pos z3, if_neg (by decide), nI_subI (by omega)]
    exact ⟨q - min sh q, by omega, by omega, rfl⟩
/-- whom a round serves -/
def srv (ct f : Nat → Int32) (p : Int32) (q : Nat × Nat) : Prop := ct q.1 ≠ 0 ∧ wl f q.1 p
noncomputable def lwv (ct f : Nat → Int32) (p : Int32) (l : List (Nat × Nat)) : List (Nat × Nat) := l.filter (fun q => @decide (srv ct f p q) (Classical.propDecidable _))
theorem lwv_mem {ct : Nat → Int32} {p : Int32} {l : List (Nat × Nat)} {q : Nat × Nat} : q ∈ lwv ct f p l ↔ q ∈ l ∧ srv ct f p q := by
  rw [lwv, List.mem_filter, @decide_eq_true_iff _ (Classical.propDecidable _)]
theorem lwv_t {ct : Nat → Int32} {p : Int32} {l : List (Nat × Nat)} {q : Nat × Nat} (h : srv ct f p q) : lwv ct f p (q :: l) = q :: lwv ct f p l := List.filter_cons_of_pos (@decide_eq_true _ (Classical.propDecidable _) h)
theorem lwv_f {ct : Nat → Int32} {p : Int32} {l : List (Nat × Nat)} {q : Nat × Nat} (h : ¬ srv ct f p q) : lwv ct f p (q :: l) = lwv ct f p l := List.filter_cons_of_neg (by rw [@decide_eq_true_iff _ (Classical.propDecidable _)]; exact h)
theorem lwv_sl (hO : OW f n) (hn : n ≤ 41) (hsd : sd < 2) {l : List (Nat × Nat)} (hl : LSl f n sd s l) {ct : Nat → Int32} (hg : ∀ k, k < n → ct k ≠ 0 → f (8 * k + 7) = 0) {p : Int32} : SLs f ct (qt f) (nI sd) p n (lwv ct f p l) := by
  refine ⟨fun q hq => ?_, fun o t ho ht hv => ?_, ?_⟩
  · obtain ⟨h1, h2⟩ := lwv_mem.mp hq
    obtain ⟨h3, h4⟩ := (hl.2.2 q.1 q.2).mp h1
    obtain ⟨x, x1, x2, x3⟩ := sv_pos hO h3 h4
    exact ⟨h3, sv_t h4, h4.2.1, h2, by rw [x3]; exact (nI_ltI (a := 0) (by omega) (by omega)).mpr (by omega)⟩
  · refine lwv_mem.mpr ⟨(hl.2.2 o t).mpr ⟨ho, hg o ho hv.2.1.1, hv.1, ?_⟩, hv.2.1⟩
    by_cases e : t = 0
    · exact Or.inl e
    · have e1 : t = 1 := by omega
      subst e1
      have h0 := hv.2.2
      by_cases c : f (8 * o + 1) = 3
      · refine Or.inr ⟨rfl, c, ?_⟩
        obtain ⟨s, kd, q, pr, sh, le, ow, g, e0, e1, e2, e3, e4, e5, e6, e7, b0, b1, b2, b3, b4, b5, -⟩ := hO o ho
        have eq : qt f o = nI q := e2
        rw [ptf, if_pos c, if_neg (by decide), e4, eq, mn_n (by omega) (by omega), nI_subI (by omega), show (0 : Int32) = nI 0 from rfl, nI_ltI (by omega) (by omega)] at h0
        rw [e4, e2, nI_ltI (by omega) (by omega)]
        omega
      · rw [ptf_1 c] at h0
        exact absurd h0 (by decide)
  · refine List.Pairwise.filter _ ?_
    refine hl.2.1.imp_of_mem ?_
    intro q r hq hr hlt
    have hq := (hl.2.2 q.1 q.2).mp hq
    have hr := (hl.2.2 r.1 r.2).mp hr
    have e1 := hO.rk hq.1 hn q.2 (sv_t hq.2)
    rw [rk_n hO hn hq.1 (sv_t hq.2), rk_n hO hn hr.1 (sv_t hr.2)]
    have w := (key_rk hO hn hq.1 hr.1).mp hlt
    have ub : ∀ o t, o < n → rkN f o t < 1000000 := by
      intro o t ho
      have a1 := nea_le hO ho
      have b1 := hid_le (f := f) (o := o) (t := t)
      rw [rkN]
      have c : (if f (8 * o + 1) = 4 then 2 else if f (8 * o + 1) = 0 then 0 else 1) ≤ 2 := by
        split
        · omega
        · split <;> omega
      generalize (if f (8 * o + 1) = 4 then 2 else if f (8 * o + 1) = 0 then 0 else 1) = x at c ⊢
      omega
    exact (nI_ltI (by have := ub q.1 q.2 hq.1; omega) (by have := ub r.1 r.2 hr.1; omega)).mpr w
theorem slc_lw (hO : OW f n) (hn : n ≤ 41) (hsd : sd < 2) {l : List (Nat × Nat)} (hl : LSl f n sd s l) {ct : Nat → Int32} (hg : ∀ k, k < n → ct k ≠ 0 → f (8 * k + 7) = 0) {p : Int32} : slc f ct (qt f) (nI sd) p n = lwv ct f p l := slc_eq (lwv_sl hO hn hsd hl hg)
/-- one part -/
theorem prt_sp (hO : OW f n) (hn : n ≤ 41) {o t : Nat} (ho : o < n) (hv : sv f sd o t) {op pr : Int32} : nb (nI (skey f o t)) = o ∧ prt f sa op pr (nI (skey f o t)) = @ite _ (0 < op ∧ sa o = 0 ∧ wl f o pr) (Classical.propDecidable _) (mn op (ptf f (qt f) o (nI t))) 0 := by
  have hk := skey_lt (t := t) hO hn ho
  have hm := skey_o (t := t) hO hn ho
  have e : nb (nI (skey f o t)) = o := by rw [nb, pk_andN (by omega) 6 (by decide), show skey f o t % 2 ^ 6 = o from hm, nI_clamp (by omega)]
  refine ⟨e, ?_⟩
  by_cases c : 0 < op ∧ sa o = 0 ∧ wl f o pr
  · rw [if_pos c]
    refine (prt_t e c ?_).symm
    have a1 := nea_le hO ho
    obtain ⟨s, kd, q, pr, sh, le, ow, g, e0, e1, e2, e3, e4, e5, e6, e7, b0, b1, b2, b3, b4, b5, -⟩ := hO o ho
    have eq : qt f o = nI q := e2
    have h64 : (nI (skey f o t) &&& 64 = 0) ↔ hid f o t = 0 := by
      rw [nI_64 (by omega)]
      have b1 := hid_le (f := f) (o := o) (t := t)
      have c1 := bas0_c f o
      rw [skey]
      omega
    rw [ptf, eq, e2, e4, mn_n (by omega) (by omega), Nat.min_eq_left b5]
    by_cases c3 : f (8 * o + 1) = 3
    · rw [if_pos c3, if_pos c3]
      rcases hv.2.2 with z | ⟨z, -⟩
      · rw [z] at h64 ⊢
        rw [if_pos nI_0, if_pos (h64.mpr (by rw [hid, if_neg (fun w => w.elim (fun u => by rw [c3] at u; exact absurd u (by decide)) (by decide))]))]
      · rw [z] at h64 ⊢
        rw [if_neg (by decide), if_neg (fun u => by have := h64.mp u; rw [hid, if_pos (Or.inr rfl)] at this; omega)]
    · rw [if_neg c3, if_neg c3]
      rcases hv.2.2 with z | ⟨z, z3, -⟩
      · rw [z, if_pos nI_0]
      · exact absurd z3 c3
  · rw [if_neg c]
    exact (prt_f e c).symm
/-- what is left to give; the parts in order -/
def gv (m my : Nat → Int32) : List (Nat × Nat) → Int32 → Int32
  | [], x => x
  | q :: r, x => gv m my r (x - mn x (ptf m my q.1 (nI q.2)))
theorem gv_ap {m my : Nat → Int32} {q : Nat × Nat} : ∀ (l : List (Nat × Nat)) (x : Int32), gv m my (l ++ [q]) x = gv m my l x - mn (gv m my l x) (ptf m my q.1 (nI q.2))
  | [], x => rfl
  | p :: r, x => gv_ap r _
theorem fil_ap {m my : Nat → Int32} {q : Nat × Nat} : ∀ (l : List (Nat × Nat)) (x : Int32) (fl : Nat → Int32), fil m my (l ++ [q]) x fl = upd (fil m my l x fl) q.1 (fil m my l x fl q.1 + mn (gv m my l x) (ptf m my q.1 (nI q.2)))
  | [], x, fl => rfl
  | p :: r, x, fl => fil_ap r _ _
noncomputable def pl (ct f : Nat → Int32) (p : Int32) : List (Nat × Nat) → Int32 → List Int32
  | [], _ => []
  | q :: r, x => @ite _ (srv ct f p q) (Classical.propDecidable _) (mn x (ptf f (qt f) q.1 (nI q.2)) :: pl ct f p r (x - mn x (ptf f (qt f) q.1 (nI q.2)))) (0 :: pl ct f p r x)
theorem pl_len {ct : Nat → Int32} {p : Int32} : ∀ (l : List (Nat × Nat)) (x : Int32), (pl ct f p l x).length = l.length
  | [], x => rfl
  | q :: r, x => by
    rw [pl]
    split
    · rw [List.length_cons, List.length_cons, pl_len r]
    · rw [List.length_cons, List.length_cons, pl_len r]
theorem pl_ap {ct : Nat → Int32} {p : Int32} {q : Nat × Nat} : ∀ (l : List (Nat × Nat)) (x : Int32), pl ct f p (l ++ [q]) x = pl ct f p l x ++ [@ite _ (srv ct f p q) (Classical.propDecidable _) (mn (gv f (qt f) (lwv ct f p l) x) (ptf f (qt f) q.1 (nI q.2))) 0]
  | [], x => by
    have e : pl ct f p [q] x = @ite _ (srv ct f p q) (Classical.propDecidable _) (mn x (ptf f (qt f) q.1 (nI q.2)) :: []) (0 :: []) := rfl
    show pl ct f p [q] x = _
    rw [e]
    by_cases h : srv ct f p q
    · rw [if_pos h, if_pos h]; rfl
    · rw [if_neg h, if_neg h]; rfl
  | a :: r, x => by
    show pl ct f p (a :: (r ++ [q])) x = _
    rw [pl, pl]
    by_cases h : srv ct f p a
    · rw [if_pos h, if_pos h, lwv_t h, pl_ap r, gv]; rfl
    · rw [if_neg h, if_neg h, lwv_f h, pl_ap r]; rfl
theorem lwv_ap {ct : Nat → Int32} {p : Int32} {l r : List (Nat × Nat)} : lwv ct f p (l ++ r) = lwv ct f p l ++ lwv ct f p r := List.filter_append _ _
theorem shr_sp (hO : OW f n) (hn : n ≤ 41) {l : List (Nat × Nat)} (hl : LSl f n sd s l) {ct : Nat → Int32} (hct : ∀ k, k < n → (ct k ≠ 0 ↔ sa k = 0)) {pr : Int32} {v : Nat} (hv : v < 2 ^ 31) {p0 fl : Nat → Int32} : ∀ i, i ≤ l.length → (∃ x, x ≤ v ∧ (shr f sa s pr (nI v) p0 fl i).1 = nI x) ∧ (shr f sa s pr (nI v) p0 fl i).1 = gv f (qt f) (lwv ct f pr (l.take i)) (nI v) ∧ (shr f sa s pr (nI v) p0 fl i).2.2 = fil f (qt f) (lwv ct f pr (l.take i)) (nI v) fl ∧ ∀ j, j < i → (pl ct f pr (l.take i) (nI v))[j]? = some ((shr f sa s pr (nI v) p0 fl i).2.1 j)
  | 0, _ => ⟨⟨v, Nat.le_refl _, rfl⟩, rfl, rfl, fun j hj => by omega⟩
  | i + 1, hi => by
    obtain ⟨⟨x, x1, x2⟩, i2, i3, i4⟩ := shr_sp hO hn hl hct (pr := pr) hv (p0 := p0) (fl := fl) i (by omega)
    have hg : l[i]? = some l[i] := List.getElem?_eq_getElem (by omega)
    have hm := (hl.2.2 l[i].1 l[i].2).mp (List.getElem_mem (by omega))
    have hs := hl.1 i _ hg
    obtain ⟨p1, p2⟩ := prt_sp (sa := sa) (op := (shr f sa s pr (nI v) p0 fl i).1) (pr := pr) hO hn hm.1 hm.2
    obtain ⟨y, y1, y2, y3⟩ := sv_pos hO hm.1 hm.2
    have et : l.take (i + 1) = l.take i ++ [l[i]] := by rw [List.take_add_one, hg]; rfl
    have hlen : (l.take i).length = i := by rw [List.length_take]; omega
    rw [← hs] at p1 p2
    rw [shr, p1, p2, et, pl_ap, lwv_ap, ← i2]
    have part : (@ite _ (0 < (shr f sa s pr (nI v) p0 fl i).1 ∧ sa l[i].1 = 0 ∧ wl f l[i].1 pr) (Classical.propDecidable _) (mn (shr f sa s pr (nI v) p0 fl i).1 (ptf f (qt f) l[i].1 (nI l[i].2))) 0) = @ite _ (srv ct f pr l[i]) (Classical.propDecidable _) (mn (shr f sa s pr (nI v) p0 fl i).1 (ptf f (qt f) l[i].1 (nI l[i].2))) 0 := by
      by_cases c : srv ct f pr l[i]
      · rw [if_pos c]
        by_cases c0 : 0 < (shr f sa s pr (nI v) p0 fl i).1
        · rw [if_pos ⟨c0, (hct _ hm.1).mp c.1, c.2⟩]
        · rw [if_neg (fun z => c0 z.1)]
          rw [x2, show (0 : Int32) = nI 0 from rfl, nI_ltI (by omega) (by omega)] at c0
          rw [x2, show x = 0 by omega, y3, mn_n (by omega) (by omega), Nat.zero_min]
          rfl
      · rw [if_neg c, if_neg (fun z => c ⟨(hct _ hm.1).mpr z.2.1, z.2.2⟩)]
    rw [part]
    have pz : ∀ (P : Int32) (j : Nat), j < i + 1 → (pl ct f pr (l.take i) (nI v) ++ [P])[j]? = some (upd (shr f sa s pr (nI v) p0 fl i).2.1 i P j) := by
      intro P j hj
      by_cases e : j = i
      · subst e
        rw [pk_us, List.getElem?_append_right (by rw [pl_len, hlen]; exact Nat.le_refl _), pl_len, hlen, Nat.sub_self]; rfl
      · rw [pk_un e, List.getElem?_append_left (by rw [pl_len, hlen]; omega)]
        exact i4 j (by omega)
    by_cases c : srv ct f pr l[i]
    · rw [if_pos c, lwv_t c]
      refine ⟨⟨x - min x y, by omega, ?_⟩, ?_, ?_, pz _⟩
      · show (shr f sa s pr (nI v) p0 fl i).1 - _ = _
        rw [x2, y3, mn_n (by omega) (by omega), nI_subI (by omega)]
      · show _ = gv f (qt f) (lwv ct f pr (l.take i) ++ [l[i]]) (nI v)
        rw [gv_ap, ← i2]
      · show _ = fil f (qt f) (lwv ct f pr (l.take i) ++ [l[i]]) (nI v) fl
        rw [fil_ap, ← i2, ← i3]
    · rw [if_neg c, lwv_f c]
      refine ⟨⟨x, x1, ?_⟩, ?_, ?_, pz _⟩
      · show (shr f sa s pr (nI v) p0 fl i).1 - 0 = _
        rw [Int32.sub_zero, x2]
      · show (shr f sa s pr (nI v) p0 fl i).1 - 0 = gv f (qt f) (lwv ct f pr (l.take i) ++ []) (nI v)
        rw [Int32.sub_zero, List.append_nil, ← i2]
      · show upd (shr f sa s pr (nI v) p0 fl i).2.2 l[i].1 ((shr f sa s pr (nI v) p0 fl i).2.2 l[i].1 + 0) = fil f (qt f) (lwv ct f pr (l.take i) ++ []) (nI v) fl
        rw [Int32.add_zero, List.append_nil, ← i3]
        funext j
        by_cases e : j = l[i].1
        · rw [e, pk_us]
        · rw [pk_un e]
end SHR
