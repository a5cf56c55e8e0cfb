/-! the text: tokens -/
/-- up to the first that isn't so -/
def rn (P : Nat → Bool) (c : Nat → Nat) : Nat → Nat → Nat
  | 0, p => p
  | d + 1, p => if P (c p) = true then rn P c d (p + 1) else p
abbrev pB (x : Nat) : Bool := x == 32 || x == 10
abbrev pL (x : Nat) : Bool := Nat.ble 97 x && Nat.ble x 122
abbrev pD (x : Nat) : Bool := Nat.ble 48 x && Nat.ble x 57
/-- where the token begins, ends, its type (end, word, whole, sign, none), its number -/
def tkA (c : Nat → Nat) (n p : Nat) : Nat := rn pB c (n - p) p
def tkE (c : Nat → Nat) (n p : Nat) : Nat := if n ≤ tkA c n p then tkA c n p else if pL (c (tkA c n p)) = true then rn pL c (n - tkA c n p) (tkA c n p) else if pD (c (tkA c n p)) = true then rn pD c (n - tkA c n p) (tkA c n p) else tkA c n p + 1
def tkT (c : Nat → Nat) (n p : Nat) : Nat := if n ≤ tkA c n p then 0 else if pL (c (tkA c n p)) = true then (if tkE c n p - tkA c n p ≤ 9 then 1 else 4) else if pD (c (tkA c n p)) = true then (if tkE c n p - tkA c n p ≤ 4 then 2 else 4) else if c (tkA c n p) = 59 then 3 else 4
def dv (c : Nat → Nat) (a : Nat) : Nat → Nat
  | 0 => 0
  | k + 1 => 10 * dv c a k + (c (a + k) - 48)
def lw (c : Nat → Nat) (a : Nat) : Nat → Nat
  | 0 => 0
  | k + 1 => 27 * lw c a k + (c (a + k) - 96)
def tkV (c : Nat → Nat) (n p : Nat) : Nat := dv c (tkA c n p) (tkE c n p - tkA c n p)
def nL (k : Nat) : Int64 := Int64.ofNat k
theorem nL_add (a b : Nat) : nL a + nL b = nL (a + b) := (Int64.ofNat_add a b).symm
theorem nL_mul (a b : Nat) : nL a * nL b = nL (a * b) := (Int64.ofNat_mul a b).symm
theorem nI_toL {k : Nat} (h : k < 2 ^ 31) : (nI k).toInt64 = nL k := by
  refine Int64.toInt_inj.mp ?_
  rw [Int32.toInt_toInt64, nI_toInt h, nL, Int64.toInt_ofNat_of_lt (by omega)]
theorem nL_inj {a b : Nat} (ha : a < 2 ^ 63) (hb : b < 2 ^ 63) : nL a = nL b ↔ a = b := by
  rw [← Int64.toInt_inj, nL, nL, Int64.toInt_ofNat_of_lt ha, Int64.toInt_ofNat_of_lt hb]
  omega
theorem lw_s {x k : Nat} (h : 96 ≤ k) (h2 : k < 1000) : (27 : Int64) * nL x + (nI k).toInt64 - 96 = nL (27 * x + (k - 96)) := by
  have e : nL (27 * x + (k - 96)) + nL 96 = nL 27 * nL x + nL k := by
    rw [nL_add, nL_mul, nL_add]
    congr 1
    omega
  rw [nI_toL (by omega)]
  show nL 27 * nL x + nL k - nL 96 = _
  rw [← e, Int64.add_sub_cancel]
theorem dv_s {x k : Nat} (h : 48 ≤ k) (h2 : k < 1000) : (10 : Int32) * nI x + nI k - 48 = nI (10 * x + (k - 48)) := by
  have e : nI (10 * x + (k - 48)) + nI 48 = nI 10 * nI x + nI k := by
    rw [nI_add, pk_mul, nI_add]
    congr 1
    omega
  show nI 10 * nI x + nI k - nI 48 = _
  rw [← e, Int32.add_sub_cancel]
theorem rn_ge (P : Nat → Bool) (c : Nat → Nat) : ∀ d p, p ≤ rn P c d p ∧ rn P c d p ≤ p + d
  | 0, p => ⟨Nat.le_refl _, Nat.le_refl _⟩
  | d + 1, p => by
    rw [rn]
    split
    · have := rn_ge P c d (p + 1)
      omega
    · omega
theorem tkA_le {c : Nat → Nat} {n p : Nat} (h : p ≤ n) : p ≤ tkA c n p ∧ tkA c n p ≤ n := by
  have := rn_ge pB c (n - p) p
  rw [tkA]
  omega
theorem tkE_le {c : Nat → Nat} {n p : Nat} (h : p ≤ n) : tkA c n p ≤ tkE c n p ∧ tkE c n p ≤ n := by
  have h1 := tkA_le (c := c) h
  rw [tkE]
  split
  · omega
  · split
    · have := rn_ge pL c (n - tkA c n p) (tkA c n p)
      omega
    · split
      · have := rn_ge pD c (n - tkA c n p) (tkA c n p)
        omega
      · omega
/-- what the reference holds of the token that it looks at -/
def TK (c : Nat → Nat) (n p : Nat) (v : Nat → Int32) (L : Int64) : Prop := v 10 = nI (tkA c n p) ∧ v 11 = nI (tkE c n p) ∧ v 12 = nI (tkT c n p) ∧ (tkT c n p = 2 → v 13 = nI (tkV c n p)) ∧ (tkT c n p = 1 → L = nL (lw c (tkA c n p) (tkE c n p - tkA c n p)))
def VT (v v' : Nat → Int32) : Prop := ∀ j, j ∉ [10, 11, 12, 13] → v' j = v j
theorem VT.rf {v : Nat → Int32} : VT v v := fun _ _ => rfl
theorem VT.tr {v v1 v2 : Nat → Int32} (h : VT v v1) (h2 : VT v1 v2) : VT v v2 := fun j hj => (h2 j hj).trans (h j hj)
theorem VT.u {v v1 : Nat → Int32} {k : Nat} {x : Int32} (h : VT v v1) (hk : k ∈ [10, 11, 12, 13]) : VT v (upd v1 k x) := fun j hj => by
  rw [pk_un (fun q => hj (by rw [q]; exact hk))]
  exact h j hj
/-- the bytes' codes -/
def Cds (f : Nat → Int32) (n : Nat) (c : Nat → Nat) : Prop := ∀ j, j < n → f j &&& 255 = nI (c j) ∧ c j < 256
section TKA
variable {G : GP} {a : Nat → Nat} {M0 M : Wd} {v : Nat → Int32} {L : Int64} {X : Nat → Nat → Int32} {c : Nat → Nat} {n p : Nat}
set_option maxRecDepth 20000 in
theorem m_byteAt {x : Int32} (k : Nat) (hx : x = nI k) (hk : k ≤ n) (hn : n ≤ 800) (h9 : v 9 = nI n) (hc : Cds (X 7) n c) (hZ : MZ a M0 v L X M) : CtI G mX6_byteAt [.ref (a 0), .int x] M 0 0 (fun y M' => y = (if k < n then nI (c k) else -1) ∧ M' = M) := by
  subst hx
  by_cases h : k < n
  · rw [if_pos h]
    refine Ct.of (ls := [some (.ref (a 0)), some (.int (nI k))]) (by decide) (by decide) rfl rfl rfl ?_
    refine Ev.ild1 dX6_byteAt_0 ?_
    refine Ev.ald0 dX6_byteAt_1 ?_
    refine Ev.mgv (kx := 9) dX6_byteAt_2 fX6_86 hZ rfl ?_
    rw [h9]
    refine Ev.icmp_ge (tgt := 21) dX6_byteAt_5 (by decide) (fun c5 => by first | exact absurd c5 (nI_ge h (by omega)) | exact absurd (nI_ge h (by omega)) c5) (fun c5 => ?_)
    refine Ev.ald0 dX6_byteAt_8 ?_
    refine Ev.mgr (kx := 7) dX6_byteAt_9 fX6_23 hZ rfl ?_
    refine Ev.ild1 dX6_byteAt_12 ?_
    refine Ev.mbld (j := k) mq7 dX6_byteAt_13 hZ (by first | assumption | (simp only [nI, Int32.ofNat_add, Int32.ofNat_mul]; done) | (simp only [nI, Int32.ofNat_add, Int32.ofNat_mul]; rfl) | rfl) (by omega) ?_
    (try simp only [ux_s, ux_n, ne_eq, Nat.reduceEqDiff, Nat.succ_ne_self, not_false_eq_true])
    refine Ev.sipush (v := 255) dX6_byteAt_14 (by decide) ?_
    refine Ev.iand dX6_byteAt_17 ?_
    rw [(hc k h).1]
    refine Ev.goto (tgt := 22) dX6_byteAt_18 (by decide) ?_
    refine Ev.iret dX6_byteAt_22 rfl rfl ?_
    exact ⟨_, rfl, rfl, rfl⟩
  · rw [if_neg h]
    have : k = n := by omega
    subst this
    refine Ct.of (ls := [some (.ref (a 0)), some (.int (nI k))]) (by decide) (by decide) rfl rfl rfl ?_
    refine Ev.ild1 dX6_byteAt_0 ?_
    refine Ev.ald0 dX6_byteAt_1 ?_
    refine Ev.mgv (kx := 9) dX6_byteAt_2 fX6_86 hZ rfl ?_
    rw [h9]
    refine Ev.icmp_ge (tgt := 21) dX6_byteAt_5 (by decide) (fun c5 => ?_) (fun c5 => by first | exact absurd (Int32.le_refl _) c5 | exact absurd c5 (Int32.le_refl _))
    refine Ev.iconst (v := -1) dX6_byteAt_21 (by decide) ?_
    refine Ev.iret dX6_byteAt_22 rfl rfl ?_
    exact ⟨_, rfl, rfl, rfl⟩
set_option maxRecDepth 20000 in
theorem m_isLetter {x : Int32} : CtI G mX6_isLetter [.int x] M 0 0 (fun y M' => y = (if 97 ≤ x ∧ x ≤ 122 then 1 else 0) ∧ M' = M) := by
  refine Ct.of (ls := [some (.int x)]) (by decide) (by decide) rfl rfl rfl ?_
  refine Ev.ild0 dX6_isLetter_0 ?_
  refine Ev.i2l dX6_isLetter_1 ?_
  refine Ev.ldc2 dX6_isLetter_2 kX6_89 ?_
  refine Ev.ldc2 dX6_isLetter_5 kX6_91 ?_
  refine Ev.csI (Yc := mX6_within) dX6_isLetter_8 lX6_93 vX6_within rfl (m_wI (y := 97) (z := 122) (by decide) (by decide)) rfl rfl rfl ?_
  rintro y8 M9 ⟨hy8, rfl⟩
  refine Ev.iret dX6_isLetter_11 rfl (by first | rfl | (rw [hy8]; split <;> rfl)) ?_
  exact ⟨_, rfl, hy8, rfl⟩
set_option maxRecDepth 20000 in
theorem m_isDigit {x : Int32} : CtI G mX6_isDigit [.int x] M 0 0 (fun y M' => y = (if 48 ≤ x ∧ x ≤ 57 then 1 else 0) ∧ M' = M) := by
  refine Ct.of (ls := [some (.int x)]) (by decide) (by decide) rfl rfl rfl ?_
  refine Ev.ild0 dX6_isDigit_0 ?_
  refine Ev.i2l dX6_isDigit_1 ?_
  refine Ev.ldc2 dX6_isDigit_2 kX6_97 ?_
  refine Ev.ldc2 dX6_isDigit_5 kX6_99 ?_
  refine Ev.csI (Yc := mX6_within) dX6_isDigit_8 lX6_93 vX6_within rfl (m_wI (y := 48) (z := 57) (by decide) (by decide)) rfl rfl rfl ?_
  rintro y8 M9 ⟨hy8, rfl⟩
  refine Ev.iret dX6_isDigit_11 rfl (by first | rfl | (rw [hy8]; split <;> rfl)) ?_
  exact ⟨_, rfl, hy8, rfl⟩
theorem pL_iff {k : Nat} (h : k < 256) : pL k = true ↔ (97 : Int32) ≤ nI k ∧ nI k ≤ 122 := by
  have e1 : (97 : Int32) ≤ nI k ↔ 97 ≤ k := nI_leI (a := 97) (by omega) (by omega)
  have e2 : nI k ≤ 122 ↔ k ≤ 122 := nI_leI (b := 122) (by omega) (by omega)
  rw [e1, e2, Bool.and_eq_true, Nat.ble_eq, Nat.ble_eq]
theorem pD_iff {k : Nat} (h : k < 256) : pD k = true ↔ (48 : Int32) ≤ nI k ∧ nI k ≤ 57 := by
  have e1 : (48 : Int32) ≤ nI k ↔ 48 ≤ k := nI_leI (a := 48) (by omega) (by omega)
  have e2 : nI k ≤ 57 ↔ k ≤ 57 := nI_leI (b := 57) (by omega) (by omega)
  rw [e1, e2, Bool.and_eq_true, Nat.ble_eq, Nat.ble_eq]
theorem pB_iff {k : Nat} (h : k < 256) : pB k = true ↔ nI k = 32 ∨ nI k = 10 := by
  have e1 : nI k = 32 ↔ k = 32 := nI_eq (b := 32) (by omega) (by omega)
  have e2 : nI k = 10 ↔ k = 10 := nI_eq (b := 10) (by omega) (by omega)
  rw [e1, e2]
  simp
set_option maxRecDepth 20000 in
theorem m_goB {Q : Option Value → Wd → Prop} (hn : n ≤ 800) (h9 : v 9 = nI n) (hc : Cds (X 7) n c) (kk : ∀ (v' : Nat → Int32) (M' : Wd), MZ a M0 v' L X M' → VT v v' → v' 11 = nI (tkA c n p) → Ev G mX6_go 39 [some (.ref (a 0)), none] [] M' 0 0 Q) : ∀ (d q : Nat) (v1 : Nat → Int32) (M : Wd), q + d = n → rn pB c d q = tkA c n p → MZ a M0 v1 L X M → VT v v1 → v1 11 = nI q → Ev G mX6_go 0 [some (.ref (a 0)), none] [] M 0 0 Q := by
  intro d
  induction d with
  | zero =>
    intro q v1 M hq hr hZ hV h11
    have e9 : v1 9 = nI n := (hV 9 (by decide)).trans h9
    rw [rn] at hr
    refine Ev.ald0 dX6_go_0 ?_
    refine Ev.ald0 dX6_go_1 ?_
    refine Ev.mgv (kx := 11) dX6_go_2 fX6_101 hZ rfl ?_
    rw [h11]
    refine Ev.cvI (Yc := mX6_byteAt) (ci := 6) dX6_go_5 lX6_104 vX6_byteAt rfl (m_byteAt q rfl (by omega) hn e9 hc hZ) ⟨_, hZ.2.1.1⟩ rfl rfl rfl rfl ?_
    rintro y5 M9 ⟨hy5, rfl⟩
    rw [if_neg (by omega)] at hy5
    subst hy5
    refine Ev.bipush (v := 32) dX6_go_8 (by decide) ?_
    refine Ev.icmp_eq (tgt := 26) dX6_go_10 (by decide) (fun c10 => by first | exact absurd c10 (by decide) | exact absurd (by decide) c10) (fun c10 => ?_)
    refine Ev.ald0 dX6_go_13 ?_
    refine Ev.ald0 dX6_go_14 ?_
    refine Ev.mgv (kx := 11) dX6_go_15 fX6_101 hZ rfl ?_
    rw [h11]
    refine Ev.cvI (Yc := mX6_byteAt) (ci := 6) dX6_go_18 lX6_104 vX6_byteAt rfl (m_byteAt q rfl (by omega) hn e9 hc hZ) ⟨_, hZ.2.1.1⟩ rfl rfl rfl rfl ?_
    rintro y18 M9 ⟨hy18, rfl⟩
    rw [if_neg (by omega)] at hy18
    subst hy18
    refine Ev.bipush (v := 10) dX6_go_21 (by decide) ?_
    refine Ev.icmp_ne (tgt := 39) dX6_go_23 (by decide) (fun c23 => ?_) (fun c23 => by first | exact absurd (by decide) c23 | exact absurd c23 (by decide))
    exact kk v1 _ hZ hV (by rw [h11, hr])
  | succ d ih =>
    intro q v1 M hq hr hZ hV h11
    have e9 : v1 9 = nI n := (hV 9 (by decide)).trans h9
    obtain ⟨-, hc2⟩ := hc q (by omega)
    have st : ∀ (M : Wd) (w : Nat → Int32), w = upd v1 11 (nI (q + 1)) → MZ a M0 w L X M → pB (c q) = true → Ev G mX6_go 0 [some (.ref (a 0)), none] [] M 0 0 Q := by
      intro M w hw hZ hb
      subst hw
      rw [rn, if_pos hb] at hr
      exact ih (q + 1) _ M (by omega) hr hZ (hV.u (by decide)) pk_us
    refine Ev.ald0 dX6_go_0 ?_
    refine Ev.ald0 dX6_go_1 ?_
    refine Ev.mgv (kx := 11) dX6_go_2 fX6_101 hZ rfl ?_
    rw [h11]
    refine Ev.cvI (Yc := mX6_byteAt) (ci := 6) dX6_go_5 lX6_104 vX6_byteAt rfl (m_byteAt q rfl (by omega) hn e9 hc hZ) ⟨_, hZ.2.1.1⟩ rfl rfl rfl rfl ?_
    rintro y5 M9 ⟨hy5, rfl⟩
    rw [if_pos (by omega)] at hy5
    subst hy5
    refine Ev.bipush (v := 32) dX6_go_8 (by decide) ?_
    refine Ev.icmp_eq (tgt := 26) dX6_go_10 (by decide) (fun c10 => ?_) (fun c10 => ?_)
    · refine Ev.ald0 dX6_go_26 ?_
      refine Ev.dup dX6_go_27 rfl ?_
      refine Ev.mgv (kx := 11) dX6_go_28 fX6_101 hZ rfl ?_
      rw [h11]
      refine Ev.iconst (v := 1) dX6_go_31 (by decide) ?_
      refine Ev.iadd dX6_go_32 ?_
      rw [nI_1]
      refine Ev.mput (kx := 11) dX6_go_33 fX6_101 hZ rfl rfl (fun M hZ => ?_)
      refine Ev.goto (tgt := 0) dX6_go_36 (by decide) ?_
      exact st _ _ rfl hZ ((pB_iff hc2).mpr (Or.inl c10))
    · refine Ev.ald0 dX6_go_13 ?_
      refine Ev.ald0 dX6_go_14 ?_
      refine Ev.mgv (kx := 11) dX6_go_15 fX6_101 hZ rfl ?_
      rw [h11]
      refine Ev.cvI (Yc := mX6_byteAt) (ci := 6) dX6_go_18 lX6_104 vX6_byteAt rfl (m_byteAt q rfl (by omega) hn e9 hc hZ) ⟨_, hZ.2.1.1⟩ rfl rfl rfl rfl ?_
      rintro y18 M9 ⟨hy18, rfl⟩
      rw [if_pos (by omega)] at hy18
      subst hy18
      refine Ev.bipush (v := 10) dX6_go_21 (by decide) ?_
      refine Ev.icmp_ne (tgt := 39) dX6_go_23 (by decide) (fun c23 => ?_) (fun c23 => ?_)
      · rw [rn, if_neg (fun z => ((pB_iff hc2).mp z).elim c10 c23)] at hr
        exact kk v1 _ hZ hV (by rw [h11, hr])
      · refine Ev.ald0 dX6_go_26 ?_
        refine Ev.dup dX6_go_27 rfl ?_
        refine Ev.mgv (kx := 11) dX6_go_28 fX6_101 hZ rfl ?_
        rw [h11]
        refine Ev.iconst (v := 1) dX6_go_31 (by decide) ?_
        refine Ev.iadd dX6_go_32 ?_
        rw [nI_1]
        refine Ev.mput (kx := 11) dX6_go_33 fX6_101 hZ rfl rfl (fun M hZ => ?_)
        refine Ev.goto (tgt := 0) dX6_go_36 (by decide) ?_
        exact st _ _ rfl hZ ((pB_iff hc2).mpr (Or.inr c23))
set_option maxRecDepth 20000 in
theorem m_goL {Q : Option Value → Wd → Prop} {A E : Nat} {a1 : Option Value} (hn : n ≤ 800) (h9 : v 9 = nI n) (hc : Cds (X 7) n c) (kk : ∀ (v' : Nat → Int32) (L' : Int64) (M' : Wd), MZ a M0 v' L' X M' → VT v v' → v' 10 = nI A → v' 11 = nI E → L' = nL (lw c A (min (E - A) 9)) → Ev G mX6_go 154 [some (.ref (a 0)), a1] [] M' 0 0 Q) : ∀ (d k : Nat) (v1 : Nat → Int32) (L1 : Int64) (M : Wd), A + k + d = n → rn pL c d (A + k) = E → MZ a M0 v1 L1 X M → VT v v1 → v1 10 = nI A → v1 11 = nI (A + k) → L1 = nL (lw c A (min k 9)) → Ev G mX6_go 80 [some (.ref (a 0)), a1] [] M 0 0 Q := by
  intro d
  induction d with
  | zero =>
    intro k v1 L1 M hq hr hZ hV h10 h11 hL
    have e9 : v1 9 = nI n := (hV 9 (by decide)).trans h9
    rw [rn] at hr
    have hE : E - A = k := by omega
    refine Ev.ald0 dX6_go_80 ?_
    refine Ev.ald0 dX6_go_81 ?_
    refine Ev.mgv (kx := 11) dX6_go_82 fX6_101 hZ rfl ?_
    rw [h11]
    refine Ev.cvI (Yc := mX6_byteAt) (ci := 6) dX6_go_85 lX6_104 vX6_byteAt rfl (m_byteAt (A + k) rfl (by omega) hn e9 hc hZ) ⟨_, hZ.2.1.1⟩ rfl rfl rfl rfl ?_
    rintro y85 M9 ⟨hy85, rfl⟩
    rw [if_neg (by omega)] at hy85
    subst hy85
    refine Ev.csI (Yc := mX6_isLetter) dX6_go_88 lX6_114 vX6_isLetter rfl m_isLetter rfl rfl rfl ?_
    rintro y88 M9 ⟨hy88, rfl⟩
    rw [if_neg (by decide)] at hy88
    refine Ev.if_eq (tgt := 154) dX6_go_91 (by decide) (fun c91 => ?_) (fun c91 => by first | exact absurd hy88 c91 | exact absurd c91 hy88)
    exact kk v1 L1 _ hZ hV h10 (by rw [h11, hr]) (by rw [hE, hL])
  | succ d ih =>
    intro k v1 L1 M hq hr hZ hV h10 h11 hL
    have e9 : v1 9 = nI n := (hV 9 (by decide)).trans h9
    obtain ⟨-, hc2⟩ := hc (A + k) (by omega)
    have hsub : nI (A + k) - nI A = nI k := by rw [nI_subI (by omega)]; congr 1; omega
    have st : ∀ (M : Wd) (L2 : Int64), pL (c (A + k)) = true → L2 = nL (lw c A (min (k + 1) 9)) → MZ a M0 (upd v1 11 (nI (A + (k + 1)))) L2 X M → Ev G mX6_go 80 [some (.ref (a 0)), a1] [] M 0 0 Q := by
      intro M L2 hb hL2 hZ
      rw [rn, if_pos hb] at hr
      exact ih (k + 1) _ L2 M (by omega) hr hZ (hV.u (by decide)) (by rw [pk_un (by decide), h10]) pk_us hL2
    subst hL
    refine Ev.ald0 dX6_go_80 ?_
    refine Ev.ald0 dX6_go_81 ?_
    refine Ev.mgv (kx := 11) dX6_go_82 fX6_101 hZ rfl ?_
    rw [h11]
    refine Ev.cvI (Yc := mX6_byteAt) (ci := 6) dX6_go_85 lX6_104 vX6_byteAt rfl (m_byteAt (A + k) rfl (by omega) hn e9 hc hZ) ⟨_, hZ.2.1.1⟩ rfl rfl rfl rfl ?_
    rintro y85 M9 ⟨hy85, rfl⟩
    rw [if_pos (by omega)] at hy85
    subst hy85
    refine Ev.csI (Yc := mX6_isLetter) dX6_go_88 lX6_114 vX6_isLetter rfl m_isLetter rfl rfl rfl ?_
    rintro y88 M9 ⟨hy88, rfl⟩
    refine Ev.if_eq (tgt := 154) dX6_go_91 (by decide) (fun c91 => ?_) (fun c91 => ?_)
    · rw [rn, if_neg (fun z => v01_f hy88 c91 ((pL_iff hc2).mp z))] at hr
      have hE : E - A = k := by omega
      exact kk v1 _ _ hZ hV h10 (by rw [h11, hr]) (by rw [hE])
    · refine Ev.ald0 dX6_go_94 ?_
      refine Ev.ald0 dX6_go_95 ?_
      refine Ev.mgv (kx := 11) dX6_go_96 fX6_101 hZ rfl ?_
      rw [h11]
      refine Ev.ald0 dX6_go_99 ?_
      refine Ev.mgv (kx := 10) dX6_go_100 fX6_108 hZ rfl ?_
      rw [h10]
      refine Ev.isub dX6_go_103 ?_
      rw [hsub]
      refine Ev.bipush (v := 9) dX6_go_104 (by decide) ?_
      refine Ev.icmp_ge (tgt := 134) dX6_go_106 (by decide) (fun c106 => ?_) (fun c106 => ?_)
      · refine Ev.ald0 dX6_go_134 ?_
        refine Ev.mgl dX6_go_135 fX6_118 hZ ?_
        refine Ev.mputl dX6_go_138 fX6_118 hZ (fun M hZ => ?_)
        refine Ev.ald0 dX6_go_141 ?_
        refine Ev.dup dX6_go_142 rfl ?_
        refine Ev.mgv (kx := 11) dX6_go_143 fX6_101 hZ rfl ?_
        rw [h11]
        refine Ev.iconst (v := 1) dX6_go_146 (by decide) ?_
        refine Ev.iadd dX6_go_147 ?_
        rw [nI_1]
        refine Ev.mput (kx := 11) dX6_go_148 fX6_101 hZ rfl rfl (fun M hZ => ?_)
        refine Ev.goto (tgt := 80) dX6_go_151 (by decide) ?_
        refine st _ _ ((pL_iff hc2).mpr (v01_t hy88 c91)) ?_ hZ
        have : 9 ≤ k := (nI_leI (a := 9) (by omega) (by omega)).mp c106
        rw [Nat.min_eq_right (by omega), Nat.min_eq_right (by omega)]
      · refine Ev.ldc2 dX6_go_109 kX6_122 ?_
        refine Ev.ald0 dX6_go_112 ?_
        refine Ev.mgl dX6_go_113 fX6_118 hZ ?_
        refine Ev.lmul dX6_go_116 ?_
        refine Ev.ald0 dX6_go_117 ?_
        refine Ev.ald0 dX6_go_118 ?_
        refine Ev.mgv (kx := 11) dX6_go_119 fX6_101 hZ rfl ?_
        rw [h11]
        refine Ev.cvI (Yc := mX6_byteAt) (ci := 6) dX6_go_122 lX6_104 vX6_byteAt rfl (m_byteAt (A + k) rfl (by omega) hn e9 hc hZ) ⟨_, hZ.2.1.1⟩ rfl rfl rfl rfl ?_
        rintro y122 M9 ⟨hy122, rfl⟩
        rw [if_pos (by omega)] at hy122
        subst hy122
        refine Ev.i2l dX6_go_125 ?_
        refine Ev.ladd dX6_go_126 ?_
        refine Ev.ldc2 dX6_go_127 kX6_124 ?_
        refine Ev.lsub dX6_go_130 ?_
        refine Ev.goto (tgt := 138) dX6_go_131 (by decide) ?_
        refine Ev.mputl dX6_go_138 fX6_118 hZ (fun M hZ => ?_)
        refine Ev.ald0 dX6_go_141 ?_
        refine Ev.dup dX6_go_142 rfl ?_
        refine Ev.mgv (kx := 11) dX6_go_143 fX6_101 hZ rfl ?_
        rw [h11]
        refine Ev.iconst (v := 1) dX6_go_146 (by decide) ?_
        refine Ev.iadd dX6_go_147 ?_
        rw [nI_1]
        refine Ev.mput (kx := 11) dX6_go_148 fX6_101 hZ rfl rfl (fun M hZ => ?_)
        refine Ev.goto (tgt := 80) dX6_go_151 (by decide) ?_
        refine st _ _ ((pL_iff hc2).mpr (v01_t hy88 c91)) ?_ hZ
        have : k < 9 := Nat.not_le.mp (fun z => c106 (nI_le (a := 9) z (by omega)))
        have hb := (nI_leI (a := 97) (by omega) (by omega)).mp (v01_t hy88 c91).1
        rw [Nat.min_eq_left (by omega), Nat.min_eq_left (by omega), lw_s (by omega) (by omega), lw]
set_option maxRecDepth 20000 in
theorem m_goD {Q : Option Value → Wd → Prop} {A E : Nat} {a1 : Option Value} (hn : n ≤ 800) (h9 : v 9 = nI n) (hc : Cds (X 7) n c) (kk : ∀ (v' : Nat → Int32) (M' : Wd), MZ a M0 v' L X M' → VT v v' → v' 10 = nI A → v' 11 = nI E → v' 13 = nI (dv c A (min (E - A) 4)) → Ev G mX6_go 262 [some (.ref (a 0)), a1] [] M' 0 0 Q) : ∀ (d k : Nat) (v1 : Nat → Int32) (M : Wd), A + k + d = n → rn pD c d (A + k) = E → MZ a M0 v1 L X M → VT v v1 → v1 10 = nI A → v1 11 = nI (A + k) → v1 13 = nI (dv c A (min k 4)) → Ev G mX6_go 192 [some (.ref (a 0)), a1] [] M 0 0 Q := by
  intro d
  induction d with
  | zero =>
    intro k v1 M hq hr hZ hV h10 h11 hL
    have e9 : v1 9 = nI n := (hV 9 (by decide)).trans h9
    rw [rn] at hr
    have hE : E - A = k := by omega
    refine Ev.ald0 dX6_go_192 ?_
    refine Ev.ald0 dX6_go_193 ?_
    refine Ev.mgv (kx := 11) dX6_go_194 fX6_101 hZ rfl ?_
    rw [h11]
    refine Ev.cvI (Yc := mX6_byteAt) (ci := 6) dX6_go_197 lX6_104 vX6_byteAt rfl (m_byteAt (A + k) rfl (by omega) hn e9 hc hZ) ⟨_, hZ.2.1.1⟩ rfl rfl rfl rfl ?_
    rintro y197 M9 ⟨hy197, rfl⟩
    rw [if_neg (by omega)] at hy197
    subst hy197
    refine Ev.csI (Yc := mX6_isDigit) dX6_go_200 lX6_126 vX6_isDigit rfl m_isDigit rfl rfl rfl ?_
    rintro y200 M9 ⟨hy200, rfl⟩
    rw [if_neg (by decide)] at hy200
    refine Ev.if_eq (tgt := 262) dX6_go_203 (by decide) (fun c203 => ?_) (fun c203 => by first | exact absurd hy200 c203 | exact absurd c203 hy200)
    exact kk v1 _ hZ hV h10 (by rw [h11, hr]) (by rw [hE, hL])
  | succ d ih =>
    intro k v1 M hq hr hZ hV h10 h11 hL
    have e9 : v1 9 = nI n := (hV 9 (by decide)).trans h9
    obtain ⟨-, hc2⟩ := hc (A + k) (by omega)
    have hsub : nI (A + k) - nI A = nI k := by rw [nI_subI (by omega)]; congr 1; omega
    have st : ∀ (M : Wd) (x : Int32), pD (c (A + k)) = true → x = nI (dv c A (min (k + 1) 4)) → MZ a M0 (upd (upd v1 13 x) 11 (nI (A + (k + 1)))) L X M → Ev G mX6_go 192 [some (.ref (a 0)), a1] [] M 0 0 Q := by
      intro M x hb hx hZ
      rw [rn, if_pos hb] at hr
      exact ih (k + 1) _ M (by omega) hr hZ ((hV.u (by decide)).u (by decide)) (by rw [pk_un (by decide), pk_un (by decide), h10]) pk_us (by rw [pk_un (by decide), pk_us, hx])
    have h11b : ∀ x, upd v1 13 x 11 = nI (A + k) := fun x => by rw [pk_un (by decide), h11]
    refine Ev.ald0 dX6_go_192 ?_
    refine Ev.ald0 dX6_go_193 ?_
    refine Ev.mgv (kx := 11) dX6_go_194 fX6_101 hZ rfl ?_
    rw [h11]
    refine Ev.cvI (Yc := mX6_byteAt) (ci := 6) dX6_go_197 lX6_104 vX6_byteAt rfl (m_byteAt (A + k) rfl (by omega) hn e9 hc hZ) ⟨_, hZ.2.1.1⟩ rfl rfl rfl rfl ?_
    rintro y197 M9 ⟨hy197, rfl⟩
    rw [if_pos (by omega)] at hy197
    subst hy197
    refine Ev.csI (Yc := mX6_isDigit) dX6_go_200 lX6_126 vX6_isDigit rfl m_isDigit rfl rfl rfl ?_
    rintro y200 M9 ⟨hy200, rfl⟩
    refine Ev.if_eq (tgt := 262) dX6_go_203 (by decide) (fun c203 => ?_) (fun c203 => ?_)
    · rw [rn, if_neg (fun z => v01_f hy200 c203 ((pD_iff hc2).mp z))] at hr
      have hE : E - A = k := by omega
      exact kk v1 _ hZ hV h10 (by rw [h11, hr]) (by rw [hE, hL])
    · refine Ev.ald0 dX6_go_206 ?_
      refine Ev.ald0 dX6_go_207 ?_
      refine Ev.mgv (kx := 11) dX6_go_208 fX6_101 hZ rfl ?_
      rw [h11]
      refine Ev.ald0 dX6_go_211 ?_
      refine Ev.mgv (kx := 10) dX6_go_212 fX6_108 hZ rfl ?_
      rw [h10]
      refine Ev.isub dX6_go_215 ?_
      rw [hsub]
      refine Ev.iconst (v := 4) dX6_go_216 (by decide) ?_
      refine Ev.icmp_ge (tgt := 242) dX6_go_217 (by decide) (fun c217 => ?_) (fun c217 => ?_)
      · refine Ev.ald0 dX6_go_242 ?_
        refine Ev.mgv (kx := 13) dX6_go_243 fX6_129 hZ rfl ?_
        rw [hL]
        refine Ev.mput (kx := 13) dX6_go_246 fX6_129 hZ rfl rfl (fun M hZ => ?_)
        refine Ev.ald0 dX6_go_249 ?_
        refine Ev.dup dX6_go_250 rfl ?_
        refine Ev.mgv (kx := 11) dX6_go_251 fX6_101 hZ rfl ?_
        rw [h11b]
        refine Ev.iconst (v := 1) dX6_go_254 (by decide) ?_
        refine Ev.iadd dX6_go_255 ?_
        rw [nI_1]
        refine Ev.mput (kx := 11) dX6_go_256 fX6_101 hZ rfl rfl (fun M hZ => ?_)
        refine Ev.goto (tgt := 192) dX6_go_259 (by decide) ?_
        refine st _ _ ((pD_iff hc2).mpr (v01_t hy200 c203)) ?_ hZ
        have : 4 ≤ k := (nI_leI (a := 4) (by omega) (by omega)).mp c217
        rw [Nat.min_eq_right (by omega), Nat.min_eq_right (by omega)]
      · refine Ev.bipush (v := 10) dX6_go_220 (by decide) ?_
        refine Ev.ald0 dX6_go_222 ?_
        refine Ev.mgv (kx := 13) dX6_go_223 fX6_129 hZ rfl ?_
        rw [hL]
        refine Ev.imul dX6_go_226 ?_
        refine Ev.ald0 dX6_go_227 ?_
        refine Ev.ald0 dX6_go_228 ?_
        refine Ev.mgv (kx := 11) dX6_go_229 fX6_101 hZ rfl ?_
        rw [h11]
        refine Ev.cvI (Yc := mX6_byteAt) (ci := 6) dX6_go_232 lX6_104 vX6_byteAt rfl (m_byteAt (A + k) rfl (by omega) hn e9 hc hZ) ⟨_, hZ.2.1.1⟩ rfl rfl rfl rfl ?_
        rintro y232 M9 ⟨hy232, rfl⟩
        rw [if_pos (by omega)] at hy232
        subst hy232
        refine Ev.iadd dX6_go_235 ?_
        refine Ev.bipush (v := 48) dX6_go_236 (by decide) ?_
        refine Ev.isub dX6_go_238 ?_
        refine Ev.goto (tgt := 246) dX6_go_239 (by decide) ?_
        refine Ev.mput (kx := 13) dX6_go_246 fX6_129 hZ rfl rfl (fun M hZ => ?_)
        refine Ev.ald0 dX6_go_249 ?_
        refine Ev.dup dX6_go_250 rfl ?_
        refine Ev.mgv (kx := 11) dX6_go_251 fX6_101 hZ rfl ?_
        rw [h11b]
        refine Ev.iconst (v := 1) dX6_go_254 (by decide) ?_
        refine Ev.iadd dX6_go_255 ?_
        rw [nI_1]
        refine Ev.mput (kx := 11) dX6_go_256 fX6_101 hZ rfl rfl (fun M hZ => ?_)
        refine Ev.goto (tgt := 192) dX6_go_259 (by decide) ?_
        refine st _ _ ((pD_iff hc2).mpr (v01_t hy200 c203)) ?_ hZ
        have : k < 4 := Nat.not_le.mp (fun z => c217 (nI_le (a := 4) z (by omega)))
        have hb := (nI_leI (a := 48) (by omega) (by omega)).mp (v01_t hy200 c203).1
        rw [Nat.min_eq_left (by omega), Nat.min_eq_left (by omega), dv_s (by omega) (by omega), dv]
end TKA
