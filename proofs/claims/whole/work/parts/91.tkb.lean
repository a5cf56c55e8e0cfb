/-! the text: what it tells -/
theorem rn_all (P : Nat → Bool) (c : Nat → Nat) : ∀ d p j, p ≤ j → j < rn P c d p → P (c j) = true
  | 0, p, j, h1, h2 => by rw [rn] at h2; omega
  | d + 1, p, j, h1, h2 => by
    rw [rn] at h2
    split at h2
    · rename_i h
      by_cases e : j = p
      · rw [e]; exact h
      · exact rn_all P c d (p + 1) j (by omega) h2
    · omega
theorem rn_pos {P : Nat → Bool} {c : Nat → Nat} {d p : Nat} (h : P (c p) = true) (hd : 0 < d) : p < rn P c d p := by
  obtain ⟨e, rfl⟩ : ∃ e, d = e + 1 := ⟨d - 1, by omega⟩
  rw [rn, if_pos h]
  have := rn_ge P c e (p + 1)
  omega
theorem tkT_w {c : Nat → Nat} {n p : Nat} (h : tkT c n p = 1) : tkE c n p - tkA c n p ≤ 9 ∧ 1 ≤ tkE c n p - tkA c n p ∧ tkA c n p < n ∧ ∀ i, i < tkE c n p - tkA c n p → 97 ≤ c (tkA c n p + i) ∧ c (tkA c n p + i) ≤ 122 := by
  rw [tkT] at h
  split at h
  · omega
  · rename_i h1
    split at h
    · rename_i h2
      split at h
      · rename_i h3
        have e : tkE c n p = rn pL c (n - tkA c n p) (tkA c n p) := by rw [tkE, if_neg h1, if_pos h2]
        have hp := rn_pos (P := pL) (c := c) (d := n - tkA c n p) h2 (by omega)
        refine ⟨h3, by omega, by omega, fun i hi => ?_⟩
        have := rn_all pL c (n - tkA c n p) (tkA c n p) (tkA c n p + i) (by omega) (by omega)
        rw [Bool.and_eq_true, Nat.ble_eq, Nat.ble_eq] at this
        exact this
      · omega
    · split at h
      · split at h <;> omega
      · split at h <;> omega
theorem tkT_d {c : Nat → Nat} {n p : Nat} (h : tkT c n p = 2) : tkE c n p - tkA c n p ≤ 4 ∧ tkA c n p < n ∧ ∀ i, i < tkE c n p - tkA c n p → 48 ≤ c (tkA c n p + i) ∧ c (tkA c n p + i) ≤ 57 := by
  rw [tkT] at h
  split at h
  · omega
  · rename_i h1
    split at h
    · split at h <;> omega
    · rename_i h2
      split at h
      · rename_i h4
        split at h
        · rename_i h3
          have e : tkE c n p = rn pD c (n - tkA c n p) (tkA c n p) := by rw [tkE, if_neg h1, if_neg h2, if_pos h4]
          refine ⟨h3, by omega, fun i hi => ?_⟩
          have := rn_all pD c (n - tkA c n p) (tkA c n p) (tkA c n p + i) (by omega) (by omega)
          rw [Bool.and_eq_true, Nat.ble_eq, Nat.ble_eq] at this
          exact this
        · omega
      · split at h <;> omega
theorem dv_lt {c : Nat → Nat} {a : Nat} : ∀ k, (∀ i, i < k → 48 ≤ c (a + i) ∧ c (a + i) ≤ 57) → dv c a k < 10 ^ k
  | 0, _ => by simp [dv]
  | k + 1, h => by
    have := dv_lt k (fun i hi => h i (by omega))
    have := h k (by omega)
    rw [dv, Nat.pow_succ]
    omega
theorem tkV_lt {c : Nat → Nat} {n p : Nat} (h : tkT c n p = 2) : tkV c n p < 10000 := by
  obtain ⟨h1, h2, h3⟩ := tkT_d h
  have := dv_lt (c := c) (a := tkA c n p) (tkE c n p - tkA c n p) h3
  have h4 : 10 ^ (tkE c n p - tkA c n p) ≤ 10 ^ 4 := Nat.pow_le_pow_right (by omega) h1
  rw [tkV]
  omega
theorem lw_lt {c : Nat → Nat} {a : Nat} : ∀ k, (∀ i, i < k → 97 ≤ c (a + i) ∧ c (a + i) ≤ 122) → lw c a k < 27 ^ k
  | 0, _ => by simp [lw]
  | k + 1, h => by
    have := lw_lt k (fun i hi => h i (by omega))
    have := h k (by omega)
    rw [lw, Nat.pow_succ]
    omega
theorem lw_inj {c d : Nat → Nat} {a b : Nat} : ∀ k m, (∀ i, i < k → 97 ≤ c (a + i) ∧ c (a + i) ≤ 122) → (∀ i, i < m → 97 ≤ d (b + i) ∧ d (b + i) ≤ 122) → lw c a k = lw d b m → k = m ∧ ∀ i, i < k → c (a + i) = d (b + i)
  | 0, 0, _, _, _ => ⟨rfl, fun i hi => by omega⟩
  | 0, m + 1, _, h2, e => by
    have := h2 m (by omega)
    rw [lw, lw] at e
    omega
  | k + 1, 0, h1, _, e => by
    have := h1 k (by omega)
    rw [lw, lw] at e
    omega
  | k + 1, m + 1, h1, h2, e => by
    have g1 := h1 k (by omega)
    have g2 := h2 m (by omega)
    rw [lw, lw] at e
    obtain ⟨r1, r2⟩ := lw_inj k m (fun i hi => h1 i (by omega)) (fun i hi => h2 i (by omega)) (by omega)
    subst r1
    refine ⟨rfl, fun i hi => ?_⟩
    by_cases q : i = k
    · subst q; omega
    · exact r2 i (by omega)
theorem lw_cg {c d : Nat → Nat} {a b : Nat} : ∀ k, (∀ i, i < k → c (a + i) = d (b + i)) → lw c a k = lw d b k
  | 0, _ => rfl
  | k + 1, h => by rw [lw, lw, lw_cg k (fun i hi => h i (by omega)), h k (by omega)]
/-- a word, and its number -/
def wf (W : List Nat) (i : Nat) : Nat := W.getD i 0
def wv (W : List Nat) : Nat := lw (wf W) 0 W.length
def wok (W : List Nat) : Prop := (∀ i, i < W.length → 97 ≤ wf W (0 + i) ∧ wf W (0 + i) ≤ 122) ∧ W.length ≤ 9
def iw (c : Nat → Nat) (n p : Nat) (W : List Nat) : Prop := tkT c n p = 1 ∧ tkE c n p - tkA c n p = W.length ∧ ∀ i, i < W.length → c (tkA c n p + i) = wf W i
theorem iw_num {c : Nat → Nat} {n p : Nat} {W : List Nat} (hW : wok W) : iw c n p W ↔ tkT c n p = 1 ∧ nL (lw c (tkA c n p) (tkE c n p - tkA c n p)) = nL (wv W) := by
  constructor
  · rintro ⟨h1, h2, h3⟩
    refine ⟨h1, ?_⟩
    rw [h2, wv, lw_cg (d := wf W) (b := 0) W.length (fun i hi => by rw [Nat.zero_add]; exact h3 i hi)]
  · rintro ⟨h1, h2⟩
    obtain ⟨g1, g2, g3, g4⟩ := tkT_w h1
    have b1 := lw_lt (c := c) (a := tkA c n p) _ g4
    have b2 := lw_lt (c := wf W) (a := 0) _ hW.1
    have p1 : 27 ^ (tkE c n p - tkA c n p) ≤ 27 ^ 9 := Nat.pow_le_pow_right (by omega) g1
    have p2 : 27 ^ W.length ≤ 27 ^ 9 := Nat.pow_le_pow_right (by omega) hW.2
    rw [nL_inj (by omega) (by rw [wv]; omega), wv] at h2
    obtain ⟨r1, r2⟩ := lw_inj _ _ g4 hW.1 h2
    exact ⟨h1, r1, fun i hi => by have := r2 i (by omega); rw [Nat.zero_add] at this; exact this⟩
abbrev Wre : List Nat := [114, 101, 102, 101, 114, 101, 110, 99, 101]
abbrev Wco : List Nat := [99, 111, 108, 108, 97, 114]
abbrev Wbu : List Nat := [98, 117, 121]
abbrev Wse : List Nat := [115, 101, 108, 108]
abbrev Wma : List Nat := [109, 97, 114, 107, 101, 116]
abbrev Wli : List Nat := [108, 105, 109, 105, 116]
abbrev Whi : List Nat := [104, 105, 100, 100, 101, 110]
abbrev Wic : List Nat := [105, 99, 101]
abbrev Wev : List Nat := [101, 118, 101, 110]
abbrev Wat : List Nat := [97, 116]
abbrev Wsh : List Nat := [115, 104, 111, 119, 115]
abbrev Wle : List Nat := [108, 101, 97, 115, 116]
abbrev Wby : List Nat := [98, 121]
theorem wok_of (W : List Nat) (h : (W.all (fun x => Nat.ble 97 x && Nat.ble x 122) && Nat.ble W.length 9) = true) : wok W := by
  rw [Bool.and_eq_true, List.all_eq_true, Nat.ble_eq] at h
  refine ⟨fun i hi => ?_, h.2⟩
  rw [Nat.zero_add, wf, List.getD_eq_getElem?_getD, List.getElem?_eq_getElem hi]
  have := h.1 W[i] (List.getElem_mem hi)
  rw [Bool.and_eq_true, Nat.ble_eq, Nat.ble_eq] at this
  exact this
noncomputable def iwb (c : Nat → Nat) (n p : Nat) (W : List Nat) : Bool := @decide (iw c n p W) (Classical.propDecidable _)
theorem iwb_i {c : Nat → Nat} {n p : Nat} {W : List Nat} : iwb c n p W = true ↔ iw c n p W := @decide_eq_true_iff _ (Classical.propDecidable _)
/-- a whole within bounds: a fault, or the number and where it goes on -/
noncomputable def nmb (c : Nat → Nat) (n p lo hi : Nat) : Nat ⊕ (Nat × Nat) := if tkT c n p = 2 then (if lo ≤ tkV c n p ∧ tkV c n p ≤ hi then .inr (tkV c n p, tkE c n p) else .inl (8 * tkA c n p + 2)) else .inl (8 * tkA c n p + 1)
noncomputable def wrd (c : Nat → Nat) (n p : Nat) (W : List Nat) : Nat ⊕ Nat := if iwb c n p W = true then .inr (tkE c n p) else .inl (8 * tkA c n p + 1)
/-- where it is, rows, orders, reference, low, high (0: not told) -/
abbrev Ps : Type := Nat × (Nat → Int32) × Nat × Nat × Nat × Nat
noncomputable def kdh (c : Nat → Nat) (n p : Nat) : Option Nat := if iwb c n p Wma = true then some 0 else if iwb c n p Wli = true then some 1 else if iwb c n p Whi = true then some 2 else if iwb c n p Wic = true then some 3 else if iwb c n p Wev = true then some 4 else none
noncomputable def olF (s : Ps) (p sd kd q pr sh le ow : Nat) : Nat ⊕ Ps := .inr (p, add8 s.2.1 s.2.2.1 (nI sd) (nI kd) (nI q) (nI pr) (nI sh) (nI le) (nI ow), s.2.2.1 + 1, s.2.2.2)
noncomputable def ol5 (c : Nat → Nat) (n : Nat) (s : Ps) (p sd kd q pr sh le : Nat) : Nat ⊕ Ps := if iwb c n p Wby = true then (match nmb c n (tkE c n p) 0 7 with
  | .inl F => .inl F
  | .inr (w, p') => olF s p' sd kd q pr sh le w) else olF s p sd kd q pr sh le 0
noncomputable def ol4 (c : Nat → Nat) (n : Nat) (s : Ps) (p sd kd q pr sh : Nat) : Nat ⊕ Ps := if iwb c n p Wle = true then (match nmb c n (tkE c n p) 0 q with
  | .inl F => .inl F
  | .inr (w, p') => ol5 c n s p' sd kd q pr sh w) else ol5 c n s p sd kd q pr sh 0
noncomputable def ol3b (c : Nat → Nat) (n : Nat) (s : Ps) (p sd kd q pr : Nat) : Nat ⊕ Ps := match nmb c n p 1 q with
  | .inl F => .inl F
  | .inr (w, p') => ol4 c n s p' sd kd q pr w
noncomputable def ol3 (c : Nat → Nat) (n : Nat) (s : Ps) (p sd kd q pr : Nat) : Nat ⊕ Ps := if kd = 3 then (match wrd c n p Wsh with
  | .inl F => .inl F
  | .inr p' => ol3b c n s p' sd kd q pr) else ol4 c n s p sd kd q pr 0
noncomputable def ol2b (c : Nat → Nat) (n : Nat) (s : Ps) (p sd kd q : Nat) : Nat ⊕ Ps := match nmb c n p 1 999 with
  | .inl F => .inl F
  | .inr (w, p') => ol3 c n s p' sd kd q w
noncomputable def ol2 (c : Nat → Nat) (n : Nat) (s : Ps) (p sd kd q : Nat) : Nat ⊕ Ps := if kd = 0 then ol3 c n s p sd kd q 0 else (match wrd c n p Wat with
  | .inl F => .inl F
  | .inr p' => ol2b c n s p' sd kd q)
noncomputable def ol1 (c : Nat → Nat) (n : Nat) (s : Ps) (p sd kd : Nat) : Nat ⊕ Ps := match nmb c n p 1 9999 with
  | .inl F => .inl F
  | .inr (w, p') => ol2 c n s p' sd kd w
noncomputable def ol0 (c : Nat → Nat) (n : Nat) (s : Ps) (sd : Nat) : Nat ⊕ Ps := if s.2.2.1 = 40 then .inl (8 * tkA c n s.1 + 4) else (match kdh c n (tkE c n s.1) with
  | none => .inl (8 * tkA c n (tkE c n s.1) + 1)
  | some kd => ol1 c n s (tkE c n (tkE c n s.1)) sd kd)
noncomputable def rln (c : Nat → Nat) (n : Nat) (s : Ps) : Nat ⊕ Ps := if 0 < s.2.2.2.1 ∨ 0 < s.2.2.1 then .inl (8 * tkA c n s.1 + 3) else (match nmb c n (tkE c n s.1) 1 999 with
  | .inl F => .inl F
  | .inr (w, p') => .inr (p', s.2.1, s.2.2.1, w, s.2.2.2.2))
noncomputable def cln2 (c : Nat → Nat) (n : Nat) (s : Ps) (p lo : Nat) : Nat ⊕ Ps := match nmb c n p lo 999 with
  | .inl F => .inl F
  | .inr (w, p') => .inr (p', s.2.1, s.2.2.1, s.2.2.2.1, lo, w)
noncomputable def cln (c : Nat → Nat) (n : Nat) (s : Ps) : Nat ⊕ Ps := if 0 < s.2.2.2.2.1 ∨ 0 < s.2.2.1 then .inl (8 * tkA c n s.1 + 3) else (match nmb c n (tkE c n s.1) 1 999 with
  | .inl F => .inl F
  | .inr (w, p') => cln2 c n s p' w)
noncomputable def lin (c : Nat → Nat) (n : Nat) (s : Ps) : Nat ⊕ Ps := if iwb c n s.1 Wre = true then rln c n s else if iwb c n s.1 Wco = true then cln c n s else if iwb c n s.1 Wbu = true then ol0 c n s 0 else if iwb c n s.1 Wse = true then ol0 c n s 1 else .inl (8 * tkA c n s.1 + 1)
noncomputable def lns (c : Nat → Nat) (n : Nat) : Nat → Ps → Nat ⊕ Ps
  | 0, _ => .inl 0
  | e + 1, s => if tkT c n s.1 = 3 then (match lin c n (tkE c n s.1, s.2) with
    | .inl F => .inl F
    | .inr s' => lns c n e s') else if tkT c n s.1 = 0 then .inr s else .inl (8 * tkA c n s.1 + 1)
noncomputable def prs0 (c : Nat → Nat) (n : Nat) (f : Nat → Int32) : Nat ⊕ Ps := match lin c n (0, f, 0, 0, 0, 0) with
  | .inl F => .inl F
  | .inr s => lns c n 43 s
abbrev txi : List Nat := [9, 10, 11, 12, 13, 15, 16, 18, 19, 20, 21]
/-- nothing but the text's own has changed -/
def KT (v v' : Nat → Int32) (X X' : Nat → Nat → Int32) : Prop := (∀ j, j ∉ txi → v' j = v j) ∧ ∀ j, j ≠ 17 → X' j = X j
theorem KT.rf {v : Nat → Int32} {X : Nat → Nat → Int32} : KT v v X X := ⟨fun _ _ => rfl, fun _ _ => rfl⟩
theorem KT.tr {v v1 v2 : Nat → Int32} {X X1 X2 : Nat → Nat → Int32} (h : KT v v1 X X1) (h2 : KT v1 v2 X1 X2) : KT v v2 X X2 := ⟨fun j hj => (h2.1 j hj).trans (h.1 j hj), fun j hj => (h2.2 j hj).trans (h.2 j hj)⟩
theorem KT.u {v v1 : Nat → Int32} {X X1 : Nat → Nat → Int32} {k : Nat} {x : Int32} (h : KT v v1 X X1) (hk : k ∈ txi) : KT v (upd v1 k x) X X1 := ⟨fun j hj => by
  rw [pk_un (fun q => hj (by rw [q]; exact hk))]
  exact h.1 j hj, h.2⟩
theorem KT.x {v v1 : Nat → Int32} {X X1 : Nat → Nat → Int32} {f : Nat → Int32} (h : KT v v1 X X1) : KT v v1 X (ux X1 17 f) := ⟨h.1, fun j hj => by rw [ux_n hj]; exact h.2 j hj⟩
theorem VT.k {v v' : Nat → Int32} {X : Nat → Nat → Int32} (h : VT v v') : KT v v' X X := ⟨fun j hj => h j (fun q => hj (by
  simp only [List.mem_cons, List.not_mem_nil, or_false] at q ⊢
  rcases q with q | q | q | q <;> simp [q])), fun _ _ => rfl⟩
/-- the reference at a token -/
def TC (c : Nat → Nat) (n p : Nat) (v : Nat → Int32) (L : Int64) (X : Nat → Nat → Int32) : Prop := n ≤ 800 ∧ v 9 = nI n ∧ Cds (X 7) n c ∧ p ≤ n ∧ TK c n p v L ∧ v 15 = 0
theorem TC.f {c : Nat → Nat} {n p : Nat} {v : Nat → Int32} {L : Int64} {X : Nat → Nat → Int32} {f : Nat → Int32} (h : TC c n p v L X) : TC c n p v L (ux X 17 f) := ⟨h.1, h.2.1, by rw [ux_n (by decide)]; exact h.2.2.1, h.2.2.2⟩
theorem TC.u {c : Nat → Nat} {n p : Nat} {v : Nat → Int32} {L : Int64} {X : Nat → Nat → Int32} {k : Nat} {x : Int32} (h : TC c n p v L X) (hk : k ∉ [9, 10, 11, 12, 13, 15]) : TC c n p (upd v k x) L X := by
  have e : ∀ j, j ∈ [9, 10, 11, 12, 13, 15] → upd v k x j = v j := fun j hj => pk_un (fun q => hk (by rw [← q]; exact hj))
  obtain ⟨h1, h2, h3, h4, ⟨t1, t2, t3, t4, t5⟩, h6⟩ := h
  exact ⟨h1, (e 9 (by decide)).trans h2, h3, h4, ⟨(e 10 (by decide)).trans t1, (e 11 (by decide)).trans t2, (e 12 (by decide)).trans t3, fun z => (e 13 (by decide)).trans (t4 z), t5⟩, (e 15 (by decide)).trans h6⟩
section TKB
variable {G : GP} {a : Nat → Nat} {M0 M : Wd} {v : Nat → Int32} {L : Int64} {X : Nat → Nat → Int32} {c : Nat → Nat} {n p : Nat}
set_option maxRecDepth 20000 in
theorem m_go (hn : n ≤ 800) (h9 : v 9 = nI n) (h11 : v 11 = nI p) (hp : p ≤ n) (hc : Cds (X 7) n c) (hZ : MZ a M0 v L X M) : CtV G mX6_go [.ref (a 0)] M 0 0 (fun M' => ∃ (v' : Nat → Int32) (L' : Int64), MZ a M0 v' L' X M' ∧ VT v v' ∧ TK c n p v' L') := by
  have hA := tkA_le (c := c) hp
  refine Ct.of (ls := [some (.ref (a 0)), none]) (by decide) (by decide) rfl rfl rfl ?_
  refine m_goB hn h9 hc (fun v1 M hZ hV h11 => ?_) (n - p) p v M (by omega) rfl hZ VT.rf h11
  have e9 : v1 9 = nI n := (hV 9 (by decide)).trans h9
  have eu : ∀ x, upd v1 10 x 11 = nI (tkA c n p) := fun x => by rw [pk_un (by decide), h11]
  have e92 : ∀ x, upd v1 10 x 9 = nI n := fun x => by rw [pk_un (by decide), e9]
  by_cases hlt : tkA c n p < n
  · obtain ⟨-, hc2⟩ := hc _ hlt
    have hE : tkE c n p = if pL (c (tkA c n p)) = true then rn pL c (n - tkA c n p) (tkA c n p) else if pD (c (tkA c n p)) = true then rn pD c (n - tkA c n p) (tkA c n p) else tkA c n p + 1 := by rw [tkE, if_neg (by omega)]
    have hT : tkT c n p = if pL (c (tkA c n p)) = true then (if tkE c n p - tkA c n p ≤ 9 then 1 else 4) else if pD (c (tkA c n p)) = true then (if tkE c n p - tkA c n p ≤ 4 then 2 else 4) else if c (tkA c n p) = 59 then 3 else 4 := by rw [tkT, if_neg (by omega)]
    have hV2 : VT v (upd v1 10 (nI (tkA c n p))) := hV.u (by decide)
    have hEle := tkE_le (c := c) hp
    have hsub : nI (tkE c n p) - nI (tkA c n p) = nI (tkE c n p - tkA c n p) := nI_subI (by omega)
    have hfin : ∀ (T : Nat) (v2 : Nat → Int32) (L2 : Int64) (M : Wd) (a1 : Option Value), T = tkT c n p → MZ a M0 (upd v2 12 (nI T)) L2 X M → VT v v2 → v2 10 = nI (tkA c n p) → v2 11 = nI (tkE c n p) → (T = 2 → v2 13 = nI (tkV c n p)) → (T = 1 → L2 = nL (lw c (tkA c n p) (tkE c n p - tkA c n p))) → Ev G mX6_go 312 [some (.ref (a 0)), a1] [] M 0 0 (fun u M' => u = none ∧ ∃ (v' : Nat → Int32) (L' : Int64), MZ a M0 v' L' X M' ∧ VT v v' ∧ TK c n p v' L') := by
      intro T v2 L2 M a1 hT hZ hV g1 g2 g3 g4
      subst hT
      refine Ev.vret dX6_go_312 rfl ?_
      exact ⟨rfl, _, _, hZ, hV.u (by decide), by rw [pk_un (by decide), g1], by rw [pk_un (by decide), g2], pk_us, fun z => by rw [pk_un (by decide)]; exact g3 z, g4⟩
    have J80 : ∀ (M : Wd) (a1 : Option Value), pL (c (tkA c n p)) = true → MZ a M0 (upd v1 10 (nI (tkA c n p))) 0 X M → Ev G mX6_go 80 [some (.ref (a 0)), a1] [] M 0 0 (fun u M' => u = none ∧ ∃ (v' : Nat → Int32) (L' : Int64), MZ a M0 v' L' X M' ∧ VT v v' ∧ TK c n p v' L') := by
      intro M a1 hb hZ
      rw [if_pos hb] at hE hT
      refine m_goL (v := upd v1 10 (nI (tkA c n p))) (A := tkA c n p) (E := tkE c n p) hn (e92 _) hc (fun v2 L2 M hZ hV3 g10 g11 gL => ?_) (n - tkA c n p) 0 _ 0 M (by omega) hE.symm hZ VT.rf pk_us (eu _) rfl
      refine Ev.ald0 dX6_go_154 ?_
      refine Ev.ald0 dX6_go_155 ?_
      refine Ev.mgv (kx := 11) dX6_go_156 fX6_101 hZ rfl ?_
      rw [g11]
      refine Ev.ald0 dX6_go_159 ?_
      refine Ev.mgv (kx := 10) dX6_go_160 fX6_108 hZ rfl ?_
      rw [g10]
      refine Ev.isub dX6_go_163 ?_
      rw [hsub]
      refine Ev.bipush (v := 9) dX6_go_164 (by decide) ?_
      refine Ev.icmp_gt (tgt := 173) dX6_go_166 (by decide) (fun c166 => ?_) (fun c166 => ?_)
      · refine Ev.iconst (v := 4) dX6_go_173 (by decide) ?_
        refine Ev.mput (kx := 12) dX6_go_174 fX6_111 hZ rfl rfl (fun M hZ => ?_)
        refine Ev.goto (tgt := 312) dX6_go_177 (by decide) ?_
        have : 9 < tkE c n p - tkA c n p := (nI_ltI (a := 9) (by omega) (by omega)).mp c166
        exact hfin 4 v2 L2 _ _ (by rw [hT, if_neg (by omega)]) hZ (hV2.tr hV3) g10 g11 (by omega) (by omega)
      · refine Ev.iconst (v := 1) dX6_go_169 (by decide) ?_
        refine Ev.goto (tgt := 174) dX6_go_170 (by decide) ?_
        refine Ev.mput (kx := 12) dX6_go_174 fX6_111 hZ rfl rfl (fun M hZ => ?_)
        refine Ev.goto (tgt := 312) dX6_go_177 (by decide) ?_
        have : tkE c n p - tkA c n p ≤ 9 := Nat.not_lt.mp (fun z => c166 (nI_lt (a := 9) z (by omega)))
        exact hfin 1 v2 L2 _ _ (by rw [hT, if_pos this]) hZ (hV2.tr hV3) g10 g11 (by omega) (fun _ => by rw [gL, Nat.min_eq_left this])
    have J192 : ∀ (M : Wd) (a1 : Option Value), ¬ pL (c (tkA c n p)) = true → pD (c (tkA c n p)) = true → MZ a M0 (upd (upd v1 10 (nI (tkA c n p))) 13 0) L X M → Ev G mX6_go 192 [some (.ref (a 0)), a1] [] M 0 0 (fun u M' => u = none ∧ ∃ (v' : Nat → Int32) (L' : Int64), MZ a M0 v' L' X M' ∧ VT v v' ∧ TK c n p v' L') := by
      intro M a1 ha hb hZ
      rw [if_neg ha, if_pos hb] at hE hT
      refine m_goD (v := upd (upd v1 10 (nI (tkA c n p))) 13 0) (A := tkA c n p) (E := tkE c n p) hn (by rw [pk_un (by decide)]; exact e92 _) hc (fun v2 M hZ hV3 g10 g11 gL => ?_) (n - tkA c n p) 0 _ M (by omega) hE.symm hZ VT.rf (by rw [pk_un (by decide), pk_us]) (by rw [pk_un (by decide)]; exact eu _) pk_us
      refine Ev.ald0 dX6_go_262 ?_
      refine Ev.ald0 dX6_go_263 ?_
      refine Ev.mgv (kx := 11) dX6_go_264 fX6_101 hZ rfl ?_
      rw [g11]
      refine Ev.ald0 dX6_go_267 ?_
      refine Ev.mgv (kx := 10) dX6_go_268 fX6_108 hZ rfl ?_
      rw [g10]
      refine Ev.isub dX6_go_271 ?_
      rw [hsub]
      refine Ev.iconst (v := 4) dX6_go_272 (by decide) ?_
      refine Ev.icmp_gt (tgt := 280) dX6_go_273 (by decide) (fun c273 => ?_) (fun c273 => ?_)
      · refine Ev.iconst (v := 4) dX6_go_280 (by decide) ?_
        refine Ev.mput (kx := 12) dX6_go_281 fX6_111 hZ rfl rfl (fun M hZ => ?_)
        refine Ev.goto (tgt := 312) dX6_go_284 (by decide) ?_
        have : 4 < tkE c n p - tkA c n p := (nI_ltI (a := 4) (by omega) (by omega)).mp c273
        exact hfin 4 v2 L _ _ (by rw [hT, if_neg (by omega)]) hZ ((hV2.u (by decide)).tr hV3) g10 g11 (by omega) (by omega)
      · refine Ev.iconst (v := 2) dX6_go_276 (by decide) ?_
        refine Ev.goto (tgt := 281) dX6_go_277 (by decide) ?_
        refine Ev.mput (kx := 12) dX6_go_281 fX6_111 hZ rfl rfl (fun M hZ => ?_)
        refine Ev.goto (tgt := 312) dX6_go_284 (by decide) ?_
        have : tkE c n p - tkA c n p ≤ 4 := Nat.not_lt.mp (fun z => c273 (nI_lt (a := 4) z (by omega)))
        exact hfin 2 v2 L _ _ (by rw [hT, if_pos this]) hZ ((hV2.u (by decide)).tr hV3) g10 g11 (fun _ => by rw [gL, Nat.min_eq_left this, tkV]) (by omega)
    have J287 : ∀ (M : Wd), ¬ pL (c (tkA c n p)) = true → ¬ pD (c (tkA c n p)) = true → MZ a M0 (upd v1 10 (nI (tkA c n p))) L X M → Ev G mX6_go 287 [some (.ref (a 0)), some (.int (nI (c (tkA c n p))))] [] M 0 0 (fun u M' => u = none ∧ ∃ (v' : Nat → Int32) (L' : Int64), MZ a M0 v' L' X M' ∧ VT v v' ∧ TK c n p v' L') := by
      intro M ha hb hZ
      rw [if_neg ha, if_neg hb] at hE hT
      have fin2 : ∀ (T : Nat) (M : Wd), T = tkT c n p → T ≠ 1 → T ≠ 2 → MZ a M0 (upd (upd (upd v1 10 (nI (tkA c n p))) 12 (nI T)) 11 (nI (tkA c n p + 1))) L X M → ∃ (v' : Nat → Int32) (L' : Int64), MZ a M0 v' L' X M ∧ VT v v' ∧ TK c n p v' L' := by
        intro T M hT2 h1 h2 hZ
        refine ⟨_, _, hZ, ((hV2.u (by decide)).u (by decide)), by rw [pk_un (by decide), pk_un (by decide), pk_us], by rw [pk_us, hE], by rw [pk_un (by decide), pk_us, hT2], fun z => ?_, fun z => ?_⟩
        · omega
        · omega
      have e11 : ∀ x, upd (upd v1 10 (nI (tkA c n p))) 12 x 11 = nI (tkA c n p) := fun x => by rw [pk_un (by decide)]; exact eu _
      have h59 : nI (c (tkA c n p)) = 59 ↔ c (tkA c n p) = 59 := nI_eq (b := 59) (by omega) (by omega)
      refine Ev.ald0 dX6_go_287 ?_
      refine Ev.ild1 dX6_go_288 ?_
      refine Ev.bipush (v := 59) dX6_go_289 (by decide) ?_
      refine Ev.icmp_ne (tgt := 298) dX6_go_291 (by decide) (fun c291 => ?_) (fun c291 => ?_)
      · refine Ev.iconst (v := 4) dX6_go_298 (by decide) ?_
        refine Ev.mput (kx := 12) dX6_go_299 fX6_111 hZ rfl rfl (fun M hZ => ?_)
        refine Ev.ald0 dX6_go_302 ?_
        refine Ev.dup dX6_go_303 rfl ?_
        refine Ev.mgv (kx := 11) dX6_go_304 fX6_101 hZ rfl ?_
        rw [e11]
        refine Ev.iconst (v := 1) dX6_go_307 (by decide) ?_
        refine Ev.iadd dX6_go_308 ?_
        rw [nI_1]
        refine Ev.mput (kx := 11) dX6_go_309 fX6_101 hZ rfl rfl (fun M hZ => ?_)
        refine Ev.vret dX6_go_312 rfl ?_
        exact ⟨rfl, fin2 4 _ (by rw [hT, if_neg (fun z => c291 (h59.mpr z))]) (by decide) (by decide) hZ⟩
      · refine Ev.iconst (v := 3) dX6_go_294 (by decide) ?_
        refine Ev.goto (tgt := 299) dX6_go_295 (by decide) ?_
        refine Ev.mput (kx := 12) dX6_go_299 fX6_111 hZ rfl rfl (fun M hZ => ?_)
        refine Ev.ald0 dX6_go_302 ?_
        refine Ev.dup dX6_go_303 rfl ?_
        refine Ev.mgv (kx := 11) dX6_go_304 fX6_101 hZ rfl ?_
        rw [e11]
        refine Ev.iconst (v := 1) dX6_go_307 (by decide) ?_
        refine Ev.iadd dX6_go_308 ?_
        rw [nI_1]
        refine Ev.mput (kx := 11) dX6_go_309 fX6_101 hZ rfl rfl (fun M hZ => ?_)
        refine Ev.vret dX6_go_312 rfl ?_
        exact ⟨rfl, fin2 3 _ (by rw [hT, if_pos (h59.mp c291)]) (by decide) (by decide) hZ⟩
    refine Ev.ald0 dX6_go_39 ?_
    refine Ev.ald0 dX6_go_40 ?_
    refine Ev.mgv (kx := 11) dX6_go_41 fX6_101 hZ rfl ?_
    rw [h11]
    refine Ev.mput (kx := 10) dX6_go_44 fX6_108 hZ rfl rfl (fun M hZ => ?_)
    refine Ev.ald0 dX6_go_47 ?_
    refine Ev.ald0 dX6_go_48 ?_
    refine Ev.mgv (kx := 11) dX6_go_49 fX6_101 hZ rfl ?_
    rw [eu]
    refine Ev.cvI (Yc := mX6_byteAt) (ci := 6) dX6_go_52 lX6_104 vX6_byteAt rfl (m_byteAt (tkA c n p) rfl (by omega) hn (e92 _) hc hZ) ⟨_, hZ.2.1.1⟩ rfl rfl rfl rfl ?_
    rintro y52 M9 ⟨hy52, rfl⟩
    rw [if_pos hlt] at hy52
    subst hy52
    refine Ev.ist1 dX6_go_55 rfl rfl ?_
    refine Ev.ild1 dX6_go_56 ?_
    refine Ev.if_ge (tgt := 68) dX6_go_57 (by decide) (fun c57 => ?_) (fun c57 => by first | exact absurd (nI_pos' (by omega)) c57 | exact absurd c57 (nI_pos' (by omega)))
    refine Ev.ild1 dX6_go_68 ?_
    refine Ev.csI (Yc := mX6_isLetter) dX6_go_69 lX6_114 vX6_isLetter rfl m_isLetter rfl rfl rfl ?_
    rintro y69 M9 ⟨hy69, rfl⟩
    refine Ev.if_eq (tgt := 180) dX6_go_72 (by decide) (fun c72 => ?_) (fun c72 => ?_)
    · refine Ev.ild1 dX6_go_180 ?_
      refine Ev.csI (Yc := mX6_isDigit) dX6_go_181 lX6_126 vX6_isDigit rfl m_isDigit rfl rfl rfl ?_
      rintro y181 M9 ⟨hy181, rfl⟩
      refine Ev.if_eq (tgt := 287) dX6_go_184 (by decide) (fun c184 => ?_) (fun c184 => ?_)
      · exact J287 _ (fun z => v01_f hy69 c72 ((pL_iff hc2).mp z)) (fun z => v01_f hy181 c184 ((pD_iff hc2).mp z)) hZ
      · refine Ev.ald0 dX6_go_187 ?_
        refine Ev.iconst (v := 0) dX6_go_188 (by decide) ?_
        refine Ev.mput (kx := 13) dX6_go_189 fX6_129 hZ rfl rfl (fun M hZ => ?_)
        exact J192 _ _ (fun z => v01_f hy69 c72 ((pL_iff hc2).mp z)) ((pD_iff hc2).mpr (v01_t hy181 c184)) hZ
    · refine Ev.ald0 dX6_go_75 ?_
      refine Ev.lconst (v := 0) dX6_go_76 (by decide) ?_
      refine Ev.mputl dX6_go_77 fX6_118 hZ (fun M hZ => ?_)
      exact J80 _ _ ((pL_iff hc2).mpr (v01_t hy69 c72)) hZ
  · have hAn : tkA c n p = n := by omega
    have hE : tkE c n p = tkA c n p := by rw [tkE, if_pos (by omega)]
    have hT : tkT c n p = 0 := by rw [tkT, if_pos (by omega)]
    refine Ev.ald0 dX6_go_39 ?_
    refine Ev.ald0 dX6_go_40 ?_
    refine Ev.mgv (kx := 11) dX6_go_41 fX6_101 hZ rfl ?_
    rw [h11]
    refine Ev.mput (kx := 10) dX6_go_44 fX6_108 hZ rfl rfl (fun M hZ => ?_)
    refine Ev.ald0 dX6_go_47 ?_
    refine Ev.ald0 dX6_go_48 ?_
    refine Ev.mgv (kx := 11) dX6_go_49 fX6_101 hZ rfl ?_
    rw [eu]
    refine Ev.cvI (Yc := mX6_byteAt) (ci := 6) dX6_go_52 lX6_104 vX6_byteAt rfl (m_byteAt (tkA c n p) rfl (by omega) hn (e92 _) hc hZ) ⟨_, hZ.2.1.1⟩ rfl rfl rfl rfl ?_
    rintro y52 M9 ⟨hy52, rfl⟩
    rw [if_neg hlt] at hy52
    subst hy52
    refine Ev.ist1 dX6_go_55 rfl rfl ?_
    refine Ev.ild1 dX6_go_56 ?_
    refine Ev.if_ge (tgt := 68) dX6_go_57 (by decide) (fun c57 => by first | exact absurd c57 (by decide) | exact absurd (by decide) c57) (fun c57 => ?_)
    refine Ev.ald0 dX6_go_60 ?_
    refine Ev.iconst (v := 0) dX6_go_61 (by decide) ?_
    refine Ev.mput (kx := 12) dX6_go_62 fX6_111 hZ rfl rfl (fun M hZ => ?_)
    refine Ev.goto (tgt := 312) dX6_go_65 (by decide) ?_
    refine Ev.vret dX6_go_312 rfl ?_
    refine ⟨rfl, _, _, hZ, (hV.u (by decide)).u (by decide), by rw [pk_un (by decide), pk_us], by rw [pk_un (by decide), eu, hE], by rw [pk_us, hT]; rfl, fun z => ?_, fun z => ?_⟩
    · omega
    · omega
end TKB
