/-! a book as rows: orders, how many, phase, reference, low, high -/
def bn (b : Nat → Int32) : Nat := (b 328).toNatClampNeg
def blo (b : Nat → Int32) : Nat := (b 331).toNatClampNeg
def bhi (b : Nat → Int32) : Nat := (b 332).toNatClampNeg
/-- a book in order, of N orders at most -/
def BW (N : Nat) (b : Nat → Int32) : Prop := b 328 = nI (bn b) ∧ bn b ≤ N ∧ OW b (bn b) ∧ b 331 = nI (blo b) ∧ b 332 = nI (bhi b) ∧ 1 ≤ blo b ∧ blo b ≤ bhi b ∧ bhi b ≤ 999 ∧ (∃ r, 1 ≤ r ∧ r ≤ 999 ∧ b 330 = nI r)
theorem BW.mono {N N' : Nat} {b : Nat → Int32} (h : BW N b) (hN : N ≤ N') : BW N' b := ⟨h.1, Nat.le_trans h.2.1 hN, h.2.2⟩
/-- rows that say what a book says -/
def Ag (f b : Nat → Int32) : Prop := Ar (bn b) f b ∧ f 328 = b 328 ∧ f 329 = b 329 ∧ f 330 = b 330 ∧ f 331 = b 331 ∧ f 332 = b 332
theorem Ag.rf {b : Nat → Int32} : Ag b b := ⟨fun _ _ => rfl, rfl, rfl, rfl, rfl, rfl⟩
noncomputable def xC (b : Nat → Int32) (wo : Int32) : (Nat → Int32) × (Nat → Int32) × Nat := crs b (qt b) (bn b) (blo b) (bhi b) (bn b + 1) (ct0 b wo) (fun _ => 0) 0
noncomputable def xP (b : Nat → Int32) (wo : Int32) : Int32 × Int32 × Int32 := rP b (xC b wo).1 (qt b) (bn b) (blo b) (bhi b)
noncomputable def xV (b : Nat → Int32) (wo : Int32) : Int32 := rV b (xC b wo).1 (qt b) (bn b) (blo b) (bhi b)
noncomputable def xR (b : Nat → Int32) (wo : Int32) : Int32 := rR b (xC b wo).1 (qt b) (bn b) (blo b) (bhi b)
noncomputable def xF (b : Nat → Int32) (wo : Int32) : Nat → Int32 := rF b (xC b wo).1 (qt b) (bn b) (blo b) (bhi b)
/-- what the reference's ints and rows say behind a cross -/
def CX (b : Nat → Int32) (wo : Int32) (v : Nat → Int32) (X : Nat → Nat → Int32) : Prop :=
  (∀ k, k < bn b → X 22 k = (xC b wo).1 k) ∧ (∀ k, k < bn b → X 23 k = qt b k) ∧ (∀ k, k < bn b → X 35 k = (xC b wo).2.1 k) ∧ (∀ k, k < bn b → X 34 k = xF b wo k) ∧ v 28 = (xP b wo).1 ∧ v 29 = (xP b wo).2.1 ∧ v 30 = (xP b wo).2.2 ∧ v 36 = nI (xC b wo).2.2 ∧ v 37 = xV b wo ∧ v 38 = xR b wo
theorem xP_pr {b : Nat → Int32} {wo : Int32} : (xP b wo).1 = -1 ∨ ∃ p, blo b ≤ p ∧ p ≤ bhi b ∧ (xP b wo).1 = nI p := rP_pr
section MLA
variable {G : GP} {a : Nat → Nat} {M0 M : Wd} {v : Nat → Int32} {L : Int64} {X : Nat → Nat → Int32} {b : Nat → Int32} {wo : Int32}
theorem m_cross (hZ : MZ a M0 v L X M) (hA : Ag (X 1) b) (hB : BW 41 b) (hwo : wo = -1 ∨ ∃ w, w < bn b ∧ wo = nI w) : CtV G mX6_crosses [.ref (a 0), .int wo] M 0 0 (fun M' => ∃ (v' : Nat → Int32) (X' : Nat → Nat → Int32), MZ a M0 v' L X' M' ∧ KP v v' X X' ∧ CX b wo v' X') := by
  obtain ⟨h1, h2, h3, h4, h5, h6, h7, h8, h9⟩ := hB
  obtain ⟨g0, g1, g2, g3, g4, g5⟩ := hA
  refine Ct.mono (m_crosses (n := bn b) (lo := blo b) (hi := bhi b) hZ.1 hZ.2.1 (M0 := M) Fr.rf rfl (g1.trans h1) h2 (h3.cm g0.sy) (g4.trans h4) (g5.trans h5) (by omega) h8 h6 hwo) ?_
  rintro u M' ⟨rfl, v', X', q1, q2, q3, q4⟩
  exact ⟨rfl, v', X', hZ.to q1 q2, q3, q4.cm g0 g3⟩
end MLA
/-- trades: what is still to trade, buys, sells -/
noncomputable def trd : Nat → Int32 → List (Nat × Int32) → List (Nat × Int32) → List (Nat × Nat × Int32)
  | 0, _, _, _ => []
  | _ + 1, _, [], _ => []
  | _ + 1, _, _ :: _, [] => []
  | e + 1, t, q :: B, r :: S => if t ≤ 0 then [] else (q.1, r.1, mn t (mn q.2 r.2)) :: trd e (t - mn t (mn q.2 r.2)) (if q.2 - mn t (mn q.2 r.2) = 0 then B else (q.1, q.2 - mn t (mn q.2 r.2)) :: B) (if r.2 - mn t (mn q.2 r.2) = 0 then S else (r.1, r.2 - mn t (mn q.2 r.2)) :: S)
noncomputable def slp (b ct : Nat → Int32) (sd p : Int32) : List (Nat × Int32) := (slc b ct (qt b) sd p (bn b)).map (fun q => (q.1, ptf b (qt b) q.1 (nI q.2)))
noncomputable def xT (b : Nat → Int32) : List (Nat × Nat × Int32) := if (xP b (-1)).1 < 0 then [] else trd ((slp b (xC b (-1)).1 0 (xP b (-1)).1).length + (slp b (xC b (-1)).1 1 (xP b (-1)).1).length) (xV b (-1)) (slp b (xC b (-1)).1 0 (xP b (-1)).1) (slp b (xC b (-1)).1 1 (xP b (-1)).1)
/-- a list in two rows, from i on -/
def SG (f g : Nat → Int32) (i : Nat) (B : List (Nat × Int32)) : Prop := ∀ (r : Nat) (q : Nat × Int32), B[r]? = some q → f (i + r) = nI q.1 ∧ g (i + r) = q.2
def PB (B : List (Nat × Int32)) : Prop := ∀ q ∈ B, q.1 < 41 ∧ ∃ x, 1 ≤ x ∧ x ≤ 9999 ∧ q.2 = nI x
def bS (B : List (Nat × Int32)) : Nat := (B.map (fun q => q.2.toNatClampNeg)).sum
/-- trades as the reference writes them -/
def TR (m : Nat → Int32) (T : List (Nat × Nat × Int32)) : Prop := m 708 = nI T.length ∧ ∀ (k : Nat) (q : Nat × Nat × Int32), T[k]? = some q → m (709 + 3 * k) = nI q.1 ∧ m (709 + 3 * k + 1) = nI q.2.1 ∧ m (709 + 3 * k + 2) = q.2.2
theorem SG.tl {f g : Nat → Int32} {i : Nat} {q : Nat × Int32} {B : List (Nat × Int32)} (h : SG f g i (q :: B)) : SG f g (i + 1) B := fun r p hp => by
  have := h (r + 1) p (by simpa using hp)
  rw [show i + (r + 1) = i + 1 + r by omega] at this
  exact this
theorem SG.hd {f g : Nat → Int32} {i : Nat} {q : Nat × Int32} {B : List (Nat × Int32)} (h : SG f g i (q :: B)) : f i = nI q.1 ∧ g i = q.2 := h 0 q rfl
theorem SG.up {f g : Nat → Int32} {i j : Nat} {x : Int32} {B : List (Nat × Int32)} (h : SG f g i B) (hj : j < i) : SG f (upd g j x) i B := fun r p hp => by
  rw [pk_un (by omega)]
  exact h r p hp
theorem SG.ct {f g : Nat → Int32} {i : Nat} {q : Nat × Int32} {x : Int32} {B : List (Nat × Int32)} (h : SG f g i (q :: B)) : SG f (upd g i x) i ((q.1, x) :: B) := fun r p hp => by
  cases r with
  | zero =>
    simp at hp
    subst hp
    exact ⟨h.hd.1, pk_us⟩
  | succ r =>
    have := h (r + 1) p (by simpa using hp)
    rw [pk_un (by omega)]
    exact this
theorem bS_c {q : Nat × Int32} {B : List (Nat × Int32)} : bS (q :: B) = q.2.toNatClampNeg + bS B := by simp [bS]
theorem TR.st {m : Nat → Int32} {T : List (Nat × Nat × Int32)} {q : Nat × Nat × Int32} (h : TR m T) : TR (upd (upd (upd (upd m (709 + 3 * T.length) (nI q.1)) (709 + 3 * T.length + 1) (nI q.2.1)) (709 + 3 * T.length + 2) q.2.2) 708 (nI (T.length + 1))) (T ++ [q]) := by
  refine ⟨by rw [pk_us, List.length_append, List.length_singleton], fun k r hk => ?_⟩
  have U : ∀ j, j ≠ 708 → j ≠ 709 + 3 * T.length + 2 → j ≠ 709 + 3 * T.length + 1 → j ≠ 709 + 3 * T.length → upd (upd (upd (upd m (709 + 3 * T.length) (nI q.1)) (709 + 3 * T.length + 1) (nI q.2.1)) (709 + 3 * T.length + 2) q.2.2) 708 (nI (T.length + 1)) j = m j := fun j h1 h2 h3 h4 => by rw [pk_un h1, pk_un h2, pk_un h3, pk_un h4]
  by_cases e : k < T.length
  · rw [List.getElem?_append_left e] at hk
    rw [U _ (by omega) (by omega) (by omega) (by omega), U _ (by omega) (by omega) (by omega) (by omega), U _ (by omega) (by omega) (by omega) (by omega)]
    exact h.2 k r hk
  · have : k = T.length := by
      have := (List.getElem?_eq_some_iff.mp hk).1
      rw [List.length_append, List.length_singleton] at this
      omega
    subst this
    simp at hk
    subst hk
    refine ⟨?_, ?_, ?_⟩
    · rw [pk_un (k := 708) (by omega), pk_un (k := 709 + 3 * T.length + 2) (by omega), pk_un (k := 709 + 3 * T.length + 1) (by omega), pk_us]
    · rw [pk_un (k := 708) (by omega), pk_un (k := 709 + 3 * T.length + 2) (by omega), pk_us]
    · rw [pk_un (k := 708) (by omega), pk_us]
section MLB
variable {G : GP} {a : Nat → Nat} {M0 M : Wd} {v : Nat → Int32} {L : Int64} {X : Nat → Nat → Int32} {b : Nat → Int32}
set_option maxRecDepth 20000 in
theorem m_tr {Q : Option Value → Wd → Prop} {nb0 : Int32} :
    ∀ (e tn : Nat) (B S : List (Nat × Int32)) (T0 : List (Nat × Nat × Int32)) (i j : Nat) (X1 : Nat → Nat → Int32) (M : Wd) (a5 a6 : Option Value), tn ≤ bS B → tn ≤ bS S → (tn = 0 ∨ (B.length + S.length ≤ e ∧ T0.length + B.length + S.length ≤ 160)) → i + B.length ≤ 82 → j + S.length ≤ 82 → PB B → PB S → tn < 1000000 → MZ a M0 v L X1 M → (∀ j, j ≠ 1 → j ≠ 32 → j ≠ 40 → X1 j = X j) → (∀ j, j < 708 → X1 1 j = X 1 j) → SG (X1 39) (X1 40) i B → SG (X1 31) (X1 32) j S → TR (X1 1) T0 →
      (∀ (X' : Nat → Nat → Int32) (M' : Wd), MZ a M0 v L X' M' → TR (X' 1) (T0 ++ trd e (nI tn) B S) → (∀ j, j ≠ 1 → j ≠ 32 → j ≠ 40 → X' j = X j) → (∀ j, j < 708 → X' 1 j = X 1 j) → Q none M') →
      Ev G mX6_laysTrades 87 [some (.ref (a 0)), some (.int nb0), some (.int (nI tn)), some (.int (nI i)), some (.int (nI j)), a5, a6] [] M 0 0 Q := by
  intro e
  induction e with
  | zero =>
    intro tn B S T0 i j X1 M a5 a6 hB hS he hi hj pB pS ht hZ hX hm sB sS hTR kk2
    have ht0 : tn = 0 := by
      rcases he with h | h
      · exact h
      · have : B = [] := List.length_eq_zero_iff.mp (by omega)
        subst this
        simp [bS] at hB
        exact hB
    subst ht0
    refine Ev.ild2 dX6_laysTrades_87 ?_
    refine Ev.if_le (tgt := 249) dX6_laysTrades_88 (by decide) (fun c88 => ?_) (fun c88 => by first | exact absurd (Int32.le_refl _) c88 | exact absurd c88 (Int32.le_refl _))
    refine Ev.vret dX6_laysTrades_249 rfl ?_
    exact kk2 _ _ hZ (by rw [trd, List.append_nil]; exact hTR) hX hm
  | succ e ih =>
    intro tn B S T0 i j X1 M a5 a6 hB hS he hi hj pB pS ht hZ hX hm sB sS hTR kk2
    by_cases ht0 : tn = 0
    · subst ht0
      have et : trd (e + 1) (nI 0) B S = [] := by
        cases B with
        | nil => rw [trd]
        | cons q B =>
          cases S with
          | nil => rw [trd]
          | cons r S => rw [trd, if_pos (show nI 0 ≤ 0 from Int32.le_refl _)]
      refine Ev.ild2 dX6_laysTrades_87 ?_
      refine Ev.if_le (tgt := 249) dX6_laysTrades_88 (by decide) (fun c88 => ?_) (fun c88 => by first | exact absurd (Int32.le_refl _) c88 | exact absurd c88 (Int32.le_refl _))
      refine Ev.vret dX6_laysTrades_249 rfl ?_
      exact kk2 _ _ hZ (by rw [et, List.append_nil]; exact hTR) hX hm
    · cases B with
      | nil => simp [bS] at hB; omega
      | cons q B =>
        cases S with
        | nil => simp [bS] at hS; omega
        | cons r S =>
          obtain ⟨q41, x, x1, x2, x3⟩ := pB q List.mem_cons_self
          obtain ⟨r41, y, y1, y2, y3⟩ := pS r List.mem_cons_self
          have en : mn (nI tn) (mn q.2 r.2) = nI (min tn (min x y)) := by rw [x3, y3, mn_n (by omega) (by omega), mn_n (by omega) (by omega)]
          have hn0 : 1 ≤ min tn (min x y) := by omega
          have hnx : min tn (min x y) ≤ x := by omega
          have hny : min tn (min x y) ≤ y := by omega
          have hnt : min tn (min x y) ≤ tn := by omega
          have hor : min tn (min x y) = tn ∨ min tn (min x y) = x ∨ min tn (min x y) = y := by omega
          have htrd : trd (e + 1) (nI tn) (q :: B) (r :: S) = (q.1, r.1, nI (min tn (min x y))) :: trd e (nI (tn - min tn (min x y))) (if nI (x - min tn (min x y)) = 0 then B else (q.1, nI (x - min tn (min x y))) :: B) (if nI (y - min tn (min x y)) = 0 then S else (r.1, nI (y - min tn (min x y))) :: S) := by
            rw [trd, if_neg (nI_nle (by omega) (by omega)), en, x3, y3, nI_subI hnt, nI_subI hnx, nI_subI hny]
          generalize min tn (min x y) = nn at en hn0 hnx hny hnt hor htrd
          have g1 := sB.hd
          have g2 := sS.hd
          rw [bS_c, x3, nI_clamp (by omega)] at hB
          rw [bS_c, y3, nI_clamp (by omega)] at hS
          simp only [List.length_cons] at he hi hj
          have he2 : B.length + 1 + (S.length + 1) ≤ e + 1 ∧ T0.length + (B.length + 1) + (S.length + 1) ≤ 160 := by
            rcases he with h | h
            · exact absurd h ht0
            · exact h
          have cx : ∀ u : Nat, u ≤ 9999 → nI (u - nn) = 0 → nn ≤ u → u = nn := by
            intro u h1 h2 h3
            have := (nI_eq (a := u - nn) (b := 0) (by omega) (by omega)).mp (h2.trans nI_0.symm)
            omega
          -- behind all stores
          have key : ∀ (B' S' : List (Nat × Int32)) (i' j' : Nat) (X2 : Nat → Nat → Int32) (M2 : Wd), MZ a M0 v L X2 M2 → (∀ j, j ≠ 1 → j ≠ 32 → j ≠ 40 → X2 j = X1 j) → (∀ j, j < 708 → X2 1 j = X1 1 j) → TR (X2 1) (T0 ++ [(q.1, r.1, nI nn)]) → SG (X2 39) (X2 40) i' B' → SG (X2 31) (X2 32) j' S' → i' + B'.length ≤ 82 → j' + S'.length ≤ 82 → PB B' → PB S' → bS B' + nn = x + bS B → bS S' + nn = y + bS S → (tn = nn ∨ B'.length + S'.length ≤ B.length + S.length + 1) → trd (e + 1) (nI tn) (q :: B) (r :: S) = (q.1, r.1, nI nn) :: trd e (nI (tn - nn)) B' S' →
              Ev G mX6_laysTrades 87 [some (.ref (a 0)), some (.int nb0), some (.int (nI (tn - nn))), some (.int (nI i')), some (.int (nI j')), some (.int (nI nn)), some (.int (709 + 3 * nI T0.length))] [] M2 0 0 Q := by
            intro B' S' i' j' X2 M2 hZ2 hX2 hm2 hT2 sB2 sS2 hi2 hj2 pB2 pS2 bB bS2 lBS htr2
            refine ih (tn - nn) B' S' (T0 ++ [(q.1, r.1, nI nn)]) i' j' X2 M2 _ _ (by omega) (by omega) ?_ hi2 hj2 pB2 pS2 (by omega) hZ2 (fun j q1 q2 q3 => (hX2 j q1 q2 q3).trans (hX j q1 q2 q3)) (fun j q1 => (hm2 j q1).trans (hm j q1)) sB2 sS2 hT2 (fun X' M' z1 z2 z3 z4 => kk2 X' M' z1 ?_ z3 z4)
            · rw [List.length_append, List.length_singleton]
              rcases lBS with h | h
              · exact Or.inl (by omega)
              · exact Or.inr (by omega)
            · rw [htr2, List.append_cons]
              exact z2
          have hTS := TR.st (q := (q.1, r.1, nI nn)) hTR
          have hmS : ∀ j, j < 708 → upd (upd (upd (upd (X1 1) (709 + 3 * T0.length) (nI q.1)) (709 + 3 * T0.length + 1) (nI r.1)) (709 + 3 * T0.length + 2) (nI nn)) 708 (nI (T0.length + 1)) j = X1 1 j := by
            intro j hj9
            rw [pk_un (by omega), pk_un (by omega), pk_un (by omega), pk_un (by omega)]
          have hxs : q.2 - nI nn = nI (x - nn) := by rw [x3, nI_subI hnx]
          have hys : r.2 - nI nn = nI (y - nn) := by rw [y3, nI_subI hny]
          have sBa : SG (X1 39) (upd (X1 40) i (nI (x - nn))) i ((q.1, nI (x - nn)) :: B) := sB.ct
          have sBb : SG (X1 39) (upd (X1 40) i (nI (x - nn))) (i + 1) B := sB.tl.up (by omega)
          have sSa : SG (X1 31) (upd (X1 32) j (nI (y - nn))) j ((r.1, nI (y - nn)) :: S) := sS.ct
          have sSb : SG (X1 31) (upd (X1 32) j (nI (y - nn))) (j + 1) S := sS.tl.up (by omega)
          have pBb : PB B := fun z hz => pB z (List.mem_cons_of_mem _ hz)
          have pSb : PB S := fun z hz => pS z (List.mem_cons_of_mem _ hz)
          have nz : ∀ u : Nat, u ≤ 9999 → ¬ nI (u - nn) = 0 → 1 ≤ u - nn := by
            intro u h1 h2
            by_cases h3 : u - nn = 0
            · exact absurd (by rw [h3]; exact nI_0) h2
            · omega
          have pBa : ¬ nI (x - nn) = 0 → PB ((q.1, nI (x - nn)) :: B) := by
            intro h z hz
            rcases List.mem_cons.mp hz with e | e
            · subst e
              exact ⟨q41, x - nn, nz x x2 h, by omega, rfl⟩
            · exact pBb z e
          have pSa : ¬ nI (y - nn) = 0 → PB ((r.1, nI (y - nn)) :: S) := by
            intro h z hz
            rcases List.mem_cons.mp hz with e | e
            · subst e
              exact ⟨r41, y - nn, nz y y2 h, by omega, rfl⟩
            · exact pSb z e
          have bB1 : bS ((q.1, nI (x - nn)) :: B) + nn = x + bS B := by rw [bS_c, nI_clamp (by omega)]; omega
          have bS1 : bS ((r.1, nI (y - nn)) :: S) + nn = y + bS S := by rw [bS_c, nI_clamp (by omega)]; omega
          have li : ∀ k : Nat, nI k + 0 = nI k := fun k => Int32.add_zero _
          refine Ev.ild2 dX6_laysTrades_87 ?_
          refine Ev.if_le (tgt := 249) dX6_laysTrades_88 (by decide) (fun c88 => by first | exact absurd c88 (nI_nle (by omega) (by omega)) | exact absurd (nI_nle (by omega) (by omega)) c88) (fun c88 => ?_)
          refine Ev.ild2 dX6_laysTrades_91 ?_
          refine Ev.ald0 dX6_laysTrades_92 ?_
          refine Ev.mgr (kx := 40) dX6_laysTrades_93 fX6_64 hZ rfl ?_
          refine Ev.ild3 dX6_laysTrades_96 ?_
          refine Ev.mld (j := i) mq40 dX6_laysTrades_97 hZ (by first | assumption | (simp only [nI, Int32.ofNat_add, Int32.ofNat_mul]; done) | (simp only [nI, Int32.ofNat_add, Int32.ofNat_mul]; rfl) | rfl) (by omega) ?_
          (try simp only [ux_s, ux_n, ne_eq, Nat.reduceEqDiff, Nat.succ_ne_self, not_false_eq_true])
          rw [g1.2]
          refine Ev.ald0 dX6_laysTrades_98 ?_
          refine Ev.mgr (kx := 32) dX6_laysTrades_99 fX6_52 hZ rfl ?_
          refine Ev.ild4 dX6_laysTrades_102 ?_
          refine Ev.mld (j := j) mq32 dX6_laysTrades_104 hZ (by first | assumption | (simp only [nI, Int32.ofNat_add, Int32.ofNat_mul]; done) | (simp only [nI, Int32.ofNat_add, Int32.ofNat_mul]; rfl) | rfl) (by omega) ?_
          (try simp only [ux_s, ux_n, ne_eq, Nat.reduceEqDiff, Nat.succ_ne_self, not_false_eq_true])
          rw [g2.2]
          refine Ev.csI (Yc := mX6_lesser) dX6_laysTrades_105 lX6_211 vX6_lesser rfl m_lesser rfl rfl rfl ?_
          rintro y105 M9 ⟨hy105, rfl⟩
          subst hy105
          refine Ev.csI (Yc := mX6_lesser) dX6_laysTrades_108 lX6_211 vX6_lesser rfl m_lesser rfl rfl rfl ?_
          rintro y108 M9 ⟨hy108, rfl⟩
          subst hy108
          rw [en]
          refine Ev.ist5 dX6_laysTrades_111 rfl rfl ?_
          refine Ev.sipush (v := 709) dX6_laysTrades_113 (by decide) ?_
          refine Ev.iconst (v := 3) dX6_laysTrades_116 (by decide) ?_
          refine Ev.ald0 dX6_laysTrades_117 ?_
          refine Ev.mgr (kx := 1) dX6_laysTrades_118 fX6_13 hZ rfl ?_
          refine Ev.sipush (v := 708) dX6_laysTrades_121 (by decide) ?_
          refine Ev.mld (j := 708) mq1 dX6_laysTrades_124 hZ (by first | assumption | (simp only [nI, Int32.ofNat_add, Int32.ofNat_mul]; done) | (simp only [nI, Int32.ofNat_add, Int32.ofNat_mul]; rfl) | rfl) (by omega) ?_
          (try simp only [ux_s, ux_n, ne_eq, Nat.reduceEqDiff, Nat.succ_ne_self, not_false_eq_true])
          rw [hTR.1]
          refine Ev.imul dX6_laysTrades_125 ?_
          refine Ev.iadd dX6_laysTrades_126 ?_
          refine Ev.ist6 dX6_laysTrades_127 rfl rfl ?_
          refine Ev.ald0 dX6_laysTrades_129 ?_
          refine Ev.mgr (kx := 1) dX6_laysTrades_130 fX6_13 hZ rfl ?_
          refine Ev.ild6 dX6_laysTrades_133 ?_
          refine Ev.ald0 dX6_laysTrades_135 ?_
          refine Ev.mgr (kx := 39) dX6_laysTrades_136 fX6_61 hZ rfl ?_
          refine Ev.ild3 dX6_laysTrades_139 ?_
          refine Ev.mld (j := i) mq39 dX6_laysTrades_140 hZ (by first | assumption | (simp only [nI, Int32.ofNat_add, Int32.ofNat_mul]; done) | (simp only [nI, Int32.ofNat_add, Int32.ofNat_mul]; rfl) | rfl) (by omega) ?_
          (try simp only [ux_s, ux_n, ne_eq, Nat.reduceEqDiff, Nat.succ_ne_self, not_false_eq_true])
          rw [g1.1]
          refine Ev.mst (j := (709 + (3 * T0.length))) mq1 dX6_laysTrades_141 hZ (by first | assumption | (simp only [nI, Int32.ofNat_add, Int32.ofNat_mul]; done) | (simp only [nI, Int32.ofNat_add, Int32.ofNat_mul]; rfl) | rfl) (by omega) (fun M hZ => ?_)
          (try simp only [ux_u, ux_s, ux_n, ne_eq, Nat.reduceEqDiff, Nat.succ_ne_self, not_false_eq_true] at hZ)
          refine Ev.ald0 dX6_laysTrades_142 ?_
          refine Ev.mgr (kx := 1) dX6_laysTrades_143 fX6_13 hZ rfl ?_
          refine Ev.ild6 dX6_laysTrades_146 ?_
          refine Ev.iconst (v := 1) dX6_laysTrades_148 (by decide) ?_
          refine Ev.iadd dX6_laysTrades_149 ?_
          refine Ev.ald0 dX6_laysTrades_150 ?_
          refine Ev.mgr (kx := 31) dX6_laysTrades_151 fX6_49 hZ rfl ?_
          refine Ev.ild4 dX6_laysTrades_154 ?_
          refine Ev.mld (j := j) mq31 dX6_laysTrades_156 hZ (by first | assumption | (simp only [nI, Int32.ofNat_add, Int32.ofNat_mul]; done) | (simp only [nI, Int32.ofNat_add, Int32.ofNat_mul]; rfl) | rfl) (by omega) ?_
          (try simp only [ux_s, ux_n, ne_eq, Nat.reduceEqDiff, Nat.succ_ne_self, not_false_eq_true])
          rw [g2.1]
          refine Ev.mst (j := ((709 + (3 * T0.length)) + 1)) mq1 dX6_laysTrades_157 hZ (by first | assumption | (simp only [nI, Int32.ofNat_add, Int32.ofNat_mul]; done) | (simp only [nI, Int32.ofNat_add, Int32.ofNat_mul]; rfl) | rfl) (by omega) (fun M hZ => ?_)
          (try simp only [ux_u, ux_s, ux_n, ne_eq, Nat.reduceEqDiff, Nat.succ_ne_self, not_false_eq_true] at hZ)
          refine Ev.ald0 dX6_laysTrades_158 ?_
          refine Ev.mgr (kx := 1) dX6_laysTrades_159 fX6_13 hZ rfl ?_
          refine Ev.ild6 dX6_laysTrades_162 ?_
          refine Ev.iconst (v := 2) dX6_laysTrades_164 (by decide) ?_
          refine Ev.iadd dX6_laysTrades_165 ?_
          refine Ev.ild5 dX6_laysTrades_166 ?_
          refine Ev.mst (j := ((709 + (3 * T0.length)) + 2)) mq1 dX6_laysTrades_168 hZ (by first | assumption | (simp only [nI, Int32.ofNat_add, Int32.ofNat_mul]; done) | (simp only [nI, Int32.ofNat_add, Int32.ofNat_mul]; rfl) | rfl) (by omega) (fun M hZ => ?_)
          (try simp only [ux_u, ux_s, ux_n, ne_eq, Nat.reduceEqDiff, Nat.succ_ne_self, not_false_eq_true] at hZ)
          refine Ev.ald0 dX6_laysTrades_169 ?_
          refine Ev.mgr (kx := 1) dX6_laysTrades_170 fX6_13 hZ rfl ?_
          refine Ev.sipush (v := 708) dX6_laysTrades_173 (by decide) ?_
          refine Ev.dup2 dX6_laysTrades_176 rfl rfl ?_
          refine Ev.mld (j := 708) mq1 dX6_laysTrades_177 hZ (by first | assumption | (simp only [nI, Int32.ofNat_add, Int32.ofNat_mul]; done) | (simp only [nI, Int32.ofNat_add, Int32.ofNat_mul]; rfl) | rfl) (by omega) ?_
          (try simp only [ux_s, ux_n, ne_eq, Nat.reduceEqDiff, Nat.succ_ne_self, not_false_eq_true])
          rw [pk_un (by omega), pk_un (by omega), pk_un (by omega), hTR.1]
          refine Ev.iconst (v := 1) dX6_laysTrades_178 (by decide) ?_
          refine Ev.iadd dX6_laysTrades_179 ?_
          rw [nI_1]
          refine Ev.mst (j := 708) mq1 dX6_laysTrades_180 hZ (by first | assumption | (simp only [nI, Int32.ofNat_add, Int32.ofNat_mul]; done) | (simp only [nI, Int32.ofNat_add, Int32.ofNat_mul]; rfl) | rfl) (by omega) (fun M hZ => ?_)
          (try simp only [ux_u, ux_s, ux_n, ne_eq, Nat.reduceEqDiff, Nat.succ_ne_self, not_false_eq_true] at hZ)
          refine Ev.ild2 dX6_laysTrades_181 ?_
          refine Ev.ild5 dX6_laysTrades_182 ?_
          refine Ev.isub dX6_laysTrades_184 ?_
          rw [nI_subI hnt]
          refine Ev.ist2 dX6_laysTrades_185 rfl rfl ?_
          refine Ev.ald0 dX6_laysTrades_186 ?_
          refine Ev.mgr (kx := 40) dX6_laysTrades_187 fX6_64 hZ rfl ?_
          refine Ev.ild3 dX6_laysTrades_190 ?_
          refine Ev.dup2 dX6_laysTrades_191 rfl rfl ?_
          refine Ev.mld (j := i) mq40 dX6_laysTrades_192 hZ (by first | assumption | (simp only [nI, Int32.ofNat_add, Int32.ofNat_mul]; done) | (simp only [nI, Int32.ofNat_add, Int32.ofNat_mul]; rfl) | rfl) (by omega) ?_
          (try simp only [ux_s, ux_n, ne_eq, Nat.reduceEqDiff, Nat.succ_ne_self, not_false_eq_true])
          rw [g1.2]
          refine Ev.ild5 dX6_laysTrades_193 ?_
          refine Ev.isub dX6_laysTrades_195 ?_
          rw [hxs]
          refine Ev.mst (j := i) mq40 dX6_laysTrades_196 hZ (by first | assumption | (simp only [nI, Int32.ofNat_add, Int32.ofNat_mul]; done) | (simp only [nI, Int32.ofNat_add, Int32.ofNat_mul]; rfl) | rfl) (by omega) (fun M hZ => ?_)
          (try simp only [ux_u, ux_s, ux_n, ne_eq, Nat.reduceEqDiff, Nat.succ_ne_self, not_false_eq_true] at hZ)
          refine Ev.ald0 dX6_laysTrades_197 ?_
          refine Ev.mgr (kx := 32) dX6_laysTrades_198 fX6_52 hZ rfl ?_
          refine Ev.ild4 dX6_laysTrades_201 ?_
          refine Ev.dup2 dX6_laysTrades_203 rfl rfl ?_
          refine Ev.mld (j := j) mq32 dX6_laysTrades_204 hZ (by first | assumption | (simp only [nI, Int32.ofNat_add, Int32.ofNat_mul]; done) | (simp only [nI, Int32.ofNat_add, Int32.ofNat_mul]; rfl) | rfl) (by omega) ?_
          (try simp only [ux_s, ux_n, ne_eq, Nat.reduceEqDiff, Nat.succ_ne_self, not_false_eq_true])
          rw [g2.2]
          refine Ev.ild5 dX6_laysTrades_205 ?_
          refine Ev.isub dX6_laysTrades_207 ?_
          rw [hys]
          refine Ev.mst (j := j) mq32 dX6_laysTrades_208 hZ (by first | assumption | (simp only [nI, Int32.ofNat_add, Int32.ofNat_mul]; done) | (simp only [nI, Int32.ofNat_add, Int32.ofNat_mul]; rfl) | rfl) (by omega) (fun M hZ => ?_)
          (try simp only [ux_u, ux_s, ux_n, ne_eq, Nat.reduceEqDiff, Nat.succ_ne_self, not_false_eq_true] at hZ)
          refine Ev.ild3 dX6_laysTrades_209 ?_
          refine Ev.ald0 dX6_laysTrades_210 ?_
          refine Ev.mgr (kx := 40) dX6_laysTrades_211 fX6_64 hZ rfl ?_
          refine Ev.ild3 dX6_laysTrades_214 ?_
          refine Ev.mld (j := i) mq40 dX6_laysTrades_215 hZ (by first | assumption | (simp only [nI, Int32.ofNat_add, Int32.ofNat_mul]; done) | (simp only [nI, Int32.ofNat_add, Int32.ofNat_mul]; rfl) | rfl) (by omega) ?_
          (try simp only [ux_s, ux_n, ne_eq, Nat.reduceEqDiff, Nat.succ_ne_self, not_false_eq_true])
          rw [pk_us]
          refine Ev.if_ne (tgt := 223) dX6_laysTrades_216 (by decide) (fun c216 => ?_) (fun c216 => ?_)
          · refine Ev.iconst (v := 0) dX6_laysTrades_223 (by decide) ?_
            refine Ev.iadd dX6_laysTrades_224 ?_
            refine Ev.ist3 dX6_laysTrades_225 rfl rfl ?_
            refine Ev.ild4 dX6_laysTrades_226 ?_
            refine Ev.ald0 dX6_laysTrades_228 ?_
            refine Ev.mgr (kx := 32) dX6_laysTrades_229 fX6_52 hZ rfl ?_
            refine Ev.ild4 dX6_laysTrades_232 ?_
            refine Ev.mld (j := j) mq32 dX6_laysTrades_234 hZ (by first | assumption | (simp only [nI, Int32.ofNat_add, Int32.ofNat_mul]; done) | (simp only [nI, Int32.ofNat_add, Int32.ofNat_mul]; rfl) | rfl) (by omega) ?_
            (try simp only [ux_s, ux_n, ne_eq, Nat.reduceEqDiff, Nat.succ_ne_self, not_false_eq_true])
            rw [pk_us]
            refine Ev.if_ne (tgt := 242) dX6_laysTrades_235 (by decide) (fun c235 => ?_) (fun c235 => ?_)
            · refine Ev.iconst (v := 0) dX6_laysTrades_242 (by decide) ?_
              refine Ev.iadd dX6_laysTrades_243 ?_
              refine Ev.ist4 dX6_laysTrades_244 rfl rfl ?_
              refine Ev.goto (tgt := 87) dX6_laysTrades_246 (by decide) ?_
              rw [li, li]
              refine key ((q.1, nI (x - nn)) :: B) ((r.1, nI (y - nn)) :: S) i j _ M hZ (fun j q1 q2 q3 => by rw [ux_n q2, ux_n q3, ux_n q1]) hmS hTS sBa sSa (by (try simp only [List.length_cons]); omega) (by (try simp only [List.length_cons]); omega) (pBa c216) (pSa c235) bB1 bS1 (by have := nz x x2 c216; have := nz y y2 c235; omega) (by rw [htrd, if_neg c216, if_neg c235])
            · refine Ev.iconst (v := 1) dX6_laysTrades_238 (by decide) ?_
              refine Ev.goto (tgt := 243) dX6_laysTrades_239 (by decide) ?_
              refine Ev.iadd dX6_laysTrades_243 ?_
              refine Ev.ist4 dX6_laysTrades_244 rfl rfl ?_
              refine Ev.goto (tgt := 87) dX6_laysTrades_246 (by decide) ?_
              rw [li, nI_1]
              refine key ((q.1, nI (x - nn)) :: B) S i (j + 1) _ M hZ (fun j q1 q2 q3 => by rw [ux_n q2, ux_n q3, ux_n q1]) hmS hTS sBa sSb (by (try simp only [List.length_cons]); omega) (by (try simp only [List.length_cons]); omega) (pBa c216) pSb bB1 (by have := cx y y2 c235 hny; omega) (Or.inr (by simp only [List.length_cons]; omega)) (by rw [htrd, if_neg c216, if_pos c235])
          · refine Ev.iconst (v := 1) dX6_laysTrades_219 (by decide) ?_
            refine Ev.goto (tgt := 224) dX6_laysTrades_220 (by decide) ?_
            refine Ev.iadd dX6_laysTrades_224 ?_
            refine Ev.ist3 dX6_laysTrades_225 rfl rfl ?_
            refine Ev.ild4 dX6_laysTrades_226 ?_
            refine Ev.ald0 dX6_laysTrades_228 ?_
            refine Ev.mgr (kx := 32) dX6_laysTrades_229 fX6_52 hZ rfl ?_
            refine Ev.ild4 dX6_laysTrades_232 ?_
            refine Ev.mld (j := j) mq32 dX6_laysTrades_234 hZ (by first | assumption | (simp only [nI, Int32.ofNat_add, Int32.ofNat_mul]; done) | (simp only [nI, Int32.ofNat_add, Int32.ofNat_mul]; rfl) | rfl) (by omega) ?_
            (try simp only [ux_s, ux_n, ne_eq, Nat.reduceEqDiff, Nat.succ_ne_self, not_false_eq_true])
            rw [pk_us]
            refine Ev.if_ne (tgt := 242) dX6_laysTrades_235 (by decide) (fun c235 => ?_) (fun c235 => ?_)
            · refine Ev.iconst (v := 0) dX6_laysTrades_242 (by decide) ?_
              refine Ev.iadd dX6_laysTrades_243 ?_
              refine Ev.ist4 dX6_laysTrades_244 rfl rfl ?_
              refine Ev.goto (tgt := 87) dX6_laysTrades_246 (by decide) ?_
              rw [nI_1, li]
              refine key B ((r.1, nI (y - nn)) :: S) (i + 1) j _ M hZ (fun j q1 q2 q3 => by rw [ux_n q2, ux_n q3, ux_n q1]) hmS hTS sBb sSa (by (try simp only [List.length_cons]); omega) (by (try simp only [List.length_cons]); omega) pBb (pSa c235) (by have := cx x x2 c216 hnx; omega) bS1 (Or.inr (by simp only [List.length_cons]; omega)) (by rw [htrd, if_pos c216, if_neg c235])
            · refine Ev.iconst (v := 1) dX6_laysTrades_238 (by decide) ?_
              refine Ev.goto (tgt := 243) dX6_laysTrades_239 (by decide) ?_
              refine Ev.iadd dX6_laysTrades_243 ?_
              refine Ev.ist4 dX6_laysTrades_244 rfl rfl ?_
              refine Ev.goto (tgt := 87) dX6_laysTrades_246 (by decide) ?_
              rw [nI_1, nI_1]
              refine key B S (i + 1) (j + 1) _ M hZ (fun j q1 q2 q3 => by rw [ux_n q2, ux_n q3, ux_n q1]) hmS hTS sBb sSb (by (try simp only [List.length_cons]); omega) (by (try simp only [List.length_cons]); omega) pBb pSb (by have := cx x x2 c216 hnx; omega) (by have := cx y y2 c235 hny; omega) (Or.inr (by omega)) (by rw [htrd, if_pos c216, if_pos c235])
end MLB
