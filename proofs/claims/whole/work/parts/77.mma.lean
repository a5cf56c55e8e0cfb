/-! the state as both have it: the book that stands (and what it was ahead of its crossing), those that can be taken back (the oldest first), the tape, its length, what was crossed, how often -/
abbrev Bw : Type := (Nat → Int32) × (Nat → Int32)
abbrev Sg : Type := Bw × List Bw × (Nat → Int32) × Nat × (Nat → Int32) × Nat
def Bok (q : Bw) : Prop := BW 40 q.1 ∧ (q.1 329 = 0 ∨ q.1 329 = 1 ∨ q.1 329 = 2) ∧ (q.1 329 = 2 → BW 40 q.2 ∧ q.2 328 = q.1 328 ∧ q.2 330 = q.1 330 ∧ q.2 331 = q.1 331 ∧ q.2 332 = q.1 332)
def Sok (S : Sg) : Prop := Bok S.1 ∧ (∀ q ∈ S.2.1, Bok q) ∧ S.2.1.length ≤ 12 ∧ S.2.2.2.1 ≤ 800
def MR (v : Nat → Int32) (X : Nat → Nat → Int32) (S : Sg) : Prop := RB (X 1) S.1.1 S.1.2 ∧ (v 3 = nI S.2.1.length ∧ ∀ (i : Nat) (q : Bw), S.2.1[i]? = some q → RB (fun j => X 2 (1189 * i + j)) q.1 q.2) ∧ (v 8 = nI S.2.2.2.1 ∧ ∀ j, j < S.2.2.2.1 → X 7 j = S.2.2.1 j) ∧ (v 6 = nI S.2.2.2.2.2 ∧ v 5 = nI (min 8 S.2.2.2.2.2) ∧ ∀ j, j < 4 * min 8 S.2.2.2.2.2 → X 4 j = S.2.2.2.2.1 j)
/-- what else but the book that stands is as it was -/
def QT (v v' : Nat → Int32) (X X' : Nat → Nat → Int32) : Prop := v' 3 = v 3 ∧ v' 5 = v 5 ∧ v' 6 = v 6 ∧ v' 8 = v 8 ∧ X' 2 = X 2 ∧ X' 4 = X 4 ∧ X' 7 = X 7
theorem QT.rf {v : Nat → Int32} {X : Nat → Nat → Int32} : QT v v X X := ⟨rfl, rfl, rfl, rfl, rfl, rfl, rfl⟩
theorem QT.tr {v v1 v2 : Nat → Int32} {X X1 X2 : Nat → Nat → Int32} (h : QT v v1 X X1) (h2 : QT v1 v2 X1 X2) : QT v v2 X X2 := ⟨h2.1.trans h.1, h2.2.1.trans h.2.1, h2.2.2.1.trans h.2.2.1, h2.2.2.2.1.trans h.2.2.2.1, h2.2.2.2.2.1.trans h.2.2.2.2.1, h2.2.2.2.2.2.1.trans h.2.2.2.2.2.1, h2.2.2.2.2.2.2.trans h.2.2.2.2.2.2⟩
theorem KP.q {v v' : Nat → Int32} {X X' : Nat → Nat → Int32} (h : KP v v' X X') : QT v v' X X' := ⟨h.2 3 (by decide), h.2 5 (by decide), h.2 6 (by decide), h.2 8 (by decide), h.1 2 (by decide), h.1 4 (by decide), h.1 7 (by decide)⟩
theorem QT.m {v v' : Nat → Int32} {X X' : Nat → Nat → Int32} {f : Nat → Int32} (h : QT v v' X X') : QT v v' X (ux X' 1 f) := ⟨h.1, h.2.1, h.2.2.1, h.2.2.2.1, (ux_n (by decide)).trans h.2.2.2.2.1, (ux_n (by decide)).trans h.2.2.2.2.2.1, (ux_n (by decide)).trans h.2.2.2.2.2.2⟩
theorem QT.t {v v' : Nat → Int32} {X X' : Nat → Nat → Int32} {x : Int32} (h : QT v v' X X') : QT v (upd v' 0 x) X X' := ⟨(pk_un (by decide)).trans h.1, (pk_un (by decide)).trans h.2.1, (pk_un (by decide)).trans h.2.2.1, (pk_un (by decide)).trans h.2.2.2.1, h.2.2.2.2⟩
theorem MR.q {v v' : Nat → Int32} {X X' : Nat → Nat → Int32} {S : Sg} (h : MR v X S) (hq : QT v v' X X') (hR : RB (X' 1) S.1.1 S.1.2) : MR v' X' S := by
  obtain ⟨q1, q2, q3, q4, q5, q6, q7⟩ := hq
  obtain ⟨h1, ⟨h2, h3⟩, ⟨h4, h5⟩, h6, h7, h8⟩ := h
  refine ⟨hR, ⟨q1.trans h2, by rw [q5]; exact h3⟩, ⟨q4.trans h4, by rw [q7]; exact h5⟩, q3.trans h6, q2.trans h7, by rw [q6]; exact h8⟩
theorem trd_len : ∀ (e : Nat) (t : Int32) (B S : List (Nat × Int32)), (trd e t B S).length ≤ e
  | 0, t, B, S => by rw [trd]; exact Nat.le_refl _
  | e + 1, t, [], S => by rw [trd]; exact Nat.zero_le _
  | e + 1, t, q :: B, [] => by rw [trd]; exact Nat.zero_le _
  | e + 1, t, q :: B, r :: S => by
    rw [trd]
    split
    · exact Nat.zero_le _
    · rw [List.length_cons]
      have := trd_len e (t - mn t (mn q.2 r.2)) (if q.2 - mn t (mn q.2 r.2) = 0 then B else (q.1, q.2 - mn t (mn q.2 r.2)) :: B) (if r.2 - mn t (mn q.2 r.2) = 0 then S else (r.1, r.2 - mn t (mn q.2 r.2)) :: S)
      omega
theorem slp_len {b ct : Nat → Int32} {sd p : Int32} : (slp b ct sd p).length ≤ 2 * bn b := by
  rw [slp, List.length_map]
  by_cases he : ∃ l, SLs b ct (qt b) sd p (bn b) l
  · obtain ⟨l, hl⟩ := he
    rw [slc_eq hl]
    exact sl_len (fun q hq => ⟨(hl.1 q hq).1, (hl.1 q hq).2.1⟩) hl.2.2
  · rw [slc, dif_neg he]
    exact Nat.zero_le _
theorem xT_len {b : Nat → Int32} : (xT b).length ≤ 4 * bn b := by
  rw [xT]
  split
  · exact Nat.zero_le _
  · have := trd_len ((slp b (xC b (-1)).1 0 (xP b (-1)).1).length + (slp b (xC b (-1)).1 1 (xP b (-1)).1).length) (xV b (-1)) (slp b (xC b (-1)).1 0 (xP b (-1)).1) (slp b (xC b (-1)).1 1 (xP b (-1)).1)
    have := slp_len (b := b) (ct := (xC b (-1)).1) (sd := 0) (p := (xP b (-1)).1)
    have := slp_len (b := b) (ct := (xC b (-1)).1) (sd := 1) (p := (xP b (-1)).1)
    omega
theorem RB.cg {m m' b w : Nat → Int32} (hB : Bok (b, w)) (h : RB m b w) (he : ∀ j, j < 1189 → m' j = m j) : RB m' b w := by
  obtain ⟨⟨g0, g1, g2, g3, g4, g5⟩, hx⟩ := h
  have hn : bn b ≤ 40 := hB.1.2.1
  refine ⟨⟨fun j hj => (he j (by omega)).trans (g0 j hj), (he _ (by omega)).trans g1, (he _ (by omega)).trans g2, (he _ (by omega)).trans g3, (he _ (by omega)).trans g4, (he _ (by omega)).trans g5⟩, fun q => ?_⟩
  obtain ⟨x1, x2, x3, x4, x5, x6, x7, x8, x9, x10⟩ := hx q
  have hw : bn w ≤ 40 := (hB.2.2 q).1.2.1
  refine ⟨(he _ (by omega)).trans x1, (he _ (by omega)).trans x2, (he _ (by omega)).trans x3, (he _ (by omega)).trans x4, (he _ (by omega)).trans x5, (he _ (by omega)).trans x6, fun o ho => (he _ (by omega)).trans (x7 o ho), fun j hj => (he _ (by omega)).trans (x8 j hj), (he _ (by omega)).trans x9, fun k r hk => ?_⟩
  have hk2 := (List.getElem?_eq_some_iff.mp hk).1
  have := xT_len (b := w)
  have hk3 : k < 160 := by
    have : (xT w).length ≤ 160 := by omega
    omega
  obtain ⟨y1, y2, y3⟩ := x10 k r hk
  exact ⟨(he _ (by omega)).trans y1, (he _ (by omega)).trans y2, (he _ (by omega)).trans y3⟩
/-- what stood is put behind those that can be taken back -/
def kpt (S : Sg) : List Bw := (if S.2.1.length = 12 then S.2.1.tail else S.2.1) ++ [S.1]
def psh (S : Sg) (q : Bw) : Sg := (q, kpt S, S.2.2)
theorem kpt_len {S : Sg} (h : S.2.1.length ≤ 12) : (kpt S).length = (if S.2.1.length = 12 then 12 else S.2.1.length + 1) := by
  rw [kpt, List.length_append, List.length_singleton]
  by_cases e : S.2.1.length = 12
  · rw [if_pos e, if_pos e, List.length_tail, e]
  · rw [if_neg e, if_neg e]
theorem Sok.psh {S : Sg} {q : Bw} (h : Sok S) (hq : Bok q) : Sok (psh S q) := by
  refine ⟨hq, fun r hr => ?_, ?_, h.2.2.2⟩
  · rcases List.mem_append.mp hr with h1 | h1
    · split at h1
      · exact h.2.1 r (List.mem_of_mem_tail h1)
      · exact h.2.1 r h1
    · rw [List.mem_singleton.mp h1]
      exact h.1
  · show (kpt S).length ≤ 12
    rw [kpt_len h.2.2.1]
    have := h.2.2.1
    split <;> omega
theorem MR.kb {v : Nat → Int32} {X : Nat → Nat → Int32} {S : Sg} {B m0 : Nat → Int32} (hS : Sok S) (h : MR v X S) (h0 : RB m0 S.1.1 S.1.2)
    (h1 : ∀ j, j < 1189 → B (1189 * (if S.2.1.length = 12 then 11 else S.2.1.length) + j) = m0 j) (h2 : ∀ j, j < 1189 * (if S.2.1.length = 12 then 11 else S.2.1.length) → B j = X 2 (j + (if S.2.1.length = 12 then 1189 else 0))) :
    ∀ (i : Nat) (q : Bw), (kpt S)[i]? = some q → RB (fun j => B (1189 * i + j)) q.1 q.2 := by
  intro i q hi
  have hl := hS.2.2.1
  rw [kpt] at hi
  by_cases e : S.2.1.length = 12
  · rw [if_pos e] at hi h1 h2
    rw [if_pos e] at h2
    by_cases hi2 : i < 11
    · rw [List.getElem?_append_left (by rw [List.length_tail]; omega), List.getElem?_tail] at hi
      refine RB.cg (hS.2.1 q (List.mem_of_getElem? hi)) (h.2.1.2 (i + 1) q hi) (fun j hj => ?_)
      show B (1189 * i + j) = X 2 (1189 * (i + 1) + j)
      rw [h2 _ (by omega)]
      congr 1
      omega
    · have : i = 11 := by
        have := (List.getElem?_eq_some_iff.mp hi).1
        rw [List.length_append, List.length_singleton, List.length_tail] at this
        omega
      subst this
      rw [List.getElem?_append_right (by rw [List.length_tail]; omega), List.length_tail, e] at hi
      simp at hi
      subst hi
      exact RB.cg hS.1 h0 (fun j hj => h1 j hj)
  · rw [if_neg e] at hi h1 h2
    rw [if_neg e] at h2
    by_cases hi2 : i < S.2.1.length
    · rw [List.getElem?_append_left hi2] at hi
      refine RB.cg (hS.2.1 q (List.mem_of_getElem? hi)) (h.2.1.2 i q hi) (fun j hj => ?_)
      show B (1189 * i + j) = X 2 (1189 * i + j)
      rw [h2 _ (by omega)]
      rfl
    · have : i = S.2.1.length := by
        have := (List.getElem?_eq_some_iff.mp hi).1
        rw [List.length_append, List.length_singleton] at this
        omega
      subst this
      simp at hi
      subst hi
      exact RB.cg hS.1 h0 (fun j hj => h1 j hj)
section MMA
variable {G : GP} {a : Nat → Nat} {M0 M : Wd} {v : Nat → Int32} {L : Int64} {X : Nat → Nat → Int32} {S : Sg} {b w : Nat → Int32}
/-- keepsBack over a state: v1, X1 as they stand then -/
theorem m_keep {v1 : Nat → Int32} {X1 : Nat → Nat → Int32} (hS : Sok S) (hR : MR v X S) (hq : QT v v1 X X1) (h0 : RB (X1 1) S.1.1 S.1.2) (hZ : MZ a M0 v1 L X1 M) : CtV G mX6_keepsBack [.ref (a 0)] M 0 0 (fun M' => ∃ (v' : Nat → Int32) (X' : Nat → Nat → Int32), MZ a M0 v' L X' M' ∧ X' 1 = X1 1 ∧ (∀ j, j ≠ 2 → X' j = X1 j) ∧ (∀ j, j ≠ 3 → v' j = v1 j) ∧ ∀ (q : Bw) (v2 : Nat → Int32) (X2 : Nat → Nat → Int32), QT v' v2 X' X2 → RB (X2 1) q.1 q.2 → MR v2 X2 (psh S q)) := by
  have hl := hS.2.2.1
  refine Ct.mono (m_keepsBack (k := S.2.1.length) hl (hq.1.trans hR.2.1.1) hZ) ?_
  rintro u M' ⟨rfl, B, hZ2, b1, b2⟩
  refine ⟨rfl, _, _, hZ2, ux_n (by decide), fun j hj => ux_n hj, fun j hj => pk_un hj, fun q v2 X2 hq2 hr => ?_⟩
  have hk := hR.kb hS h0 b1 (fun j hj => by rw [b2 j hj, hq.2.2.2.2.1])
  obtain ⟨q1, q2, q3, q4, q5, q6, q7⟩ := hq
  obtain ⟨r1, r2, r3, r4, r5, r6, r7⟩ := hq2
  refine ⟨hr, ⟨?_, fun i p hi => ?_⟩, ⟨?_, fun j hj => ?_⟩, ?_, ?_, fun j hj => ?_⟩
  · rw [r1, pk_us]
    show _ = nI (kpt S).length
    rw [kpt_len hl]
  · rw [r5, ux_s]
    exact hk i p hi
  · rw [r4, pk_un (by decide), q4]
    exact hR.2.2.1.1
  · rw [r7, ux_n (by decide), q7]
    exact hR.2.2.1.2 j hj
  · rw [r3, pk_un (by decide), q3]
    exact hR.2.2.2.1
  · rw [r2, pk_un (by decide), q2]
    exact hR.2.2.2.2.1
  · rw [r6, ux_n (by decide), q6]
    exact hR.2.2.2.2.2 j hj
theorem m_wI {x y z : Int32} {yl zl : Int64} (hy : yl = y.toInt64) (hz : zl = z.toInt64) : CtI G mX6_within [.long x.toInt64, .long yl, .long zl] M 0 0 (fun r M' => r = (if y ≤ x ∧ x ≤ z then 1 else 0) ∧ M' = M) := by
  subst hy; subst hz
  exact m_withinI
abbrev isT (s k q p : Int32) : Prop := (0 ≤ s ∧ s ≤ 1) ∧ (0 ≤ k ∧ k ≤ 4) ∧ (1 ≤ q ∧ q ≤ 9999) ∧ (k = 0 ∨ (1 ≤ p ∧ p ≤ 999))
set_option maxRecDepth 20000 in
theorem m_isTold {s k q p : Int32} : CtI G mX6_isTold [.int s, .int k, .int q, .int p] M 0 0 (fun x M' => M' = M ∧ (isT s k q p ∧ x = 1 ∨ ¬ isT s k q p ∧ x = 0)) := by
  refine Ct.of (ls := [some (.int s), some (.int k), some (.int q), some (.int p)]) (by decide) (by decide) rfl rfl rfl ?_
  refine Ev.ild0 dX6_isTold_0 ?_
  refine Ev.i2l dX6_isTold_1 ?_
  refine Ev.lconst (v := 0) dX6_isTold_2 (by decide) ?_
  refine Ev.lconst (v := 1) dX6_isTold_3 (by decide) ?_
  refine Ev.csI (Yc := mX6_within) dX6_isTold_4 lX6_93 vX6_within rfl (m_wI (y := 0) (z := 1) (by decide) (by decide)) rfl rfl rfl ?_
  rintro y4 M9 ⟨hy4, rfl⟩
  refine Ev.if_eq (tgt := 54) dX6_isTold_7 (by decide) (fun c7 => ?_) (fun c7 => ?_)
  · refine Ev.iconst (v := 0) dX6_isTold_54 (by decide) ?_
    refine Ev.iret dX6_isTold_55 rfl rfl ?_
    exact ⟨_, rfl, rfl, Or.inr ⟨fun h => v01_f hy4 c7 h.1, rfl⟩⟩
  · refine Ev.ild1 dX6_isTold_10 ?_
    refine Ev.i2l dX6_isTold_11 ?_
    refine Ev.lconst (v := 0) dX6_isTold_12 (by decide) ?_
    refine Ev.ldc2 dX6_isTold_13 kX6_284 ?_
    refine Ev.csI (Yc := mX6_within) dX6_isTold_16 lX6_93 vX6_within rfl (m_wI (y := 0) (z := 4) (by decide) (by decide)) rfl rfl rfl ?_
    rintro y16 M9 ⟨hy16, rfl⟩
    refine Ev.if_eq (tgt := 54) dX6_isTold_19 (by decide) (fun c19 => ?_) (fun c19 => ?_)
    · refine Ev.iconst (v := 0) dX6_isTold_54 (by decide) ?_
      refine Ev.iret dX6_isTold_55 rfl rfl ?_
      exact ⟨_, rfl, rfl, Or.inr ⟨fun h => v01_f hy16 c19 h.2.1, rfl⟩⟩
    · refine Ev.ild2 dX6_isTold_22 ?_
      refine Ev.i2l dX6_isTold_23 ?_
      refine Ev.lconst (v := 1) dX6_isTold_24 (by decide) ?_
      refine Ev.ldc2 dX6_isTold_25 kX6_286 ?_
      refine Ev.csI (Yc := mX6_within) dX6_isTold_28 lX6_93 vX6_within rfl (m_wI (y := 1) (z := 9999) (by decide) (by decide)) rfl rfl rfl ?_
      rintro y28 M9 ⟨hy28, rfl⟩
      refine Ev.if_eq (tgt := 54) dX6_isTold_31 (by decide) (fun c31 => ?_) (fun c31 => ?_)
      · refine Ev.iconst (v := 0) dX6_isTold_54 (by decide) ?_
        refine Ev.iret dX6_isTold_55 rfl rfl ?_
        exact ⟨_, rfl, rfl, Or.inr ⟨fun h => v01_f hy28 c31 h.2.2.1, rfl⟩⟩
      · refine Ev.ild1 dX6_isTold_34 ?_
        refine Ev.if_eq (tgt := 50) dX6_isTold_35 (by decide) (fun c35 => ?_) (fun c35 => ?_)
        · refine Ev.iconst (v := 1) dX6_isTold_50 (by decide) ?_
          refine Ev.goto (tgt := 55) dX6_isTold_51 (by decide) ?_
          refine Ev.iret dX6_isTold_55 rfl rfl ?_
          exact ⟨_, rfl, rfl, Or.inl ⟨⟨v01_t hy4 c7, v01_t hy16 c19, v01_t hy28 c31, Or.inl c35⟩, rfl⟩⟩
        · refine Ev.ild3 dX6_isTold_38 ?_
          refine Ev.i2l dX6_isTold_39 ?_
          refine Ev.lconst (v := 1) dX6_isTold_40 (by decide) ?_
          refine Ev.ldc2 dX6_isTold_41 kX6_288 ?_
          refine Ev.csI (Yc := mX6_within) dX6_isTold_44 lX6_93 vX6_within rfl (m_wI (y := 1) (z := 999) (by decide) (by decide)) rfl rfl rfl ?_
          rintro y44 M9 ⟨hy44, rfl⟩
          refine Ev.if_eq (tgt := 54) dX6_isTold_47 (by decide) (fun c47 => ?_) (fun c47 => ?_)
          · refine Ev.iconst (v := 0) dX6_isTold_54 (by decide) ?_
            refine Ev.iret dX6_isTold_55 rfl rfl ?_
            exact ⟨_, rfl, rfl, Or.inr ⟨fun h => h.2.2.2.elim c35 (v01_f hy44 c47), rfl⟩⟩
          · refine Ev.iconst (v := 1) dX6_isTold_50 (by decide) ?_
            refine Ev.goto (tgt := 55) dX6_isTold_51 (by decide) ?_
            refine Ev.iret dX6_isTold_55 rfl rfl ?_
            exact ⟨_, rfl, rfl, Or.inl ⟨⟨v01_t hy4 c7, v01_t hy16 c19, v01_t hy28 c31, Or.inr (v01_t hy44 c47)⟩, rfl⟩⟩
set_option maxRecDepth 20000 in
theorem m_puts {s k q p sh le ow : Int32} {n : Nat} (hn : X 1 328 = nI n) (hn2 : n ≤ 40) (hZ : MZ a M0 v L X M) : CtV G mX6_puts_ [.ref (a 0), .int s, .int k, .int q, .int p, .int sh, .int le, .int ow] M 0 0 (fun M' => MZ a M0 v L (ux X 1 (upd (add8 (X 1) n s k q p sh le ow) 328 (nI (n + 1)))) M') := by
  have J2 : ∀ (y : Int32) (f : Nat → Int32) (M : Wd), f 328 = nI n → MZ a M0 v L (ux X 1 f) M → Ev G mX6_puts_ 81 [some (.ref (a 0)), some (.int s), some (.int k), some (.int q), some (.int p), some (.int sh), some (.int le), some (.int ow), some (.int (8 * nI n))] [.int y, .int (8 * nI n + 4), .ref (a 1)] M 0 0 (fun u M' => u = none ∧ MZ a M0 v L (ux X 1 (upd (upd (upd (upd (upd f (8 * n + 4) y) (8 * n + 5) le) (8 * n + 6) ow) (8 * n + 7) 0) 328 (nI (n + 1)))) M') := by
    intro y f M hf hZ
    refine Ev.mst (j := 8 * n + 4) mq1 dX6_puts__81 hZ (by first | assumption | (simp only [nI, Int32.ofNat_add, Int32.ofNat_mul]; done) | (simp only [nI, Int32.ofNat_add, Int32.ofNat_mul]; rfl) | rfl) (by omega) (fun M hZ => ?_)
    (try simp only [ux_u, ux_s, ux_n, ne_eq, Nat.reduceEqDiff, Nat.succ_ne_self, not_false_eq_true] at hZ)
    refine Ev.ald0 dX6_puts__82 ?_
    refine Ev.mgr (kx := 1) dX6_puts__83 fX6_13 hZ rfl ?_
    refine Ev.ild8 dX6_puts__86 ?_
    refine Ev.iconst (v := 5) dX6_puts__88 (by decide) ?_
    refine Ev.iadd dX6_puts__89 ?_
    refine Ev.ild6 dX6_puts__90 ?_
    refine Ev.mst (j := 8 * n + 5) mq1 dX6_puts__92 hZ (by first | assumption | (simp only [nI, Int32.ofNat_add, Int32.ofNat_mul]; done) | (simp only [nI, Int32.ofNat_add, Int32.ofNat_mul]; rfl) | rfl) (by omega) (fun M hZ => ?_)
    (try simp only [ux_u, ux_s, ux_n, ne_eq, Nat.reduceEqDiff, Nat.succ_ne_self, not_false_eq_true] at hZ)
    refine Ev.ald0 dX6_puts__93 ?_
    refine Ev.mgr (kx := 1) dX6_puts__94 fX6_13 hZ rfl ?_
    refine Ev.ild8 dX6_puts__97 ?_
    refine Ev.bipush (v := 6) dX6_puts__99 (by decide) ?_
    refine Ev.iadd dX6_puts__101 ?_
    refine Ev.ild7 dX6_puts__102 ?_
    refine Ev.mst (j := 8 * n + 6) mq1 dX6_puts__104 hZ (by first | assumption | (simp only [nI, Int32.ofNat_add, Int32.ofNat_mul]; done) | (simp only [nI, Int32.ofNat_add, Int32.ofNat_mul]; rfl) | rfl) (by omega) (fun M hZ => ?_)
    (try simp only [ux_u, ux_s, ux_n, ne_eq, Nat.reduceEqDiff, Nat.succ_ne_self, not_false_eq_true] at hZ)
    refine Ev.ald0 dX6_puts__105 ?_
    refine Ev.mgr (kx := 1) dX6_puts__106 fX6_13 hZ rfl ?_
    refine Ev.ild8 dX6_puts__109 ?_
    refine Ev.bipush (v := 7) dX6_puts__111 (by decide) ?_
    refine Ev.iadd dX6_puts__113 ?_
    refine Ev.iconst (v := 0) dX6_puts__114 (by decide) ?_
    refine Ev.mst (j := 8 * n + 7) mq1 dX6_puts__115 hZ (by first | assumption | (simp only [nI, Int32.ofNat_add, Int32.ofNat_mul]; done) | (simp only [nI, Int32.ofNat_add, Int32.ofNat_mul]; rfl) | rfl) (by omega) (fun M hZ => ?_)
    (try simp only [ux_u, ux_s, ux_n, ne_eq, Nat.reduceEqDiff, Nat.succ_ne_self, not_false_eq_true] at hZ)
    refine Ev.ald0 dX6_puts__116 ?_
    refine Ev.mgr (kx := 1) dX6_puts__117 fX6_13 hZ rfl ?_
    refine Ev.sipush (v := 328) dX6_puts__120 (by decide) ?_
    refine Ev.dup2 dX6_puts__123 rfl rfl ?_
    refine Ev.mld (j := 328) mq1 dX6_puts__124 hZ (by first | assumption | (simp only [nI, Int32.ofNat_add, Int32.ofNat_mul]; done) | (simp only [nI, Int32.ofNat_add, Int32.ofNat_mul]; rfl) | rfl) (by omega) ?_
    (try simp only [ux_s, ux_n, ne_eq, Nat.reduceEqDiff, Nat.succ_ne_self, not_false_eq_true])
    rw [pk_un (by omega), pk_un (by omega), pk_un (by omega), pk_un (by omega), hf]
    refine Ev.iconst (v := 1) dX6_puts__125 (by decide) ?_
    refine Ev.iadd dX6_puts__126 ?_
    refine Ev.mst (j := 328) mq1 dX6_puts__127 hZ (by first | assumption | (simp only [nI, Int32.ofNat_add, Int32.ofNat_mul]; done) | (simp only [nI, Int32.ofNat_add, Int32.ofNat_mul]; rfl) | rfl) (by omega) (fun M hZ => ?_)
    (try simp only [ux_u, ux_s, ux_n, ne_eq, Nat.reduceEqDiff, Nat.succ_ne_self, not_false_eq_true] at hZ)
    refine Ev.vret dX6_puts__128 rfl ?_
    rw [nI_1] at hZ
    exact ⟨rfl, hZ⟩
  have J1 : ∀ (y : Int32) (f : Nat → Int32) (M : Wd), f 328 = nI n → MZ a M0 v L (ux X 1 f) M → Ev G mX6_puts_ 61 [some (.ref (a 0)), some (.int s), some (.int k), some (.int q), some (.int p), some (.int sh), some (.int le), some (.int ow), some (.int (8 * nI n))] [.int y, .int (8 * nI n + 3), .ref (a 1)] M 0 0 (fun u M' => u = none ∧ MZ a M0 v L (ux X 1 (upd (upd (upd (upd (upd (upd f (8 * n + 3) y) (8 * n + 4) (if k = 3 then sh else 0)) (8 * n + 5) le) (8 * n + 6) ow) (8 * n + 7) 0) 328 (nI (n + 1)))) M') := by
    intro y f M hf hZ
    have hf2 : upd f (8 * n + 3) y 328 = nI n := by rw [pk_un (by omega), hf]
    refine Ev.mst (j := 8 * n + 3) mq1 dX6_puts__61 hZ (by first | assumption | (simp only [nI, Int32.ofNat_add, Int32.ofNat_mul]; done) | (simp only [nI, Int32.ofNat_add, Int32.ofNat_mul]; rfl) | rfl) (by omega) (fun M hZ => ?_)
    (try simp only [ux_u, ux_s, ux_n, ne_eq, Nat.reduceEqDiff, Nat.succ_ne_self, not_false_eq_true] at hZ)
    refine Ev.ald0 dX6_puts__62 ?_
    refine Ev.mgr (kx := 1) dX6_puts__63 fX6_13 hZ rfl ?_
    refine Ev.ild8 dX6_puts__66 ?_
    refine Ev.iconst (v := 4) dX6_puts__68 (by decide) ?_
    refine Ev.iadd dX6_puts__69 ?_
    refine Ev.ild2 dX6_puts__70 ?_
    refine Ev.iconst (v := 3) dX6_puts__71 (by decide) ?_
    refine Ev.icmp_ne (tgt := 80) dX6_puts__72 (by decide) (fun c72 => ?_) (fun c72 => ?_)
    · refine Ev.iconst (v := 0) dX6_puts__80 (by decide) ?_
      rw [if_neg c72]
      exact J2 _ _ M hf2 hZ
    · refine Ev.ild5 dX6_puts__75 ?_
      refine Ev.goto (tgt := 81) dX6_puts__77 (by decide) ?_
      rw [if_pos c72]
      exact J2 _ _ M hf2 hZ
  have hf3 : upd (upd (upd (X 1) (8 * n + 0) s) (8 * n + 1) k) (8 * n + 2) q 328 = nI n := by rw [pk_un (by omega), pk_un (by omega), pk_un (by omega), hn]
  refine Ct.of (ls := [some (.ref (a 0)), some (.int s), some (.int k), some (.int q), some (.int p), some (.int sh), some (.int le), some (.int ow), none]) (by decide) (by decide) rfl rfl rfl ?_
  refine Ev.bipush (v := 8) dX6_puts__0 (by decide) ?_
  refine Ev.ald0 dX6_puts__2 ?_
  refine Ev.mgr (kx := 1) dX6_puts__3 fX6_13 hZ rfl ?_
  refine Ev.sipush (v := 328) dX6_puts__6 (by decide) ?_
  refine Ev.mld (j := 328) mq1 dX6_puts__9 hZ (by first | assumption | (simp only [nI, Int32.ofNat_add, Int32.ofNat_mul]; done) | (simp only [nI, Int32.ofNat_add, Int32.ofNat_mul]; rfl) | rfl) (by omega) ?_
  (try simp only [ux_s, ux_n, ne_eq, Nat.reduceEqDiff, Nat.succ_ne_self, not_false_eq_true])
  rw [hn]
  refine Ev.imul dX6_puts__10 ?_
  refine Ev.ist8 dX6_puts__11 rfl rfl ?_
  refine Ev.ald0 dX6_puts__13 ?_
  refine Ev.mgr (kx := 1) dX6_puts__14 fX6_13 hZ rfl ?_
  refine Ev.ild8 dX6_puts__17 ?_
  refine Ev.iconst (v := 0) dX6_puts__19 (by decide) ?_
  refine Ev.iadd dX6_puts__20 ?_
  refine Ev.ild1 dX6_puts__21 ?_
  refine Ev.mst (j := 8 * n + 0) mq1 dX6_puts__22 hZ (by first | assumption | (simp only [nI, Int32.ofNat_add, Int32.ofNat_mul]; done) | (simp only [nI, Int32.ofNat_add, Int32.ofNat_mul]; rfl) | rfl) (by omega) (fun M hZ => ?_)
  (try simp only [ux_u, ux_s, ux_n, ne_eq, Nat.reduceEqDiff, Nat.succ_ne_self, not_false_eq_true] at hZ)
  refine Ev.ald0 dX6_puts__23 ?_
  refine Ev.mgr (kx := 1) dX6_puts__24 fX6_13 hZ rfl ?_
  refine Ev.ild8 dX6_puts__27 ?_
  refine Ev.iconst (v := 1) dX6_puts__29 (by decide) ?_
  refine Ev.iadd dX6_puts__30 ?_
  refine Ev.ild2 dX6_puts__31 ?_
  refine Ev.mst (j := 8 * n + 1) mq1 dX6_puts__32 hZ (by first | assumption | (simp only [nI, Int32.ofNat_add, Int32.ofNat_mul]; done) | (simp only [nI, Int32.ofNat_add, Int32.ofNat_mul]; rfl) | rfl) (by omega) (fun M hZ => ?_)
  (try simp only [ux_u, ux_s, ux_n, ne_eq, Nat.reduceEqDiff, Nat.succ_ne_self, not_false_eq_true] at hZ)
  refine Ev.ald0 dX6_puts__33 ?_
  refine Ev.mgr (kx := 1) dX6_puts__34 fX6_13 hZ rfl ?_
  refine Ev.ild8 dX6_puts__37 ?_
  refine Ev.iconst (v := 2) dX6_puts__39 (by decide) ?_
  refine Ev.iadd dX6_puts__40 ?_
  refine Ev.ild3 dX6_puts__41 ?_
  refine Ev.mst (j := 8 * n + 2) mq1 dX6_puts__42 hZ (by first | assumption | (simp only [nI, Int32.ofNat_add, Int32.ofNat_mul]; done) | (simp only [nI, Int32.ofNat_add, Int32.ofNat_mul]; rfl) | rfl) (by omega) (fun M hZ => ?_)
  (try simp only [ux_u, ux_s, ux_n, ne_eq, Nat.reduceEqDiff, Nat.succ_ne_self, not_false_eq_true] at hZ)
  refine Ev.ald0 dX6_puts__43 ?_
  refine Ev.mgr (kx := 1) dX6_puts__44 fX6_13 hZ rfl ?_
  refine Ev.ild8 dX6_puts__47 ?_
  refine Ev.iconst (v := 3) dX6_puts__49 (by decide) ?_
  refine Ev.iadd dX6_puts__50 ?_
  refine Ev.ild2 dX6_puts__51 ?_
  refine Ev.if_ne (tgt := 59) dX6_puts__52 (by decide) (fun c52 => ?_) (fun c52 => ?_)
  · refine Ev.ild4 dX6_puts__59 ?_
    refine Ev.post (J1 _ _ M hf3 hZ) ?_
    rintro u M' ⟨h1, h2⟩
    refine ⟨h1, ?_⟩
    rw [add8, if_neg c52]
    exact h2
  · refine Ev.iconst (v := 0) dX6_puts__55 (by decide) ?_
    refine Ev.goto (tgt := 61) dX6_puts__56 (by decide) ?_
    refine Ev.post (J1 _ _ M hf3 hZ) ?_
    rintro u M' ⟨h1, h2⟩
    refine ⟨h1, ?_⟩
    rw [add8, if_pos c52]
    exact h2
set_option maxRecDepth 20000 in
theorem m_restNow (hZ : MZ a M0 v L X M) (hA : Ag (X 1) b) (hB : BW 41 b) : CtI G mX6_restNow [.ref (a 0)] M 0 0 (fun x M' => x = ab (xR b (-1)) ∧ ∃ (v' : Nat → Int32) (X' : Nat → Nat → Int32), MZ a M0 v' L X' M' ∧ KP v v' X X') := by
  refine Ct.of (ls := [some (.ref (a 0))]) (by decide) (by decide) rfl rfl rfl ?_
  refine Ev.ald0 dX6_restNow_0 ?_
  refine Ev.iconst (v := -1) dX6_restNow_1 (by decide) ?_
  refine Ev.cvV (Yc := mX6_crosses) (ci := 6) dX6_restNow_2 lX6_278 vX6_crosses rfl (m_cross hZ hA hB (Or.inl rfl)) ⟨_, hZ.2.1.1⟩ rfl rfl rfl rfl ?_
  rintro M1 ⟨v1, X1, hZ, hK, hC⟩
  refine Ev.ald0 dX6_restNow_5 ?_
  refine Ev.mgv (kx := 38) dX6_restNow_6 fX6_269 hZ rfl ?_
  refine Ev.csI (Yc := mX6_size) dX6_restNow_9 lX6_236 vX6_size rfl m_size rfl rfl rfl ?_
  rintro y9 M9 ⟨hy9, rfl⟩
  subst hy9
  refine Ev.iret dX6_restNow_12 rfl rfl ?_
  exact ⟨_, rfl, by rw [hC.2.2.2.2.2.2.2.2.2], v1, X1, hZ, hK⟩
set_option maxRecDepth 20000 in
theorem m_canChange {o : Int32} (hZ : MZ a M0 v L X M) (hA : Ag (X 1) b) (hB : BW 40 b) : CtI G mX6_canChange [.ref (a 0), .int o] M 0 0 (fun x M' => M' = M ∧ ((∃ k, k < bn b ∧ o = nI k ∧ b (8 * k + 7) ≠ 1 ∧ b 329 ≠ 2 ∧ x = 1) ∨ ((∀ k, k < bn b → o = nI k → b (8 * k + 7) = 1 ∨ b 329 = 2) ∧ x = 0))) := by
  obtain ⟨g0, g1, g2, g3, g4, g5⟩ := hA
  have hn := hB.2.1
  have e1 : X 1 328 = nI (bn b) := g1.trans hB.1
  by_cases hin : 0 ≤ o ∧ o < nI (bn b)
  · obtain ⟨k, hk, rfl⟩ := nI_in_of hin.1 hin.2 (by omega)
    have e7 := g0.at (i := 7) hk (by omega)
    have uq : ∀ j, j < bn b → nI k = nI j → j = k := fun j hj q => ((nI_eq (by omega) (by omega)).mp q).symm
    refine Ct.of (ls := [some (.ref (a 0)), some (.int (nI k))]) (by decide) (by decide) rfl rfl rfl ?_
    refine Ev.ald0 dX6_canChange_0 ?_
    refine Ev.ild1 dX6_canChange_1 ?_
    refine Ev.cvI (Yc := mX6_isOrder) (ci := 6) dX6_canChange_2 lX6_305 vX6_isOrder rfl (m_isOrder hZ.2.1.1 hZ.2.1.g1) ⟨_, hZ.2.1.1⟩ rfl rfl rfl rfl ?_
    rintro y2 M9 ⟨hy2, rfl⟩
    rw [e1, if_pos hin] at hy2
    subst hy2
    refine Ev.if_eq (tgt := 32) dX6_canChange_5 (by decide) (fun c5 => by first | exact absurd c5 (by decide) | exact absurd (by decide) c5) (fun c5 => ?_)
    refine Ev.ald0 dX6_canChange_8 ?_
    refine Ev.ild1 dX6_canChange_9 ?_
    refine Ev.cvI (Yc := mX6_isGone) (ci := 6) dX6_canChange_10 lX6_205 vX6_isGone rfl (m_isGone (k) (by first | assumption | (simp only [nI, Int32.ofNat_add, Int32.ofNat_mul]; done) | (simp only [nI, Int32.ofNat_add, Int32.ofNat_mul]; rfl) | rfl) hZ.2.1.1 hZ.2.1.g1 (by omega)) ⟨_, hZ.2.1.1⟩ rfl rfl rfl rfl ?_
    rintro y10 M9 ⟨hy10, rfl⟩
    rw [e7] at hy10
    refine Ev.if_ne (tgt := 32) dX6_canChange_13 (by decide) (fun c13 => ?_) (fun c13 => ?_)
    · refine Ev.iconst (v := 0) dX6_canChange_32 (by decide) ?_
      refine Ev.iret dX6_canChange_33 rfl rfl ?_
      exact ⟨_, rfl, rfl, Or.inr ⟨fun j hj q => by rw [uq j hj q]; exact Or.inl (v01_t hy10 c13), rfl⟩⟩
    · refine Ev.ald0 dX6_canChange_16 ?_
      refine Ev.mgr (kx := 1) dX6_canChange_17 fX6_13 hZ rfl ?_
      refine Ev.sipush (v := 329) dX6_canChange_20 (by decide) ?_
      refine Ev.mld (j := 329) mq1 dX6_canChange_23 hZ (by first | assumption | (simp only [nI, Int32.ofNat_add, Int32.ofNat_mul]; done) | (simp only [nI, Int32.ofNat_add, Int32.ofNat_mul]; rfl) | rfl) (by omega) ?_
      (try simp only [ux_s, ux_n, ne_eq, Nat.reduceEqDiff, Nat.succ_ne_self, not_false_eq_true])
      rw [g2]
      refine Ev.iconst (v := 2) dX6_canChange_24 (by decide) ?_
      refine Ev.icmp_eq (tgt := 32) dX6_canChange_25 (by decide) (fun c25 => ?_) (fun c25 => ?_)
      · refine Ev.iconst (v := 0) dX6_canChange_32 (by decide) ?_
        refine Ev.iret dX6_canChange_33 rfl rfl ?_
        exact ⟨_, rfl, rfl, Or.inr ⟨fun j hj q => Or.inr c25, rfl⟩⟩
      · refine Ev.iconst (v := 1) dX6_canChange_28 (by decide) ?_
        refine Ev.goto (tgt := 33) dX6_canChange_29 (by decide) ?_
        refine Ev.iret dX6_canChange_33 rfl rfl ?_
        exact ⟨_, rfl, rfl, Or.inl ⟨k, hk, rfl, v01_f hy10 c13, c25, rfl⟩⟩
  · refine Ct.of (ls := [some (.ref (a 0)), some (.int o)]) (by decide) (by decide) rfl rfl rfl ?_
    refine Ev.ald0 dX6_canChange_0 ?_
    refine Ev.ild1 dX6_canChange_1 ?_
    refine Ev.cvI (Yc := mX6_isOrder) (ci := 6) dX6_canChange_2 lX6_305 vX6_isOrder rfl (m_isOrder hZ.2.1.1 hZ.2.1.g1) ⟨_, hZ.2.1.1⟩ rfl rfl rfl rfl ?_
    rintro y2 M9 ⟨hy2, rfl⟩
    rw [e1, if_neg hin] at hy2
    subst hy2
    refine Ev.if_eq (tgt := 32) dX6_canChange_5 (by decide) (fun c5 => ?_) (fun c5 => by first | exact absurd rfl c5 | exact absurd c5 rfl)
    refine Ev.iconst (v := 0) dX6_canChange_32 (by decide) ?_
    refine Ev.iret dX6_canChange_33 rfl rfl ?_
    exact ⟨_, rfl, rfl, Or.inr ⟨fun j hj q => absurd (by rw [q]; exact ⟨nI_pos' (by omega), nI_lt hj (by omega)⟩) hin, rfl⟩⟩
set_option maxRecDepth 20000 in
theorem m_lessens {o q : Int32} (k : Nat) (ho : o = nI k) (hk : k < 41) (hZ : MZ a M0 v L X M) : CtV G mX6_lessens [.ref (a 0), .int o, .int q] M 0 0 (fun M' => MZ a M0 v L (ux X 1 (low (X 1) k q)) M') := by
  subst ho
  refine Ct.of (ls := [some (.ref (a 0)), some (.int (nI k)), some (.int q), none]) (by decide) (by decide) rfl rfl rfl ?_
  refine Ev.bipush (v := 8) dX6_lessens_0 (by decide) ?_
  refine Ev.ild1 dX6_lessens_2 ?_
  refine Ev.imul dX6_lessens_3 ?_
  refine Ev.ist3 dX6_lessens_4 rfl rfl ?_
  refine Ev.ald0 dX6_lessens_5 ?_
  refine Ev.mgr (kx := 1) dX6_lessens_6 fX6_13 hZ rfl ?_
  refine Ev.ild3 dX6_lessens_9 ?_
  refine Ev.iconst (v := 2) dX6_lessens_10 (by decide) ?_
  refine Ev.iadd dX6_lessens_11 ?_
  refine Ev.ild2 dX6_lessens_12 ?_
  refine Ev.mst (j := 8 * k + 2) mq1 dX6_lessens_13 hZ (by first | assumption | (simp only [nI, Int32.ofNat_add, Int32.ofNat_mul]; done) | (simp only [nI, Int32.ofNat_add, Int32.ofNat_mul]; rfl) | rfl) (by omega) (fun M hZ => ?_)
  (try simp only [ux_u, ux_s, ux_n, ne_eq, Nat.reduceEqDiff, Nat.succ_ne_self, not_false_eq_true] at hZ)
  refine Ev.ald0 dX6_lessens_14 ?_
  refine Ev.mgr (kx := 1) dX6_lessens_15 fX6_13 hZ rfl ?_
  refine Ev.ild3 dX6_lessens_18 ?_
  refine Ev.iconst (v := 4) dX6_lessens_19 (by decide) ?_
  refine Ev.iadd dX6_lessens_20 ?_
  refine Ev.ald0 dX6_lessens_21 ?_
  refine Ev.mgr (kx := 1) dX6_lessens_22 fX6_13 hZ rfl ?_
  refine Ev.ild3 dX6_lessens_25 ?_
  refine Ev.iconst (v := 4) dX6_lessens_26 (by decide) ?_
  refine Ev.iadd dX6_lessens_27 ?_
  refine Ev.mld (j := 8 * k + 4) mq1 dX6_lessens_28 hZ (by first | assumption | (simp only [nI, Int32.ofNat_add, Int32.ofNat_mul]; done) | (simp only [nI, Int32.ofNat_add, Int32.ofNat_mul]; rfl) | rfl) (by omega) ?_
  (try simp only [ux_s, ux_n, ne_eq, Nat.reduceEqDiff, Nat.succ_ne_self, not_false_eq_true])
  rw [pk_un (by omega)]
  refine Ev.ild2 dX6_lessens_29 ?_
  refine Ev.csI (Yc := mX6_lesser) dX6_lessens_30 lX6_211 vX6_lesser rfl m_lesser rfl rfl rfl ?_
  rintro y30 M9 ⟨hy30, rfl⟩
  subst hy30
  refine Ev.mst (j := 8 * k + 4) mq1 dX6_lessens_33 hZ (by first | assumption | (simp only [nI, Int32.ofNat_add, Int32.ofNat_mul]; done) | (simp only [nI, Int32.ofNat_add, Int32.ofNat_mul]; rfl) | rfl) (by omega) (fun M hZ => ?_)
  (try simp only [ux_u, ux_s, ux_n, ne_eq, Nat.reduceEqDiff, Nat.succ_ne_self, not_false_eq_true] at hZ)
  refine Ev.ald0 dX6_lessens_34 ?_
  refine Ev.mgr (kx := 1) dX6_lessens_35 fX6_13 hZ rfl ?_
  refine Ev.ild3 dX6_lessens_38 ?_
  refine Ev.iconst (v := 5) dX6_lessens_39 (by decide) ?_
  refine Ev.iadd dX6_lessens_40 ?_
  refine Ev.ald0 dX6_lessens_41 ?_
  refine Ev.mgr (kx := 1) dX6_lessens_42 fX6_13 hZ rfl ?_
  refine Ev.ild3 dX6_lessens_45 ?_
  refine Ev.iconst (v := 5) dX6_lessens_46 (by decide) ?_
  refine Ev.iadd dX6_lessens_47 ?_
  refine Ev.mld (j := 8 * k + 5) mq1 dX6_lessens_48 hZ (by first | assumption | (simp only [nI, Int32.ofNat_add, Int32.ofNat_mul]; done) | (simp only [nI, Int32.ofNat_add, Int32.ofNat_mul]; rfl) | rfl) (by omega) ?_
  (try simp only [ux_s, ux_n, ne_eq, Nat.reduceEqDiff, Nat.succ_ne_self, not_false_eq_true])
  rw [pk_un (by omega), pk_un (by omega)]
  refine Ev.ild2 dX6_lessens_49 ?_
  refine Ev.csI (Yc := mX6_lesser) dX6_lessens_50 lX6_211 vX6_lesser rfl m_lesser rfl rfl rfl ?_
  rintro y50 M9 ⟨hy50, rfl⟩
  subst hy50
  refine Ev.mst (j := 8 * k + 5) mq1 dX6_lessens_53 hZ (by first | assumption | (simp only [nI, Int32.ofNat_add, Int32.ofNat_mul]; done) | (simp only [nI, Int32.ofNat_add, Int32.ofNat_mul]; rfl) | rfl) (by omega) (fun M hZ => ?_)
  (try simp only [ux_u, ux_s, ux_n, ne_eq, Nat.reduceEqDiff, Nat.succ_ne_self, not_false_eq_true] at hZ)
  refine Ev.vret dX6_lessens_54 rfl ?_
  exact ⟨rfl, hZ⟩
end MMA
