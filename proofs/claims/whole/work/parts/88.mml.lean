/-! the reference's questions: owner, gain, left -/
noncomputable def osm (w b : Nat → Int32) (ow k : Int32) : Nat → Int32
  | 0 => 0
  | o + 1 => osm w b ow k o + (if w (8 * o + 6) = ow then (if k = 3 then (if b (8 * o + 7) = 0 then 1 else 0) else if w (8 * o + 0) = k then xfl w o else 0) else 0)
noncomputable def otw (w : Nat → Int32) (ow : Int32) (q : Nat × Nat × Int32) : Int32 := if w (8 * q.1 + 6) = ow ∧ w (8 * q.2.1 + 6) = ow then q.2.2 else 0
noncomputable def otr (w : Nat → Int32) (ow : Int32) (T : List (Nat × Nat × Int32)) : Nat → Int32
  | 0 => 0
  | k + 1 => otr w ow T k + (match T[k]? with
    | none => 0
    | some q => otw w ow q)
noncomputable def an_owner (S : Sg) (ow k : Int32) : Int32 := if (0 ≤ ow ∧ ow ≤ 7) ∧ (0 ≤ k ∧ k ≤ 3) then (if k = 2 then otr (bas S) ow (xT (bas S)) (xT (bas S)).length else osm (bas S) S.1.1 ow k (bn S.1.1)) else -1
noncomputable def gsm (w : Nat → Int32) (pr : Int32) : Nat → Int64
  | 0 => 0
  | o + 1 => gsm w pr o + (if w (8 * o + 1) = 0 then 0 else (if w (8 * o + 0) = 0 then w (8 * o + 3) - pr else pr - w (8 * o + 3)).toInt64 * (xfl w o).toInt64)
noncomputable def an_gain (S : Sg) : Int64 := if 0 < (xP (bas S) (-1)).1 then gsm (bas S) (xP (bas S) (-1)).1 (bn S.1.1) else 0
abbrev lfc (w : Nat → Int32) (sd p : Int32) (o : Nat) : Prop := (0 ≤ xf w o ∧ w (8 * o + 1) ≠ 0 ∧ w (8 * o + 1) ≠ 4 ∧ w (8 * o + 0) = sd) ∧ (sd = 0 ∧ p ≤ w (8 * o + 3) ∨ sd ≠ 0 ∧ w (8 * o + 3) ≤ p)
noncomputable def lfo (w : Nat → Int32) (sd p : Int32) : Nat → Int32
  | 0 => 0
  | o + 1 => lfo w sd p o + (if lfc w sd p o then w (8 * o + 2) - xf w o else 0)
noncomputable def lmx (w : Nat → Int32) (n lo : Nat) : Nat → Int32
  | 0 => 0
  | d + 1 => if lmx w n lo d < mn (lfo w 0 (nI (lo + d)) n) (lfo w 1 (nI (lo + d)) n) then mn (lfo w 0 (nI (lo + d)) n) (lfo w 1 (nI (lo + d)) n) else lmx w n lo d
noncomputable def an_left (S : Sg) : Int32 := lmx (bas S) (bn S.1.1) (blo S.1.1) (bhi S.1.1 + 1 - blo S.1.1)
theorem trd_mem : ∀ (e : Nat) (t : Int32) (B S : List (Nat × Int32)) (q : Nat × Nat × Int32), q ∈ trd e t B S → (∃ r ∈ B, r.1 = q.1) ∧ ∃ r ∈ S, r.1 = q.2.1
  | 0, t, B, S, q, h => by rw [trd] at h; cases h
  | e + 1, t, [], S, q, h => by rw [trd] at h; cases h
  | e + 1, t, p :: B, [], q, h => by rw [trd] at h; cases h
  | e + 1, t, p :: B, r :: S, q, h => by
    rw [trd] at h
    split at h
    · cases h
    · rcases List.mem_cons.mp h with rfl | h
      · exact ⟨⟨p, List.mem_cons_self, rfl⟩, r, List.mem_cons_self, rfl⟩
      · obtain ⟨⟨x, x1, x2⟩, y, y1, y2⟩ := trd_mem e _ _ _ q h
        refine ⟨?_, ?_⟩
        · split at x1
          · exact ⟨x, List.mem_cons_of_mem _ x1, x2⟩
          · rcases List.mem_cons.mp x1 with rfl | x1
            · exact ⟨p, List.mem_cons_self, x2⟩
            · exact ⟨x, List.mem_cons_of_mem _ x1, x2⟩
        · split at y1
          · exact ⟨y, List.mem_cons_of_mem _ y1, y2⟩
          · rcases List.mem_cons.mp y1 with rfl | y1
            · exact ⟨r, List.mem_cons_self, y2⟩
            · exact ⟨y, List.mem_cons_of_mem _ y1, y2⟩
theorem slp_mem {b ct : Nat → Int32} {sd p : Int32} {q : Nat × Int32} (h : q ∈ slp b ct sd p) : q.1 < bn b := by
  rw [slp] at h
  obtain ⟨r, hr, rfl⟩ := List.mem_map.mp h
  exact (slc_lt rfl r hr).1
theorem xT_mem {b : Nat → Int32} {q : Nat × Nat × Int32} (h : q ∈ xT b) : q.1 < bn b ∧ q.2.1 < bn b := by
  rw [xT] at h
  split at h
  · cases h
  · obtain ⟨⟨x, x1, x2⟩, y, y1, y2⟩ := trd_mem _ _ _ _ q h
    exact ⟨by rw [← x2]; exact slp_mem x1, by rw [← y2]; exact slp_mem y1⟩
section MML
variable {G : GP} {a : Nat → Nat} {M0 M : Wd} {v : Nat → Int32} {L : Int64} {X : Nat → Nat → Int32} {S : Sg} {b w : Nat → Int32}
set_option maxRecDepth 20000 in
theorem m_xOf {o j : Int32} (k i : Nat) (ho : o = nI k) (hi : j = nI i) (hk : k < 41) (hi2 : i < 8) (hZ : MZ a M0 v L X M) : CtI G mX6_xOf [.ref (a 0), .int o, .int j] M 0 0 (fun x M' => x = X 1 (380 + (8 * k + i)) ∧ M' = M) := by
  subst ho; subst hi
  refine Ct.of (ls := [some (.ref (a 0)), some (.int (nI k)), some (.int (nI i))]) (by decide) (by decide) rfl rfl rfl ?_
  refine Ev.ald0 dX6_xOf_0 ?_
  refine Ev.mgr (kx := 1) dX6_xOf_1 fX6_13 hZ rfl ?_
  refine Ev.sipush (v := 380) dX6_xOf_4 (by decide) ?_
  refine Ev.bipush (v := 8) dX6_xOf_7 (by decide) ?_
  refine Ev.ild1 dX6_xOf_9 ?_
  refine Ev.imul dX6_xOf_10 ?_
  refine Ev.iadd dX6_xOf_11 ?_
  refine Ev.ild2 dX6_xOf_12 ?_
  refine Ev.iadd dX6_xOf_13 ?_
  refine Ev.mld (j := ((380 + (8 * k)) + i)) mq1 dX6_xOf_14 hZ (by first | assumption | (simp only [nI, Int32.ofNat_add, Int32.ofNat_mul]; done) | (simp only [nI, Int32.ofNat_add, Int32.ofNat_mul]; rfl) | rfl) (by omega) ?_
  (try simp only [ux_s, ux_n, ne_eq, Nat.reduceEqDiff, Nat.succ_ne_self, not_false_eq_true])
  refine Ev.iret dX6_xOf_15 rfl rfl ?_
  exact ⟨_, rfl, by rw [Nat.add_assoc], rfl⟩
set_option maxRecDepth 20000 in
theorem m_xFill {o x : Int32} (k : Nat) (ho : o = nI k) (hk : k < 41) (hx : X 1 (339 + k) = x) (hZ : MZ a M0 v L X M) : CtI G mX6_xFill [.ref (a 0), .int o] M 0 0 (fun y M' => y = (if 0 < x then x else 0) ∧ M' = M) := by
  subst ho
  refine Ct.of (ls := [some (.ref (a 0)), some (.int (nI k))]) (by decide) (by decide) rfl rfl rfl ?_
  refine Ev.ald0 dX6_xFill_0 ?_
  refine Ev.mgr (kx := 1) dX6_xFill_1 fX6_13 hZ rfl ?_
  refine Ev.sipush (v := 339) dX6_xFill_4 (by decide) ?_
  refine Ev.ild1 dX6_xFill_7 ?_
  refine Ev.iadd dX6_xFill_8 ?_
  refine Ev.mld (j := (339 + k)) mq1 dX6_xFill_9 hZ (by first | assumption | (simp only [nI, Int32.ofNat_add, Int32.ofNat_mul]; done) | (simp only [nI, Int32.ofNat_add, Int32.ofNat_mul]; rfl) | rfl) (by omega) ?_
  (try simp only [ux_s, ux_n, ne_eq, Nat.reduceEqDiff, Nat.succ_ne_self, not_false_eq_true])
  rw [hx]
  refine Ev.if_le (tgt := 26) dX6_xFill_10 (by decide) (fun c10 => ?_) (fun c10 => ?_)
  · refine Ev.iconst (v := 0) dX6_xFill_26 (by decide) ?_
    refine Ev.iret dX6_xFill_27 rfl rfl ?_
    exact ⟨_, rfl, (if_neg (Int32.not_lt.mpr c10)).symm, rfl⟩
  · refine Ev.ald0 dX6_xFill_13 ?_
    refine Ev.mgr (kx := 1) dX6_xFill_14 fX6_13 hZ rfl ?_
    refine Ev.sipush (v := 339) dX6_xFill_17 (by decide) ?_
    refine Ev.ild1 dX6_xFill_20 ?_
    refine Ev.iadd dX6_xFill_21 ?_
    refine Ev.mld (j := (339 + k)) mq1 dX6_xFill_22 hZ (by first | assumption | (simp only [nI, Int32.ofNat_add, Int32.ofNat_mul]; done) | (simp only [nI, Int32.ofNat_add, Int32.ofNat_mul]; rfl) | rfl) (by omega) ?_
    (try simp only [ux_s, ux_n, ne_eq, Nat.reduceEqDiff, Nat.succ_ne_self, not_false_eq_true])
    rw [hx]
    refine Ev.goto (tgt := 27) dX6_xFill_23 (by decide) ?_
    refine Ev.iret dX6_xFill_27 rfl rfl ?_
    exact ⟨_, rfl, (if_pos (Int32.not_le.mp c10)).symm, rfl⟩
set_option maxRecDepth 20000 in
theorem m_ow1 {Q : Option Value → Wd → Prop} {ow k : Int32} (hk : k ≠ 2) (hA : Ag (X 1) b) (hB : BW 40 b) (x7 : ∀ o, o < bn b → X 1 (339 + o) = xf w o) (x8 : ∀ j, j < 8 * bn b → X 1 (380 + j) = w j) (hZ : MZ a M0 v L X M) (kk : Q (some (.int (osm w b ow k (bn b)))) M) : Ev G mX6_owner 40 [some (.ref (a 0)), some (.int ow), some (.int k), some (.int 0), some (.int 0), none] [] M 0 0 Q := by
  have hn := hB.2.1
  have e8 : X 1 328 = nI (bn b) := hA.2.1.trans hB.1
  have KL : ∀ a5, Ev G mX6_owner 40 [some (.ref (a 0)), some (.int ow), some (.int k), some (.int (osm w b ow k 0)), some (.int (nI 0)), a5] [] M 0 0 Q := by
    refine ev_ind (bn b) (fun t => ∀ a5, Ev G mX6_owner 40 [some (.ref (a 0)), some (.int ow), some (.int k), some (.int (osm w b ow k t)), some (.int (nI t)), a5] [] M 0 0 Q) ?_ ?_
    · intro a5
      refine Ev.ild4 dX6_owner_40 ?_
      refine Ev.ald0 dX6_owner_42 ?_
      refine Ev.mgr (kx := 1) dX6_owner_43 fX6_13 hZ rfl ?_
      refine Ev.sipush (v := 328) dX6_owner_46 (by decide) ?_
      refine Ev.mld (j := 328) mq1 dX6_owner_49 hZ (by first | assumption | (simp only [nI, Int32.ofNat_add, Int32.ofNat_mul]; done) | (simp only [nI, Int32.ofNat_add, Int32.ofNat_mul]; rfl) | rfl) (by omega) ?_
      (try simp only [ux_s, ux_n, ne_eq, Nat.reduceEqDiff, Nat.succ_ne_self, not_false_eq_true])
      rw [e8]
      refine Ev.icmp_ge (tgt := 138) dX6_owner_50 (by decide) (fun c50 => ?_) (fun c50 => by first | exact absurd (Int32.le_refl _) c50 | exact absurd c50 (Int32.le_refl _))
      refine Ev.iconst (v := 0) dX6_owner_138 (by decide) ?_
      refine Ev.ist4 dX6_owner_139 rfl rfl ?_
      refine Ev.ild4 dX6_owner_141 ?_
      refine Ev.ald0 dX6_owner_143 ?_
      refine Ev.mgr (kx := 1) dX6_owner_144 fX6_13 hZ rfl ?_
      refine Ev.sipush (v := 708) dX6_owner_147 (by decide) ?_
      refine Ev.mld (j := 708) mq1 dX6_owner_150 hZ (by first | assumption | (simp only [nI, Int32.ofNat_add, Int32.ofNat_mul]; done) | (simp only [nI, Int32.ofNat_add, Int32.ofNat_mul]; rfl) | rfl) (by omega) ?_
      (try simp only [ux_s, ux_n, ne_eq, Nat.reduceEqDiff, Nat.succ_ne_self, not_false_eq_true])
      refine Ev.icmp_ge (tgt := 227) dX6_owner_151 (by decide) (fun c151 => ?_) (fun c151 => ?_)
      · refine Ev.ild3 dX6_owner_227 ?_
        refine Ev.iret dX6_owner_228 rfl rfl ?_
        exact kk
      · refine Ev.ild2 dX6_owner_154 ?_
        refine Ev.iconst (v := 2) dX6_owner_155 (by decide) ?_
        refine Ev.icmp_ne (tgt := 227) dX6_owner_156 (by decide) (fun c156 => ?_) (fun c156 => by first | exact absurd hk c156 | exact absurd c156 hk)
        refine Ev.ild3 dX6_owner_227 ?_
        refine Ev.iret dX6_owner_228 rfl rfl ?_
        exact kk
    · intro t ht ih a5
      have e7 : X 1 (8 * t + 7) = b (8 * t + 7) := hA.1.at ht (by omega)
      have f6 : X 1 (380 + (8 * t + 6)) = w (8 * t + 6) := x8 _ (by omega)
      have f0 : X 1 (380 + (8 * t + 0)) = w (8 * t + 0) := x8 _ (by omega)
      rw [osm] at ih
      have J : ∀ y, y = (if w (8 * t + 6) = ow then (if k = 3 then (if b (8 * t + 7) = 0 then 1 else 0) else if w (8 * t + 0) = k then xfl w t else 0) else 0) → ∀ a5, Ev G mX6_owner 130 [some (.ref (a 0)), some (.int ow), some (.int k), some (.int (osm w b ow k t)), some (.int (nI t)), a5] [.int y, .int (osm w b ow k t)] M 0 0 Q := by
        intro y hy a5
        rw [← hy] at ih
        refine Ev.iadd dX6_owner_130 ?_
        refine Ev.ist3 dX6_owner_131 rfl rfl ?_
        apply Ev.iinc4 dX6_owner_132 rfl rfl
        · first | exact nI_inc _ | rfl
        refine Ev.goto (tgt := 40) dX6_owner_135 (by decide) ?_
        exact ih _
      refine Ev.ild4 dX6_owner_40 ?_
      refine Ev.ald0 dX6_owner_42 ?_
      refine Ev.mgr (kx := 1) dX6_owner_43 fX6_13 hZ rfl ?_
      refine Ev.sipush (v := 328) dX6_owner_46 (by decide) ?_
      refine Ev.mld (j := 328) mq1 dX6_owner_49 hZ (by first | assumption | (simp only [nI, Int32.ofNat_add, Int32.ofNat_mul]; done) | (simp only [nI, Int32.ofNat_add, Int32.ofNat_mul]; rfl) | rfl) (by omega) ?_
      (try simp only [ux_s, ux_n, ne_eq, Nat.reduceEqDiff, Nat.succ_ne_self, not_false_eq_true])
      rw [e8]
      refine Ev.icmp_ge (tgt := 138) dX6_owner_50 (by decide) (fun c50 => by first | exact absurd c50 (nI_ge ht (by omega)) | exact absurd (nI_ge ht (by omega)) c50) (fun c50 => ?_)
      refine Ev.ild2 dX6_owner_53 ?_
      refine Ev.iconst (v := 2) dX6_owner_54 (by decide) ?_
      refine Ev.icmp_eq (tgt := 138) dX6_owner_55 (by decide) (fun c55 => by first | exact absurd c55 hk | exact absurd hk c55) (fun c55 => ?_)
      refine Ev.ald0 dX6_owner_58 ?_
      refine Ev.ild4 dX6_owner_59 ?_
      refine Ev.bipush (v := 6) dX6_owner_61 (by decide) ?_
      refine Ev.cvI (Yc := mX6_xOf) (ci := 6) dX6_owner_63 lX6_337 vX6_xOf rfl (m_xOf t 6 rfl rfl (by omega) (by omega) hZ) ⟨_, hZ.2.1.1⟩ rfl rfl rfl rfl ?_
      rintro y63 M9 ⟨hy63, rfl⟩
      rw [f6] at hy63
      subst hy63
      refine Ev.ild1 dX6_owner_66 ?_
      refine Ev.icmp_ne (tgt := 74) dX6_owner_67 (by decide) (fun c67 => ?_) (fun c67 => ?_)
      · refine Ev.iconst (v := 0) dX6_owner_74 (by decide) ?_
        refine Ev.ist5 dX6_owner_75 rfl rfl ?_
        refine Ev.ild3 dX6_owner_77 ?_
        refine Ev.ild5 dX6_owner_78 ?_
        refine Ev.if_ne (tgt := 87) dX6_owner_80 (by decide) (fun c80 => by first | exact absurd c80 rfl | exact absurd rfl c80) (fun c80 => ?_)
        refine Ev.iconst (v := 0) dX6_owner_83 (by decide) ?_
        refine Ev.goto (tgt := 130) dX6_owner_84 (by decide) ?_
        exact J _ (if_neg c67).symm _
      · refine Ev.iconst (v := 1) dX6_owner_70 (by decide) ?_
        refine Ev.goto (tgt := 75) dX6_owner_71 (by decide) ?_
        refine Ev.ist5 dX6_owner_75 rfl rfl ?_
        refine Ev.ild3 dX6_owner_77 ?_
        refine Ev.ild5 dX6_owner_78 ?_
        refine Ev.if_ne (tgt := 87) dX6_owner_80 (by decide) (fun c80 => ?_) (fun c80 => by first | exact absurd (by decide) c80 | exact absurd c80 (by decide))
        refine Ev.ild2 dX6_owner_87 ?_
        refine Ev.iconst (v := 3) dX6_owner_88 (by decide) ?_
        refine Ev.icmp_ne (tgt := 109) dX6_owner_89 (by decide) (fun c89 => ?_) (fun c89 => ?_)
        · refine Ev.ald0 dX6_owner_109 ?_
          refine Ev.ild4 dX6_owner_110 ?_
          refine Ev.iconst (v := 0) dX6_owner_112 (by decide) ?_
          refine Ev.cvI (Yc := mX6_xOf) (ci := 6) dX6_owner_113 lX6_337 vX6_xOf rfl (m_xOf t 0 rfl rfl (by omega) (by omega) hZ) ⟨_, hZ.2.1.1⟩ rfl rfl rfl rfl ?_
          rintro y113 M9 ⟨hy113, rfl⟩
          rw [f0] at hy113
          subst hy113
          refine Ev.ild2 dX6_owner_116 ?_
          refine Ev.icmp_ne (tgt := 129) dX6_owner_117 (by decide) (fun c117 => ?_) (fun c117 => ?_)
          · refine Ev.iconst (v := 0) dX6_owner_129 (by decide) ?_
            exact J _ (by rw [if_pos c67, if_neg c89, if_neg c117]) _
          · refine Ev.ald0 dX6_owner_120 ?_
            refine Ev.ild4 dX6_owner_121 ?_
            refine Ev.cvI (Yc := mX6_xFill) (ci := 6) dX6_owner_123 lX6_340 vX6_xFill rfl (m_xFill t rfl (by omega) (x7 t ht) hZ) ⟨_, hZ.2.1.1⟩ rfl rfl rfl rfl ?_
            rintro y123 M9 ⟨hy123, rfl⟩
            refine Ev.goto (tgt := 130) dX6_owner_126 (by decide) ?_
            exact J _ (by rw [if_pos c67, if_neg c89, if_pos c117]; exact hy123) _
        · refine Ev.ald0 dX6_owner_92 ?_
          refine Ev.ild4 dX6_owner_93 ?_
          refine Ev.cvI (Yc := mX6_isGone) (ci := 6) dX6_owner_95 lX6_205 vX6_isGone rfl (m_isGone (t) (by first | assumption | (simp only [nI, Int32.ofNat_add, Int32.ofNat_mul]; done) | (simp only [nI, Int32.ofNat_add, Int32.ofNat_mul]; rfl) | rfl) hZ.2.1.1 hZ.2.1.g1 (by omega)) ⟨_, hZ.2.1.1⟩ rfl rfl rfl rfl ?_
          rintro y95 M9 ⟨hy95, rfl⟩
          rw [e7] at hy95
          refine Ev.if_eq (tgt := 105) dX6_owner_98 (by decide) (fun c98 => ?_) (fun c98 => ?_)
          · refine Ev.iconst (v := 1) dX6_owner_105 (by decide) ?_
            refine Ev.goto (tgt := 130) dX6_owner_106 (by decide) ?_
            exact J _ (by rw [if_pos c67, if_pos c89, if_pos ((hB.2.2.1.g01 ht).mp (v01_f hy95 c98))]) _
          · refine Ev.iconst (v := 0) dX6_owner_101 (by decide) ?_
            refine Ev.goto (tgt := 130) dX6_owner_102 (by decide) ?_
            exact J _ (by rw [if_pos c67, if_pos c89, if_neg (fun z => (hB.2.2.1.g01 ht).mpr z (v01_t hy95 c98))]) _
  exact KL _
set_option maxRecDepth 20000 in
theorem m_ow2 {Q : Option Value → Wd → Prop} {ow : Int32} {a4 a5 : Option Value} {n : Nat} {T : List (Nat × Nat × Int32)} (hn : n ≤ 40) (hl : T.length ≤ 160) (hT : TR (X 1) T) (hm : ∀ q ∈ T, q.1 < n ∧ q.2.1 < n) (x8 : ∀ j, j < 8 * n → X 1 (380 + j) = w j) (hZ : MZ a M0 v L X M) (kk : Q (some (.int (otr w ow T T.length))) M) : Ev G mX6_owner 138 [some (.ref (a 0)), some (.int ow), some (.int 2), some (.int 0), a4, a5] [] M 0 0 Q := by
  have e8 : X 1 708 = nI T.length := hT.1
  have KL : ∀ a5, Ev G mX6_owner 141 [some (.ref (a 0)), some (.int ow), some (.int 2), some (.int (otr w ow T 0)), some (.int (nI 0)), a5] [] M 0 0 Q := by
    refine ev_ind T.length (fun t => ∀ a5, Ev G mX6_owner 141 [some (.ref (a 0)), some (.int ow), some (.int 2), some (.int (otr w ow T t)), some (.int (nI t)), a5] [] M 0 0 Q) ?_ ?_
    · intro a5
      refine Ev.ild4 dX6_owner_141 ?_
      refine Ev.ald0 dX6_owner_143 ?_
      refine Ev.mgr (kx := 1) dX6_owner_144 fX6_13 hZ rfl ?_
      refine Ev.sipush (v := 708) dX6_owner_147 (by decide) ?_
      refine Ev.mld (j := 708) mq1 dX6_owner_150 hZ (by first | assumption | (simp only [nI, Int32.ofNat_add, Int32.ofNat_mul]; done) | (simp only [nI, Int32.ofNat_add, Int32.ofNat_mul]; rfl) | rfl) (by omega) ?_
      (try simp only [ux_s, ux_n, ne_eq, Nat.reduceEqDiff, Nat.succ_ne_self, not_false_eq_true])
      rw [e8]
      refine Ev.icmp_ge (tgt := 227) dX6_owner_151 (by decide) (fun c151 => ?_) (fun c151 => by first | exact absurd (Int32.le_refl _) c151 | exact absurd c151 (Int32.le_refl _))
      refine Ev.ild3 dX6_owner_227 ?_
      refine Ev.iret dX6_owner_228 rfl rfl ?_
      exact kk
    · intro t ht ih a5
      have hg := List.getElem?_eq_getElem ht
      obtain ⟨g1, g2, g3⟩ := hT.2 t _ hg
      obtain ⟨m1, m2⟩ := hm _ (List.getElem_mem ht)
      rw [otr, hg] at ih
      generalize T[t] = q at hg g1 g2 g3 m1 m2 ih
      have f6 : X 1 (380 + (8 * q.1 + 6)) = w (8 * q.1 + 6) := x8 _ (by omega)
      have f7 : X 1 (380 + (8 * q.2.1 + 6)) = w (8 * q.2.1 + 6) := x8 _ (by omega)
      have ih2 : ∀ y, y = otw w ow q → ∀ a5, Ev G mX6_owner 141 [some (.ref (a 0)), some (.int ow), some (.int 2), some (.int (otr w ow T t + y)), some (.int (nI (t + 1))), a5] [] M 0 0 Q := fun y hy => by rw [hy]; exact ih
      refine Ev.ild4 dX6_owner_141 ?_
      refine Ev.ald0 dX6_owner_143 ?_
      refine Ev.mgr (kx := 1) dX6_owner_144 fX6_13 hZ rfl ?_
      refine Ev.sipush (v := 708) dX6_owner_147 (by decide) ?_
      refine Ev.mld (j := 708) mq1 dX6_owner_150 hZ (by first | assumption | (simp only [nI, Int32.ofNat_add, Int32.ofNat_mul]; done) | (simp only [nI, Int32.ofNat_add, Int32.ofNat_mul]; rfl) | rfl) (by omega) ?_
      (try simp only [ux_s, ux_n, ne_eq, Nat.reduceEqDiff, Nat.succ_ne_self, not_false_eq_true])
      rw [e8]
      refine Ev.icmp_ge (tgt := 227) dX6_owner_151 (by decide) (fun c151 => by first | exact absurd c151 (nI_ge ht (by omega)) | exact absurd (nI_ge ht (by omega)) c151) (fun c151 => ?_)
      refine Ev.ild2 dX6_owner_154 ?_
      refine Ev.iconst (v := 2) dX6_owner_155 (by decide) ?_
      refine Ev.icmp_ne (tgt := 227) dX6_owner_156 (by decide) (fun c156 => by first | exact absurd c156 (by decide) | exact absurd (by decide) c156) (fun c156 => ?_)
      refine Ev.sipush (v := 709) dX6_owner_159 (by decide) ?_
      refine Ev.iconst (v := 3) dX6_owner_162 (by decide) ?_
      refine Ev.ild4 dX6_owner_163 ?_
      refine Ev.imul dX6_owner_165 ?_
      refine Ev.iadd dX6_owner_166 ?_
      refine Ev.ist5 dX6_owner_167 rfl rfl ?_
      refine Ev.ild3 dX6_owner_169 ?_
      refine Ev.ald0 dX6_owner_170 ?_
      refine Ev.ald0 dX6_owner_171 ?_
      refine Ev.mgr (kx := 1) dX6_owner_172 fX6_13 hZ rfl ?_
      refine Ev.ild5 dX6_owner_175 ?_
      refine Ev.mld (j := (709 + (3 * t))) mq1 dX6_owner_177 hZ (by first | assumption | (simp only [nI, Int32.ofNat_add, Int32.ofNat_mul]; done) | (simp only [nI, Int32.ofNat_add, Int32.ofNat_mul]; rfl) | rfl) (by omega) ?_
      (try simp only [ux_s, ux_n, ne_eq, Nat.reduceEqDiff, Nat.succ_ne_self, not_false_eq_true])
      rw [g1]
      refine Ev.bipush (v := 6) dX6_owner_178 (by decide) ?_
      refine Ev.cvI (Yc := mX6_xOf) (ci := 6) dX6_owner_180 lX6_337 vX6_xOf rfl (m_xOf q.1 6 rfl rfl (by omega) (by omega) hZ) ⟨_, hZ.2.1.1⟩ rfl rfl rfl rfl ?_
      rintro y180 M9 ⟨hy180, rfl⟩
      rw [f6] at hy180
      subst hy180
      refine Ev.ild1 dX6_owner_183 ?_
      refine Ev.icmp_ne (tgt := 218) dX6_owner_184 (by decide) (fun c184 => ?_) (fun c184 => ?_)
      · refine Ev.iconst (v := 0) dX6_owner_218 (by decide) ?_
        refine Ev.iadd dX6_owner_219 ?_
        refine Ev.ist3 dX6_owner_220 rfl rfl ?_
        apply Ev.iinc4 dX6_owner_221 rfl rfl
        · first | exact nI_inc _ | rfl
        refine Ev.goto (tgt := 141) dX6_owner_224 (by decide) ?_
        exact ih2 _ (if_neg (fun z => c184 z.1)).symm _
      · refine Ev.ald0 dX6_owner_187 ?_
        refine Ev.ald0 dX6_owner_188 ?_
        refine Ev.mgr (kx := 1) dX6_owner_189 fX6_13 hZ rfl ?_
        refine Ev.ild5 dX6_owner_192 ?_
        refine Ev.iconst (v := 1) dX6_owner_194 (by decide) ?_
        refine Ev.iadd dX6_owner_195 ?_
        refine Ev.mld (j := ((709 + (3 * t)) + 1)) mq1 dX6_owner_196 hZ (by first | assumption | (simp only [nI, Int32.ofNat_add, Int32.ofNat_mul]; done) | (simp only [nI, Int32.ofNat_add, Int32.ofNat_mul]; rfl) | rfl) (by omega) ?_
        (try simp only [ux_s, ux_n, ne_eq, Nat.reduceEqDiff, Nat.succ_ne_self, not_false_eq_true])
        rw [g2]
        refine Ev.bipush (v := 6) dX6_owner_197 (by decide) ?_
        refine Ev.cvI (Yc := mX6_xOf) (ci := 6) dX6_owner_199 lX6_337 vX6_xOf rfl (m_xOf q.2.1 6 rfl rfl (by omega) (by omega) hZ) ⟨_, hZ.2.1.1⟩ rfl rfl rfl rfl ?_
        rintro y199 M9 ⟨hy199, rfl⟩
        rw [f7] at hy199
        subst hy199
        refine Ev.ild1 dX6_owner_202 ?_
        refine Ev.icmp_ne (tgt := 218) dX6_owner_203 (by decide) (fun c203 => ?_) (fun c203 => ?_)
        · refine Ev.iconst (v := 0) dX6_owner_218 (by decide) ?_
          refine Ev.iadd dX6_owner_219 ?_
          refine Ev.ist3 dX6_owner_220 rfl rfl ?_
          apply Ev.iinc4 dX6_owner_221 rfl rfl
          · first | exact nI_inc _ | rfl
          refine Ev.goto (tgt := 141) dX6_owner_224 (by decide) ?_
          exact ih2 _ (if_neg (fun z => c203 z.2)).symm _
        · refine Ev.ald0 dX6_owner_206 ?_
          refine Ev.mgr (kx := 1) dX6_owner_207 fX6_13 hZ rfl ?_
          refine Ev.ild5 dX6_owner_210 ?_
          refine Ev.iconst (v := 2) dX6_owner_212 (by decide) ?_
          refine Ev.iadd dX6_owner_213 ?_
          refine Ev.mld (j := ((709 + (3 * t)) + 2)) mq1 dX6_owner_214 hZ (by first | assumption | (simp only [nI, Int32.ofNat_add, Int32.ofNat_mul]; done) | (simp only [nI, Int32.ofNat_add, Int32.ofNat_mul]; rfl) | rfl) (by omega) ?_
          (try simp only [ux_s, ux_n, ne_eq, Nat.reduceEqDiff, Nat.succ_ne_self, not_false_eq_true])
          rw [g3]
          refine Ev.goto (tgt := 219) dX6_owner_215 (by decide) ?_
          refine Ev.iadd dX6_owner_219 ?_
          refine Ev.ist3 dX6_owner_220 rfl rfl ?_
          apply Ev.iinc4 dX6_owner_221 rfl rfl
          · first | exact nI_inc _ | rfl
          refine Ev.goto (tgt := 141) dX6_owner_224 (by decide) ?_
          exact ih2 _ (if_pos ⟨c184, c203⟩).symm _
  refine Ev.iconst (v := 0) dX6_owner_138 (by decide) ?_
  refine Ev.ist4 dX6_owner_139 rfl rfl ?_
  exact KL _
set_option maxRecDepth 20000 in
theorem m_owner {ow k : Int32} (hS : Sok S) (hR : MR v X S) (hZ : MZ a M0 v L X M) : CtI G mX6_owner [.ref (a 0), .int ow, .int k] M 0 0 (fun x M' => x = an_owner S ow k ∧ ∃ (v' : Nat → Int32) (X' : Nat → Nat → Int32), MZ a M0 v' L X' M' ∧ MR v' X' S) := by
  have hB : BW 40 S.1.1 := hS.1.1
  have hn := hB.2.1
  by_cases hok : (0 ≤ ow ∧ ow ≤ 7) ∧ (0 ≤ k ∧ k ≤ 3)
  · rw [an_owner, if_pos hok]
    obtain ⟨h1, h2⟩ := hok
    refine Ct.of (ls := [some (.ref (a 0)), some (.int ow), some (.int k), none, none, none]) (by decide) (by decide) rfl rfl rfl ?_
    refine Ev.ald0 dX6_owner_0 ?_
    refine Ev.iconst (v := 0) dX6_owner_1 (by decide) ?_
    refine Ev.mput (kx := 0) dX6_owner_2 fX6_1 hZ rfl rfl (fun M hZ => ?_)
    refine Ev.ild1 dX6_owner_5 ?_
    refine Ev.i2l dX6_owner_6 ?_
    refine Ev.lconst (v := 0) dX6_owner_7 (by decide) ?_
    refine Ev.ldc2 dX6_owner_8 kX6_294 ?_
    refine Ev.csI (Yc := mX6_within) dX6_owner_11 lX6_93 vX6_within rfl (m_wI (y := 0) (z := 7) (by decide) (by decide)) rfl rfl rfl ?_
    rintro y11 M9 ⟨hy11, rfl⟩
    rw [if_pos h1] at hy11
    refine Ev.if_eq (tgt := 29) dX6_owner_14 (by decide) (fun c14 => by first | exact absurd c14 (by rw [hy11]; decide) | exact absurd (by rw [hy11]; decide) c14) (fun c14 => ?_)
    refine Ev.ild2 dX6_owner_17 ?_
    refine Ev.i2l dX6_owner_18 ?_
    refine Ev.lconst (v := 0) dX6_owner_19 (by decide) ?_
    refine Ev.ldc2 dX6_owner_20 kX6_138 ?_
    refine Ev.csI (Yc := mX6_within) dX6_owner_23 lX6_93 vX6_within rfl (m_wI (y := 0) (z := 3) (by decide) (by decide)) rfl rfl rfl ?_
    rintro y23 M9 ⟨hy23, rfl⟩
    rw [if_pos h2] at hy23
    refine Ev.if_ne (tgt := 31) dX6_owner_26 (by decide) (fun c26 => ?_) (fun c26 => by first | exact absurd (by rw [hy23]; decide) c26 | exact absurd c26 (by rw [hy23]; decide))
    refine Ev.ald0 dX6_owner_31 ?_
    refine Ev.cvV (Yc := mX6_lays) (ci := 6) dX6_owner_32 lX6_314 vX6_lays rfl (m_lyS hS hR QT.rf.t hZ) ⟨_, hZ.2.1.1⟩ rfl rfl rfl rfl ?_
    rintro M1 ⟨v1, X1, hZ, t0, hR1, hx⟩
    refine Ev.iconst (v := 0) dX6_owner_35 (by decide) ?_
    refine Ev.ist3 dX6_owner_36 rfl rfl ?_
    refine Ev.iconst (v := 0) dX6_owner_37 (by decide) ?_
    refine Ev.ist4 dX6_owner_38 rfl rfl ?_
    skip
    have e8 : X1 1 328 = nI (bn S.1.1) := hR1.1.1.2.1.trans hB.1
    obtain ⟨y1, y2, y3, y4, y5, y6, y7, y8, y9⟩ := hx
    rw [bas_n hS] at y7 y8
    by_cases hk : k = 2
    · rw [if_pos hk]
      subst hk
      have hl : (xT (bas S)).length ≤ 160 := by have := xT_len (b := bas S); rw [bas_n hS] at this; omega
      have hm : ∀ q ∈ xT (bas S), q.1 < bn S.1.1 ∧ q.2.1 < bn S.1.1 := fun q hq => by have := xT_mem hq; rw [bas_n hS] at this; exact this
      have fin : ∀ a4 a5, Ev G mX6_owner 138 [some (.ref (a 0)), some (.int ow), some (.int 2), some (.int 0), a4, a5] [] M1 0 0 (fun u M' => ∃ x, u = some (.int x) ∧ x = otr (bas S) ow (xT (bas S)) (xT (bas S)).length ∧ ∃ (v' : Nat → Int32) (X' : Nat → Nat → Int32), MZ a M0 v' L X' M' ∧ MR v' X' S) := fun a4 a5 => m_ow2 hn hl y9 hm y8 hZ ⟨_, rfl, rfl, _, _, hZ, hR1⟩
      refine Ev.ild4 dX6_owner_40 ?_
      refine Ev.ald0 dX6_owner_42 ?_
      refine Ev.mgr (kx := 1) dX6_owner_43 fX6_13 hZ rfl ?_
      refine Ev.sipush (v := 328) dX6_owner_46 (by decide) ?_
      refine Ev.mld (j := 328) mq1 dX6_owner_49 hZ (by first | assumption | (simp only [nI, Int32.ofNat_add, Int32.ofNat_mul]; done) | (simp only [nI, Int32.ofNat_add, Int32.ofNat_mul]; rfl) | rfl) (by omega) ?_
      (try simp only [ux_s, ux_n, ne_eq, Nat.reduceEqDiff, Nat.succ_ne_self, not_false_eq_true])
      rw [e8]
      refine Ev.icmp_ge (tgt := 138) dX6_owner_50 (by decide) (fun c50 => ?_) (fun c50 => ?_)
      · exact fin _ _
      · refine Ev.ild2 dX6_owner_53 ?_
        refine Ev.iconst (v := 2) dX6_owner_54 (by decide) ?_
        refine Ev.icmp_eq (tgt := 138) dX6_owner_55 (by decide) (fun c55 => ?_) (fun c55 => by first | exact absurd rfl c55 | exact absurd c55 rfl)
        exact fin _ _
    · rw [if_neg hk]
      exact m_ow1 (b := S.1.1) (w := bas S) hk hR1.1.1 hB y7 y8 hZ ⟨_, rfl, rfl, _, _, hZ, hR1⟩
  · rw [an_owner, if_neg hok]
    refine Ct.of (ls := [some (.ref (a 0)), some (.int ow), some (.int k), none, none, none]) (by decide) (by decide) rfl rfl rfl ?_
    refine Ev.ald0 dX6_owner_0 ?_
    refine Ev.iconst (v := 0) dX6_owner_1 (by decide) ?_
    refine Ev.mput (kx := 0) dX6_owner_2 fX6_1 hZ rfl rfl (fun M hZ => ?_)
    refine Ev.ild1 dX6_owner_5 ?_
    refine Ev.i2l dX6_owner_6 ?_
    refine Ev.lconst (v := 0) dX6_owner_7 (by decide) ?_
    refine Ev.ldc2 dX6_owner_8 kX6_294 ?_
    refine Ev.csI (Yc := mX6_within) dX6_owner_11 lX6_93 vX6_within rfl (m_wI (y := 0) (z := 7) (by decide) (by decide)) rfl rfl rfl ?_
    rintro y11 M9 ⟨hy11, rfl⟩
    refine Ev.if_eq (tgt := 29) dX6_owner_14 (by decide) (fun c14 => ?_) (fun c14 => ?_)
    · refine Ev.iconst (v := -1) dX6_owner_29 (by decide) ?_
      refine Ev.iret dX6_owner_30 rfl rfl ?_
      exact ⟨_, rfl, rfl, _, _, hZ, hR.q QT.rf.t hR.1⟩
    · refine Ev.ild2 dX6_owner_17 ?_
      refine Ev.i2l dX6_owner_18 ?_
      refine Ev.lconst (v := 0) dX6_owner_19 (by decide) ?_
      refine Ev.ldc2 dX6_owner_20 kX6_138 ?_
      refine Ev.csI (Yc := mX6_within) dX6_owner_23 lX6_93 vX6_within rfl (m_wI (y := 0) (z := 3) (by decide) (by decide)) rfl rfl rfl ?_
      rintro y23 M9 ⟨hy23, rfl⟩
      refine Ev.if_ne (tgt := 31) dX6_owner_26 (by decide) (fun c26 => ?_) (fun c26 => ?_)
      · exact absurd ⟨v01_t hy11 c14, v01_t hy23 c26⟩ hok
      · refine Ev.iconst (v := -1) dX6_owner_29 (by decide) ?_
        refine Ev.iret dX6_owner_30 rfl rfl ?_
        exact ⟨_, rfl, rfl, _, _, hZ, hR.q QT.rf.t hR.1⟩
end MML
