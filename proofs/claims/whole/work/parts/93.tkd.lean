/-! the reference reads lines -/
def ST (c : Nat → Nat) (n : Nat) (s : Ps) (v : Nat → Int32) (L : Int64) (X : Nat → Nat → Int32) : Prop := TC c n s.1 v L X ∧ v 16 = nI s.2.2.1 ∧ s.2.2.1 ≤ 40 ∧ Ar s.2.2.1 (X 17) s.2.1 ∧ v 18 = nI s.2.2.2.1 ∧ s.2.2.2.1 ≤ 999 ∧ v 19 = nI s.2.2.2.2.1 ∧ s.2.2.2.2.1 ≤ 999 ∧ (s.2.2.2.2.1 ≠ 0 → v 20 = nI s.2.2.2.2.2)
def Rs (a : Nat → Nat) (M0 : Wd) (c : Nat → Nat) (n : Nat) (v : Nat → Int32) (X : Nat → Nat → Int32) (r : Nat ⊕ Ps) (x : Int32) (M' : Wd) : Prop := ∃ (v' : Nat → Int32) (L' : Int64) (X' : Nat → Nat → Int32), MZ a M0 v' L' X' M' ∧ KT v v' X X' ∧ (match r with
  | .inl F => x = 0 ∧ v' 15 = nI F
  | .inr s => x = 1 ∧ ST c n s v' L' X')
theorem VT.w {v v' : Nat → Int32} (h : VT v v') {j : Nat} (hj : j ∉ [10, 11, 12, 13]) {x : Int32} (hx : v j = x) : v' j = x := (h j hj).trans hx
section TKD
variable {G : GP} {a : Nat → Nat} {M0 M : Wd} {v v0 : Nat → Int32} {L : Int64} {X X0 : Nat → Nat → Int32} {c : Nat → Nat} {n p : Nat} {s : Ps}
set_option maxRecDepth 20000 in
theorem m_referenceLine (hS : ST c n s v L X) (hZ : MZ a M0 v L X M) : CtI G mX6_referenceLine [.ref (a 0)] M 0 0 (Rs a M0 c n v X (rln c n s)) := by
  obtain ⟨hT, h16, hk, hAr, h18, hr, h19, hl, h20⟩ := hS
  by_cases hb : 0 < s.2.2.2.1 ∨ 0 < s.2.2.1
  · rw [rln, if_pos hb]
    refine Ct.of (ls := [some (.ref (a 0)), none]) (by decide) (by decide) rfl rfl rfl ?_
    refine Ev.ald0 dX6_referenceLine_0 ?_
    refine Ev.mgv (kx := 18) dX6_referenceLine_1 fX6_158 hZ rfl ?_
    rw [h18]
    refine Ev.if_gt (tgt := 14) dX6_referenceLine_4 (by decide) (fun c4 => ?_) (fun c4 => ?_)
    · refine Ev.ald0 dX6_referenceLine_14 ?_
      refine Ev.iconst (v := 3) dX6_referenceLine_15 (by decide) ?_
      refine Ev.cvI (Yc := mX6_wrong) (ci := 6) dX6_referenceLine_16 lX6_145 vX6_wrong rfl (m_wrong (k := 3) rfl (by omega) hT hZ) ⟨_, hZ.2.1.1⟩ rfl rfl rfl rfl ?_
      rintro y16 M1 ⟨hy16, hZ⟩
      subst hy16
      refine Ev.iret dX6_referenceLine_19 rfl rfl ?_
      exact ⟨_, rfl, _, _, _, hZ, KT.rf.u (by decide), rfl, pk_us⟩
    · refine Ev.ald0 dX6_referenceLine_7 ?_
      refine Ev.mgv (kx := 16) dX6_referenceLine_8 fX6_161 hZ rfl ?_
      rw [h16]
      refine Ev.if_le (tgt := 20) dX6_referenceLine_11 (by decide) (fun c11 => ?_) (fun c11 => ?_)
      · rcases hb with h | h
        · exact absurd (Int32.not_le.mp (nI_nle h (by omega))) c4
        · exact absurd c11 (nI_nle h (by omega))
      · refine Ev.ald0 dX6_referenceLine_14 ?_
        refine Ev.iconst (v := 3) dX6_referenceLine_15 (by decide) ?_
        refine Ev.cvI (Yc := mX6_wrong) (ci := 6) dX6_referenceLine_16 lX6_145 vX6_wrong rfl (m_wrong (k := 3) rfl (by omega) hT hZ) ⟨_, hZ.2.1.1⟩ rfl rfl rfl rfl ?_
        rintro y16 M1 ⟨hy16, hZ⟩
        subst hy16
        refine Ev.iret dX6_referenceLine_19 rfl rfl ?_
        exact ⟨_, rfl, _, _, _, hZ, KT.rf.u (by decide), rfl, pk_us⟩
  · have r0 : s.2.2.2.1 = 0 := by omega
    have k0 : s.2.2.1 = 0 := by omega
    rw [rln, if_neg hb]
    have J : ∀ (y : Int32) (v1 : Nat → Int32) (L1 : Int64) (M : Wd), VT v v1 → Rn a M0 c n v1 X (nmb c n (tkE c n s.1) 1 999) y M → Ev G mX6_referenceLine 32 [some (.ref (a 0)), none] [.int y] M 0 0 (fun u M' => ∃ x, u = some (.int x) ∧ Rs a M0 c n v X (match nmb c n (tkE c n s.1) 1 999 with
        | .inl F => .inl F
        | .inr (w, p') => .inr (p', s.2.1, s.2.2.1, w, s.2.2.2.2)) x M') := by
      intro y v1 L1 M hv hRn
      cases hq : nmb c n (tkE c n s.1) 1 999 with
      | inl F =>
        rw [hq] at hRn
        obtain ⟨rfl, v2, L2, hZ, hv2⟩ := hRn
        refine Ev.ist1 dX6_referenceLine_32 rfl rfl ?_
        refine Ev.ald0 dX6_referenceLine_33 ?_
        refine Ev.ild1 dX6_referenceLine_34 ?_
        refine Ev.if_eq (tgt := 45) dX6_referenceLine_35 (by decide) (fun c35 => ?_) (fun c35 => by first | exact absurd rfl c35 | exact absurd c35 rfl)
        refine Ev.iconst (v := 0) dX6_referenceLine_45 (by decide) ?_
        refine Ev.mput (kx := 18) dX6_referenceLine_46 fX6_158 hZ rfl rfl (fun M hZ => ?_)
        refine Ev.ild1 dX6_referenceLine_49 ?_
        refine Ev.iret dX6_referenceLine_50 rfl rfl ?_
        exact ⟨_, rfl, _, _, _, hZ, (((VT.k hv).u (by decide)).tr hv2.k).u (by decide), rfl, by rw [pk_un (by decide), hv2 15 (by decide), pk_us]⟩
      | inr q =>
        rw [hq] at hRn
        obtain ⟨rfl, v2, L2, hZ, hv2, hT2⟩ := hRn
        have e21 : v2 21 = nI q.1 := by rw [hv2 21 (by decide), pk_us]
        have eo : ∀ j, j ∉ [10, 11, 12, 13] → j ≠ 21 → v2 j = v j := fun j h1 h2 => by rw [hv2 j h1, pk_un h2, hv j h1]
        have hq1 : q.1 ≤ 999 := by
          rw [nmb] at hq
          split at hq
          · split at hq
            · rename_i h
              cases hq
              exact h.2
            · cases hq
          · cases hq
        refine Ev.ist1 dX6_referenceLine_32 rfl rfl ?_
        refine Ev.ald0 dX6_referenceLine_33 ?_
        refine Ev.ild1 dX6_referenceLine_34 ?_
        refine Ev.if_eq (tgt := 45) dX6_referenceLine_35 (by decide) (fun c35 => by first | exact absurd c35 (by decide) | exact absurd (by decide) c35) (fun c35 => ?_)
        refine Ev.ald0 dX6_referenceLine_38 ?_
        refine Ev.mgv (kx := 21) dX6_referenceLine_39 fX6_148 hZ rfl ?_
        rw [e21]
        refine Ev.goto (tgt := 46) dX6_referenceLine_42 (by decide) ?_
        refine Ev.mput (kx := 18) dX6_referenceLine_46 fX6_158 hZ rfl rfl (fun M hZ => ?_)
        refine Ev.ild1 dX6_referenceLine_49 ?_
        refine Ev.iret dX6_referenceLine_50 rfl rfl ?_
        refine ⟨_, rfl, _, _, _, hZ, (((VT.k hv).u (by decide)).tr hv2.k).u (by decide), rfl, ⟨hT2.u (by decide), ?_, hk, hAr, pk_us, hq1, ?_, hl, fun z => ?_⟩⟩
        · rw [pk_un (by decide), eo 16 (by decide) (by decide), h16]
        · rw [pk_un (by decide), eo 19 (by decide) (by decide), h19]
        · rw [pk_un (by decide), eo 20 (by decide) (by decide)]
          exact h20 z
    refine Ct.of (ls := [some (.ref (a 0)), none]) (by decide) (by decide) rfl rfl rfl ?_
    refine Ev.ald0 dX6_referenceLine_0 ?_
    refine Ev.mgv (kx := 18) dX6_referenceLine_1 fX6_158 hZ rfl ?_
    rw [h18]
    refine Ev.if_gt (tgt := 14) dX6_referenceLine_4 (by decide) (fun c4 => by first | exact absurd c4 (by rw [r0]; decide) | exact absurd (by rw [r0]; decide) c4) (fun c4 => ?_)
    refine Ev.ald0 dX6_referenceLine_7 ?_
    refine Ev.mgv (kx := 16) dX6_referenceLine_8 fX6_161 hZ rfl ?_
    rw [h16]
    refine Ev.if_le (tgt := 20) dX6_referenceLine_11 (by decide) (fun c11 => ?_) (fun c11 => by first | exact absurd (by rw [k0]; decide) c11 | exact absurd c11 (by rw [k0]; decide))
    refine Ev.ald0 dX6_referenceLine_20 ?_
    refine Ev.cvV (Yc := mX6_go) (ci := 6) dX6_referenceLine_21 lX6_151 vX6_go rfl (m_goT hT hZ) ⟨_, hZ.2.1.1⟩ rfl rfl rfl rfl ?_
    rintro M1 ⟨v1, L1, hZ, hv, hT1⟩
    refine Ev.ald0 dX6_referenceLine_24 ?_
    refine Ev.iconst (v := 1) dX6_referenceLine_25 (by decide) ?_
    refine Ev.sipush (v := 999) dX6_referenceLine_26 (by decide) ?_
    refine Ev.cvI (Yc := mX6_number) (ci := 6) dX6_referenceLine_29 lX6_164 vX6_number rfl (m_number 1 999 rfl rfl (by omega) (by omega) hT1 hZ) ⟨_, hZ.2.1.1⟩ rfl rfl rfl rfl ?_
    rintro y29 M2 hRn
    exact J y29 v1 L1 M2 hv hRn
set_option maxRecDepth 20000 in
theorem m_collarLine (hS : ST c n s v L X) (hZ : MZ a M0 v L X M) : CtI G mX6_collarLine [.ref (a 0)] M 0 0 (Rs a M0 c n v X (cln c n s)) := by
  obtain ⟨hT, h16, hk, hAr, h18, hr, h19, hl, h20⟩ := hS
  by_cases hb : 0 < s.2.2.2.2.1 ∨ 0 < s.2.2.1
  · rw [cln, if_pos hb]
    refine Ct.of (ls := [some (.ref (a 0)), none]) (by decide) (by decide) rfl rfl rfl ?_
    refine Ev.ald0 dX6_collarLine_0 ?_
    refine Ev.mgv (kx := 19) dX6_collarLine_1 fX6_167 hZ rfl ?_
    rw [h19]
    refine Ev.if_gt (tgt := 14) dX6_collarLine_4 (by decide) (fun c4 => ?_) (fun c4 => ?_)
    · refine Ev.ald0 dX6_collarLine_14 ?_
      refine Ev.iconst (v := 3) dX6_collarLine_15 (by decide) ?_
      refine Ev.cvI (Yc := mX6_wrong) (ci := 6) dX6_collarLine_16 lX6_145 vX6_wrong rfl (m_wrong (k := 3) rfl (by omega) hT hZ) ⟨_, hZ.2.1.1⟩ rfl rfl rfl rfl ?_
      rintro y16 M1 ⟨hy16, hZ⟩
      subst hy16
      refine Ev.iret dX6_collarLine_19 rfl rfl ?_
      exact ⟨_, rfl, _, _, _, hZ, KT.rf.u (by decide), rfl, pk_us⟩
    · refine Ev.ald0 dX6_collarLine_7 ?_
      refine Ev.mgv (kx := 16) dX6_collarLine_8 fX6_161 hZ rfl ?_
      rw [h16]
      refine Ev.if_le (tgt := 20) dX6_collarLine_11 (by decide) (fun c11 => ?_) (fun c11 => ?_)
      · rcases hb with h | h
        · exact absurd (Int32.not_le.mp (nI_nle h (by omega))) c4
        · exact absurd c11 (nI_nle h (by omega))
      · refine Ev.ald0 dX6_collarLine_14 ?_
        refine Ev.iconst (v := 3) dX6_collarLine_15 (by decide) ?_
        refine Ev.cvI (Yc := mX6_wrong) (ci := 6) dX6_collarLine_16 lX6_145 vX6_wrong rfl (m_wrong (k := 3) rfl (by omega) hT hZ) ⟨_, hZ.2.1.1⟩ rfl rfl rfl rfl ?_
        rintro y16 M1 ⟨hy16, hZ⟩
        subst hy16
        refine Ev.iret dX6_collarLine_19 rfl rfl ?_
        exact ⟨_, rfl, _, _, _, hZ, KT.rf.u (by decide), rfl, pk_us⟩
  · have r0 : s.2.2.2.2.1 = 0 := by omega
    have k0 : s.2.2.1 = 0 := by omega
    rw [cln, if_neg hb]
    have bd : ∀ (p l h : Nat) (q : Nat × Nat), nmb c n p l h = .inr q → l ≤ q.1 ∧ q.1 ≤ h := by
      intro p l h q hq
      rw [nmb] at hq
      split at hq
      · split at hq
        · rename_i h
          cases hq
          exact h
        · cases hq
      · cases hq
    have J2 : ∀ (w p' : Nat) (y : Int32) (v1 : Nat → Int32) (L1 : Int64) (M : Wd), 1 ≤ w → w ≤ 999 → (∀ j, j ∉ [10, 11, 12, 13] → j ≠ 21 → j ≠ 19 → v1 j = v j) → KT v v1 X X → v1 19 = nI w → Rn a M0 c n v1 X (nmb c n p' w 999) y M → Ev G mX6_collarLine 56 [some (.ref (a 0)), none] [.int y] M 0 0 (fun u M' => ∃ x, u = some (.int x) ∧ Rs a M0 c n v X (cln2 c n s p' w) x M') := by
      intro w p' y v1 L1 M hw1 hw2 eo hK e19 hRn
      rw [cln2]
      cases hq : nmb c n p' w 999 with
      | inl F =>
        rw [hq] at hRn
        obtain ⟨rfl, v2, L2, hZ, hv2⟩ := hRn
        refine Ev.ist1 dX6_collarLine_56 rfl rfl ?_
        refine Ev.ald0 dX6_collarLine_57 ?_
        refine Ev.ald0 dX6_collarLine_58 ?_
        refine Ev.mgv (kx := 21) dX6_collarLine_59 fX6_148 hZ rfl ?_
        refine Ev.mput (kx := 20) dX6_collarLine_62 fX6_170 hZ rfl rfl (fun M hZ => ?_)
        refine Ev.ild1 dX6_collarLine_65 ?_
        refine Ev.iret dX6_collarLine_66 rfl rfl ?_
        exact ⟨_, rfl, _, _, _, hZ, ((hK.u (by decide)).tr hv2.k).u (by decide), rfl, by rw [pk_un (by decide), hv2 15 (by decide), pk_us]⟩
      | inr q =>
        rw [hq] at hRn
        obtain ⟨rfl, v2, L2, hZ, hv2, hT2⟩ := hRn
        have e21 : v2 21 = nI q.1 := by rw [hv2 21 (by decide), pk_us]
        have eo2 : ∀ j, j ∉ [10, 11, 12, 13] → j ≠ 21 → v2 j = v1 j := fun j h1 h2 => by rw [hv2 j h1, pk_un h2]
        refine Ev.ist1 dX6_collarLine_56 rfl rfl ?_
        refine Ev.ald0 dX6_collarLine_57 ?_
        refine Ev.ald0 dX6_collarLine_58 ?_
        refine Ev.mgv (kx := 21) dX6_collarLine_59 fX6_148 hZ rfl ?_
        rw [e21]
        refine Ev.mput (kx := 20) dX6_collarLine_62 fX6_170 hZ rfl rfl (fun M hZ => ?_)
        refine Ev.ild1 dX6_collarLine_65 ?_
        refine Ev.iret dX6_collarLine_66 rfl rfl ?_
        refine ⟨_, rfl, _, _, _, hZ, ((hK.u (by decide)).tr hv2.k).u (by decide), rfl, ⟨hT2.u (by decide), ?_, hk, hAr, ?_, hr, ?_, hw2, fun z => pk_us⟩⟩
        · rw [pk_un (by decide), eo2 16 (by decide) (by decide), eo 16 (by decide) (by decide) (by decide), h16]
        · rw [pk_un (by decide), eo2 18 (by decide) (by decide), eo 18 (by decide) (by decide) (by decide), h18]
        · rw [pk_un (by decide), eo2 19 (by decide) (by decide), e19]
    have J : ∀ (y : Int32) (v1 : Nat → Int32) (L1 : Int64) (M : Wd), VT v v1 → Rn a M0 c n v1 X (nmb c n (tkE c n s.1) 1 999) y M → Ev G mX6_collarLine 32 [some (.ref (a 0)), none] [.int y] M 0 0 (fun u M' => ∃ x, u = some (.int x) ∧ Rs a M0 c n v X (match nmb c n (tkE c n s.1) 1 999 with
        | .inl F => .inl F
        | .inr (w, p') => cln2 c n s p' w) x M') := by
      intro y v1 L1 M hv hRn
      cases hq : nmb c n (tkE c n s.1) 1 999 with
      | inl F =>
        rw [hq] at hRn
        obtain ⟨rfl, v2, L2, hZ, hv2⟩ := hRn
        refine Ev.if_ne (tgt := 37) dX6_collarLine_32 (by decide) (fun c32 => by first | exact absurd c32 rfl | exact absurd rfl c32) (fun c32 => ?_)
        refine Ev.iconst (v := 0) dX6_collarLine_35 (by decide) ?_
        refine Ev.iret dX6_collarLine_36 rfl rfl ?_
        exact ⟨_, rfl, _, _, _, hZ, ((VT.k hv).u (by decide)).tr hv2.k, rfl, by rw [hv2 15 (by decide), pk_us]⟩
      | inr q =>
        have hb := bd _ _ _ _ hq
        rw [hq] at hRn
        obtain ⟨rfl, v2, L2, hZ, hv2, hT2⟩ := hRn
        have e21 : v2 21 = nI q.1 := by rw [hv2 21 (by decide), pk_us]
        have eo : ∀ j, j ∉ [10, 11, 12, 13] → j ≠ 21 → v2 j = v j := fun j h1 h2 => by rw [hv2 j h1, pk_un h2, hv j h1]
        refine Ev.if_ne (tgt := 37) dX6_collarLine_32 (by decide) (fun c32 => ?_) (fun c32 => by first | exact absurd (by decide) c32 | exact absurd c32 (by decide))
        refine Ev.ald0 dX6_collarLine_37 ?_
        refine Ev.ald0 dX6_collarLine_38 ?_
        refine Ev.mgv (kx := 21) dX6_collarLine_39 fX6_148 hZ rfl ?_
        rw [e21]
        refine Ev.mput (kx := 19) dX6_collarLine_42 fX6_167 hZ rfl rfl (fun M hZ => ?_)
        refine Ev.ald0 dX6_collarLine_45 ?_
        refine Ev.ald0 dX6_collarLine_46 ?_
        refine Ev.mgv (kx := 19) dX6_collarLine_47 fX6_167 hZ rfl ?_
        rw [pk_us]
        refine Ev.sipush (v := 999) dX6_collarLine_50 (by decide) ?_
        refine Ev.cvI (Yc := mX6_number) (ci := 6) dX6_collarLine_53 lX6_164 vX6_number rfl (m_number q.1 999 rfl rfl (by omega) (by omega) (hT2.u (k := 19) (by decide)) hZ) ⟨_, hZ.2.1.1⟩ rfl rfl rfl rfl ?_
        rintro y53 M2 hRn
        exact J2 q.1 q.2 y53 _ L2 M2 hb.1 hb.2 (fun j h1 h2 h3 => by rw [pk_un h3]; exact eo j h1 h2) ((((VT.k hv).u (by decide)).tr hv2.k).u (by decide)) pk_us hRn
    refine Ct.of (ls := [some (.ref (a 0)), none]) (by decide) (by decide) rfl rfl rfl ?_
    refine Ev.ald0 dX6_collarLine_0 ?_
    refine Ev.mgv (kx := 19) dX6_collarLine_1 fX6_167 hZ rfl ?_
    rw [h19]
    refine Ev.if_gt (tgt := 14) dX6_collarLine_4 (by decide) (fun c4 => by first | exact absurd c4 (by rw [r0]; decide) | exact absurd (by rw [r0]; decide) c4) (fun c4 => ?_)
    refine Ev.ald0 dX6_collarLine_7 ?_
    refine Ev.mgv (kx := 16) dX6_collarLine_8 fX6_161 hZ rfl ?_
    rw [h16]
    refine Ev.if_le (tgt := 20) dX6_collarLine_11 (by decide) (fun c11 => ?_) (fun c11 => by first | exact absurd (by rw [k0]; decide) c11 | exact absurd c11 (by rw [k0]; decide))
    refine Ev.ald0 dX6_collarLine_20 ?_
    refine Ev.cvV (Yc := mX6_go) (ci := 6) dX6_collarLine_21 lX6_151 vX6_go rfl (m_goT hT hZ) ⟨_, hZ.2.1.1⟩ rfl rfl rfl rfl ?_
    rintro M1 ⟨v1, L1, hZ, hv, hT1⟩
    refine Ev.ald0 dX6_collarLine_24 ?_
    refine Ev.iconst (v := 1) dX6_collarLine_25 (by decide) ?_
    refine Ev.sipush (v := 999) dX6_collarLine_26 (by decide) ?_
    refine Ev.cvI (Yc := mX6_number) (ci := 6) dX6_collarLine_29 lX6_164 vX6_number rfl (m_number 1 999 rfl rfl (by omega) (by omega) hT1 hZ) ⟨_, hZ.2.1.1⟩ rfl rfl rfl rfl ?_
    rintro y29 M2 hRn
    exact J y29 v1 L1 M2 hv hRn
set_option maxRecDepth 20000 in
theorem m_kindHere (hT : TC c n p v L X) (hZ : MZ a M0 v L X M) : CtI G mX6_kindHere [.ref (a 0)] M 5 30 (fun x M' => MZ a M0 v L X M' ∧ x = (match kdh c n p with
    | none => -1
    | some k => nI k)) := by
  refine Ct.of (ls := [some (.ref (a 0))]) (by decide) (by decide) rfl rfl rfl ?_
  refine Ev.ald0 dX6_kindHere_0 ?_
  refine Ev.bipush (v := 109) dX6_kindHere_1 (by decide) ?_
  refine Ev.bipush (v := 97) dX6_kindHere_3 (by decide) ?_
  refine Ev.bipush (v := 114) dX6_kindHere_5 (by decide) ?_
  refine Ev.bipush (v := 107) dX6_kindHere_7 (by decide) ?_
  refine Ev.bipush (v := 101) dX6_kindHere_9 (by decide) ?_
  refine Ev.bipush (v := 116) dX6_kindHere_11 (by decide) ?_
  refine Ev.csLn (Yc := mX6_spelt) dX6_kindHere_13 lX6_132 vX6_spelt rfl (m_spelt (W := Wma) (by decide +kernel)) rfl rfl rfl (by omega) (by omega) ?_
  rintro y M1 ⟨rfl, hF⟩
  have hZ := hZ.fw hF
  refine Ev.cvI (Yc := mX6_isWord) (ci := 6) dX6_kindHere_16 lX6_154 vX6_isWord rfl (m_isWord (W := Wma) (wok_of _ rfl) hT hZ) ⟨_, hZ.2.1.1⟩ rfl rfl rfl rfl ?_
  rintro y16 M9 ⟨hy16, rfl⟩
  refine Ev.if_eq (tgt := 24) dX6_kindHere_19 (by decide) (fun c19 => ?_) (fun c19 => ?_)
  · refine Ev.ald0 dX6_kindHere_24 ?_
    refine Ev.bipush (v := 108) dX6_kindHere_25 (by decide) ?_
    refine Ev.bipush (v := 105) dX6_kindHere_27 (by decide) ?_
    refine Ev.bipush (v := 109) dX6_kindHere_29 (by decide) ?_
    refine Ev.bipush (v := 105) dX6_kindHere_31 (by decide) ?_
    refine Ev.bipush (v := 116) dX6_kindHere_33 (by decide) ?_
    refine Ev.iconst (v := 0) dX6_kindHere_35 (by decide) ?_
    refine Ev.csLn (Yc := mX6_spelt) dX6_kindHere_36 lX6_132 vX6_spelt rfl (m_spelt (W := Wli) (by decide +kernel)) rfl rfl rfl (by omega) (by omega) ?_
    rintro y M1 ⟨rfl, hF⟩
    have hZ := hZ.fw hF
    refine Ev.cvI (Yc := mX6_isWord) (ci := 6) dX6_kindHere_39 lX6_154 vX6_isWord rfl (m_isWord (W := Wli) (wok_of _ rfl) hT hZ) ⟨_, hZ.2.1.1⟩ rfl rfl rfl rfl ?_
    rintro y39 M9 ⟨hy39, rfl⟩
    refine Ev.if_eq (tgt := 47) dX6_kindHere_42 (by decide) (fun c42 => ?_) (fun c42 => ?_)
    · refine Ev.ald0 dX6_kindHere_47 ?_
      refine Ev.bipush (v := 104) dX6_kindHere_48 (by decide) ?_
      refine Ev.bipush (v := 105) dX6_kindHere_50 (by decide) ?_
      refine Ev.bipush (v := 100) dX6_kindHere_52 (by decide) ?_
      refine Ev.bipush (v := 100) dX6_kindHere_54 (by decide) ?_
      refine Ev.bipush (v := 101) dX6_kindHere_56 (by decide) ?_
      refine Ev.bipush (v := 110) dX6_kindHere_58 (by decide) ?_
      refine Ev.csLn (Yc := mX6_spelt) dX6_kindHere_60 lX6_132 vX6_spelt rfl (m_spelt (W := Whi) (by decide +kernel)) rfl rfl rfl (by omega) (by omega) ?_
      rintro y M1 ⟨rfl, hF⟩
      have hZ := hZ.fw hF
      refine Ev.cvI (Yc := mX6_isWord) (ci := 6) dX6_kindHere_63 lX6_154 vX6_isWord rfl (m_isWord (W := Whi) (wok_of _ rfl) hT hZ) ⟨_, hZ.2.1.1⟩ rfl rfl rfl rfl ?_
      rintro y63 M9 ⟨hy63, rfl⟩
      refine Ev.if_eq (tgt := 71) dX6_kindHere_66 (by decide) (fun c66 => ?_) (fun c66 => ?_)
      · refine Ev.ald0 dX6_kindHere_71 ?_
        refine Ev.bipush (v := 105) dX6_kindHere_72 (by decide) ?_
        refine Ev.bipush (v := 99) dX6_kindHere_74 (by decide) ?_
        refine Ev.bipush (v := 101) dX6_kindHere_76 (by decide) ?_
        refine Ev.iconst (v := 0) dX6_kindHere_78 (by decide) ?_
        refine Ev.iconst (v := 0) dX6_kindHere_79 (by decide) ?_
        refine Ev.iconst (v := 0) dX6_kindHere_80 (by decide) ?_
        refine Ev.csLn (Yc := mX6_spelt) dX6_kindHere_81 lX6_132 vX6_spelt rfl (m_spelt (W := Wic) (by decide +kernel)) rfl rfl rfl (by omega) (by omega) ?_
        rintro y M1 ⟨rfl, hF⟩
        have hZ := hZ.fw hF
        refine Ev.cvI (Yc := mX6_isWord) (ci := 6) dX6_kindHere_84 lX6_154 vX6_isWord rfl (m_isWord (W := Wic) (wok_of _ rfl) hT hZ) ⟨_, hZ.2.1.1⟩ rfl rfl rfl rfl ?_
        rintro y84 M9 ⟨hy84, rfl⟩
        refine Ev.if_eq (tgt := 92) dX6_kindHere_87 (by decide) (fun c87 => ?_) (fun c87 => ?_)
        · refine Ev.ald0 dX6_kindHere_92 ?_
          refine Ev.bipush (v := 101) dX6_kindHere_93 (by decide) ?_
          refine Ev.bipush (v := 118) dX6_kindHere_95 (by decide) ?_
          refine Ev.bipush (v := 101) dX6_kindHere_97 (by decide) ?_
          refine Ev.bipush (v := 110) dX6_kindHere_99 (by decide) ?_
          refine Ev.iconst (v := 0) dX6_kindHere_101 (by decide) ?_
          refine Ev.iconst (v := 0) dX6_kindHere_102 (by decide) ?_
          refine Ev.csLn (Yc := mX6_spelt) dX6_kindHere_103 lX6_132 vX6_spelt rfl (m_spelt (W := Wev) (by decide +kernel)) rfl rfl rfl (by omega) (by omega) ?_
          rintro y M1 ⟨rfl, hF⟩
          have hZ := hZ.fw hF
          refine Ev.cvI (Yc := mX6_isWord) (ci := 6) dX6_kindHere_106 lX6_154 vX6_isWord rfl (m_isWord (W := Wev) (wok_of _ rfl) hT hZ) ⟨_, hZ.2.1.1⟩ rfl rfl rfl rfl ?_
          rintro y106 M9 ⟨hy106, rfl⟩
          refine Ev.if_eq (tgt := 116) dX6_kindHere_109 (by decide) (fun c109 => ?_) (fun c109 => ?_)
          · refine Ev.iconst (v := -1) dX6_kindHere_116 (by decide) ?_
            refine Ev.iret dX6_kindHere_117 rfl rfl ?_
            refine ⟨_, rfl, hZ, ?_⟩
            rw [kdh, if_neg (v01_f hy16 c19), if_neg (v01_f hy39 c42), if_neg (v01_f hy63 c66), if_neg (v01_f hy84 c87), if_neg (v01_f hy106 c109)]
          · refine Ev.iconst (v := 4) dX6_kindHere_112 (by decide) ?_
            refine Ev.goto (tgt := 117) dX6_kindHere_113 (by decide) ?_
            refine Ev.iret dX6_kindHere_117 rfl rfl ?_
            refine ⟨_, rfl, hZ, ?_⟩
            rw [kdh, if_neg (v01_f hy16 c19), if_neg (v01_f hy39 c42), if_neg (v01_f hy63 c66), if_neg (v01_f hy84 c87), if_pos (v01_t hy106 c109)]
            rfl
        · refine Ev.iconst (v := 3) dX6_kindHere_90 (by decide) ?_
          refine Ev.iret dX6_kindHere_91 rfl rfl ?_
          refine ⟨_, rfl, hZ, ?_⟩
          rw [kdh, if_neg (v01_f hy16 c19), if_neg (v01_f hy39 c42), if_neg (v01_f hy63 c66), if_pos (v01_t hy84 c87)]
          rfl
      · refine Ev.iconst (v := 2) dX6_kindHere_69 (by decide) ?_
        refine Ev.iret dX6_kindHere_70 rfl rfl ?_
        refine ⟨_, rfl, hZ, ?_⟩
        rw [kdh, if_neg (v01_f hy16 c19), if_neg (v01_f hy39 c42), if_pos (v01_t hy63 c66)]
        rfl
    · refine Ev.iconst (v := 1) dX6_kindHere_45 (by decide) ?_
      refine Ev.iret dX6_kindHere_46 rfl rfl ?_
      refine ⟨_, rfl, hZ, ?_⟩
      rw [kdh, if_neg (v01_f hy16 c19), if_pos (v01_t hy39 c42)]
      rfl
  · refine Ev.iconst (v := 0) dX6_kindHere_22 (by decide) ?_
    refine Ev.iret dX6_kindHere_23 rfl rfl ?_
    refine ⟨_, rfl, hZ, ?_⟩
    rw [kdh, if_pos (v01_t hy16 c19)]
    rfl
set_option maxRecDepth 20000 in
theorem m_keeps {f lo hi : Int32} {k : Nat} (fi lo' hi' : Nat) (hfi : f = nI fi) (hlo : lo = nI lo') (hhi : hi = nI hi') (hf : fi < 8) (hl : lo' < 100000) (hh : hi' < 100000) (hT : TC c n p v L X) (h16 : v 16 = nI k) (hk : k < 40) (hZ : MZ a M0 v L X M) : CtI G mX6_keeps [.ref (a 0), .int f, .int lo, .int hi] M 0 0 (fun x M' => match nmb c n p lo' hi' with
    | .inl F => x = 0 ∧ ∃ (v' : Nat → Int32) (L' : Int64) (X' : Nat → Nat → Int32), MZ a M0 v' L' X' M' ∧ KT v v' X X' ∧ v' 15 = nI F
    | .inr q => x = 1 ∧ ∃ (v' : Nat → Int32) (L' : Int64), MZ a M0 v' L' (ux X 17 (upd (X 17) (8 * k + fi) (nI q.1))) M' ∧ VT (upd v 21 (nI q.1)) v' ∧ TC c n q.2 v' L' X) := by
  subst hfi; subst hlo; subst hhi
  have J : ∀ (y : Int32) (M : Wd), Rn a M0 c n v X (nmb c n p lo' hi') y M → Ev G mX6_keeps 6 [some (.ref (a 0)), some (.int (nI fi)), some (.int (nI lo')), some (.int (nI hi')), none] [.int y] M 0 0 (fun u M' => ∃ x, u = some (.int x) ∧ match nmb c n p lo' hi' with
    | .inl F => x = 0 ∧ ∃ (v' : Nat → Int32) (L' : Int64) (X' : Nat → Nat → Int32), MZ a M0 v' L' X' M' ∧ KT v v' X X' ∧ v' 15 = nI F
    | .inr q => x = 1 ∧ ∃ (v' : Nat → Int32) (L' : Int64), MZ a M0 v' L' (ux X 17 (upd (X 17) (8 * k + fi) (nI q.1))) M' ∧ VT (upd v 21 (nI q.1)) v' ∧ TC c n q.2 v' L' X) := by
    intro y M hRn
    cases hq : nmb c n p lo' hi' with
    | inl F =>
      rw [hq] at hRn
      obtain ⟨rfl, v2, L2, hZ, hv2⟩ := hRn
      have e16 : v2 16 = nI k := by rw [hv2 16 (by decide), pk_un (by decide), h16]
      refine Ev.ist4 dX6_keeps_6 rfl rfl ?_
      refine Ev.ald0 dX6_keeps_8 ?_
      refine Ev.mgr (kx := 17) dX6_keeps_9 fX6_27 hZ rfl ?_
      refine Ev.bipush (v := 8) dX6_keeps_12 (by decide) ?_
      refine Ev.ald0 dX6_keeps_14 ?_
      refine Ev.mgv (kx := 16) dX6_keeps_15 fX6_161 hZ rfl ?_
      rw [e16]
      refine Ev.imul dX6_keeps_18 ?_
      refine Ev.ild1 dX6_keeps_19 ?_
      refine Ev.iadd dX6_keeps_20 ?_
      refine Ev.ild4 dX6_keeps_21 ?_
      refine Ev.if_eq (tgt := 33) dX6_keeps_23 (by decide) (fun c23 => ?_) (fun c23 => by first | exact absurd rfl c23 | exact absurd c23 rfl)
      refine Ev.iconst (v := 0) dX6_keeps_33 (by decide) ?_
      refine Ev.mst (j := 8 * k + fi) mq17 dX6_keeps_34 hZ (by first | assumption | (simp only [nI, Int32.ofNat_add, Int32.ofNat_mul]; done) | (simp only [nI, Int32.ofNat_add, Int32.ofNat_mul]; rfl) | rfl) (by omega) (fun M hZ => ?_)
      (try simp only [ux_u, ux_s, ux_n, ne_eq, Nat.reduceEqDiff, Nat.succ_ne_self, not_false_eq_true] at hZ)
      refine Ev.ild4 dX6_keeps_35 ?_
      refine Ev.iret dX6_keeps_37 rfl rfl ?_
      exact ⟨_, rfl, rfl, _, _, _, hZ, ((KT.rf.u (by decide)).tr hv2.k).x, by rw [hv2 15 (by decide), pk_us]⟩
    | inr q =>
      rw [hq] at hRn
      obtain ⟨rfl, v2, L2, hZ, hv2, hT2⟩ := hRn
      have e16 : v2 16 = nI k := by rw [hv2 16 (by decide), pk_un (by decide), h16]
      have e21 : v2 21 = nI q.1 := by rw [hv2 21 (by decide), pk_us]
      refine Ev.ist4 dX6_keeps_6 rfl rfl ?_
      refine Ev.ald0 dX6_keeps_8 ?_
      refine Ev.mgr (kx := 17) dX6_keeps_9 fX6_27 hZ rfl ?_
      refine Ev.bipush (v := 8) dX6_keeps_12 (by decide) ?_
      refine Ev.ald0 dX6_keeps_14 ?_
      refine Ev.mgv (kx := 16) dX6_keeps_15 fX6_161 hZ rfl ?_
      rw [e16]
      refine Ev.imul dX6_keeps_18 ?_
      refine Ev.ild1 dX6_keeps_19 ?_
      refine Ev.iadd dX6_keeps_20 ?_
      refine Ev.ild4 dX6_keeps_21 ?_
      refine Ev.if_eq (tgt := 33) dX6_keeps_23 (by decide) (fun c23 => by first | exact absurd c23 (by decide) | exact absurd (by decide) c23) (fun c23 => ?_)
      refine Ev.ald0 dX6_keeps_26 ?_
      refine Ev.mgv (kx := 21) dX6_keeps_27 fX6_148 hZ rfl ?_
      rw [e21]
      refine Ev.goto (tgt := 34) dX6_keeps_30 (by decide) ?_
      refine Ev.mst (j := 8 * k + fi) mq17 dX6_keeps_34 hZ (by first | assumption | (simp only [nI, Int32.ofNat_add, Int32.ofNat_mul]; done) | (simp only [nI, Int32.ofNat_add, Int32.ofNat_mul]; rfl) | rfl) (by omega) (fun M hZ => ?_)
      (try simp only [ux_u, ux_s, ux_n, ne_eq, Nat.reduceEqDiff, Nat.succ_ne_self, not_false_eq_true] at hZ)
      refine Ev.ild4 dX6_keeps_35 ?_
      refine Ev.iret dX6_keeps_37 rfl rfl ?_
      exact ⟨_, rfl, rfl, _, _, hZ, hv2, hT2⟩
  refine Ct.of (ls := [some (.ref (a 0)), some (.int (nI fi)), some (.int (nI lo')), some (.int (nI hi')), none]) (by decide) (by decide) rfl rfl rfl ?_
  refine Ev.ald0 dX6_keeps_0 ?_
  refine Ev.ild2 dX6_keeps_1 ?_
  refine Ev.ild3 dX6_keeps_2 ?_
  refine Ev.cvI (Yc := mX6_number) (ci := 6) dX6_keeps_3 lX6_164 vX6_number rfl (m_number lo' hi' rfl rfl hl hh hT hZ) ⟨_, hZ.2.1.1⟩ rfl rfl rfl rfl ?_
  rintro y3 M2 hRn
  exact J y3 M2 hRn
end TKD
