/-! the reference's price -/
def mxv (V : Nat → Int32) (lo : Nat) : Nat → Int32
  | 0 => 0
  | d + 1 => if mxv V lo d < V (lo + d) then V (lo + d) else mxv V lo d
def sl2 (V R : Nat → Int32) (lo : Nat) (most : Int32) : Nat → Int32 × Int32 × Int32
  | 0 => (0, -1, 1000000)
  | d + 1 => if V (lo + d) = most then ((sl2 V R lo most d).1 + 1, nI (lo + d), mn (sl2 V R lo most d).2.2 (ab (R (lo + d)))) else sl2 V R lo most d
abbrev I6 : Type := Int32 × Int32 × Int32 × Int32 × Int32 × Int32
/-- how many, above, below, lowest, highest, nearest -/
def pr6 (V R : Nat → Int32) (lo : Nat) (most least rf : Int32) : Nat → I6
  | 0 => (0, 0, 0, -1, -1, -1)
  | d + 1 => if V (lo + d) = most ∧ ab (R (lo + d)) = least then
      ((pr6 V R lo most least rf d).1 + 1, (pr6 V R lo most least rf d).2.1 + (if 0 < R (lo + d) then 1 else 0), (pr6 V R lo most least rf d).2.2.1 + (if R (lo + d) < 0 then 1 else 0), (if (pr6 V R lo most least rf d).2.2.2.1 < 0 then nI (lo + d) else (pr6 V R lo most least rf d).2.2.2.1), nI (lo + d), (if (pr6 V R lo most least rf d).2.2.2.2.2 < 0 ∨ ab (nI (lo + d) - rf) ≤ ab ((pr6 V R lo most least rf d).2.2.2.2.2 - rf) then nI (lo + d) else (pr6 V R lo most least rf d).2.2.2.2.2))
      else pr6 V R lo most least rf d
def pky (P : I6) : Int32 := if P.1 = 1 then 1 else if P.2.1 = P.1 ∨ P.2.2.1 = P.1 then 2 else 3
def ppr (P : I6) : Int32 := if P.1 = 1 ∨ P.2.1 = P.1 then P.2.2.2.2.1 else if P.2.2.1 = P.1 then P.2.2.2.1 else P.2.2.2.2.2
def VV (X : Nat → Nat → Int32) (p : Nat) : Int32 := vof (X 24 p, X 25 p, X 26 p, X 27 p)
def RR (X : Nat → Nat → Int32) (p : Nat) : Int32 := ref (X 24 p, X 25 p, X 26 p, X 27 p)
section MOD
variable {G : GP} {M0 M : Wd} {a : Nat → Nat} {v : Nat → Int32} {L : Int64} {X : Nat → Nat → Int32} {lo hi : Nat}
theorem m_vol {x : Int32} (p : Nat) (hp : x = nI p) (hW : MX a v L X M) (hl : p < 1001) : CtI G mX6_volumeAt [.ref (a 0), .int x] M 0 0 (fun y M' => y = VV X p ∧ M' = M) := m_volumeAt p hp hW.1 hW.g24 hW.g25 hW.g26 hW.g27 hl
theorem m_res {x : Int32} (p : Nat) (hp : x = nI p) (hW : MX a v L X M) (hl : p < 1001) : CtI G mX6_restAt [.ref (a 0), .int x] M 0 0 (fun y M' => y = RR X p ∧ M' = M) := m_restAt p hp hW.1 hW.g24 hW.g25 hW.g26 hW.g27 hl
set_option maxRecDepth 20000 in
theorem m_presses {most least : Int32} (hj : InjM a) (hW : MX a v L X M) (hF : Fr (mdl a) M0 M) (hlo : X 1 331 = nI lo) (hhi : X 1 332 = nI hi) (h1 : lo ≤ hi + 1) (h2 : hi ≤ 999) : CtV G mX6_presses [.ref (a 0), .int most, .int least] M 0 0 (fun M' => MX a (upd (upd v 29 (pky (pr6 (VV X) (RR X) lo most least (X 1 330) (hi + 1 - lo)))) 28 (ppr (pr6 (VV X) (RR X) lo most least (X 1 330) (hi + 1 - lo)))) L X M' ∧ Fr (mdl a) M0 M') := by
  have h0 := hW.1
  have g1 := hW.g1
  have e1 := lit_in 331 1189 (by omega) (by omega)
  have b1 : vp_in (331 : Int32) 1189 := e1.1
  have z1 : (331 : Int32).toNatClampNeg = 331 := e1.2
  have e2 := lit_in 332 1189 (by omega) (by omega)
  have b2 : vp_in (332 : Int32) 1189 := e2.1
  have z2 : (332 : Int32).toNatClampNeg = 332 := e2.2
  have e3 := lit_in 330 1189 (by omega) (by omega)
  have b3 : vp_in (330 : Int32) 1189 := e3.1
  have z3 : (330 : Int32).toNatClampNeg = 330 := e3.2
  generalize hQ : (fun (u : Option Value) (M' : Wd) => u = none ∧ MX a (upd (upd v 29 (pky (pr6 (VV X) (RR X) lo most least (X 1 330) (hi + 1 - lo)))) 28 (ppr (pr6 (VV X) (RR X) lo most least (X 1 330) (hi + 1 - lo)))) L X M' ∧ Fr (mdl a) M0 M') = Q
  -- the end: key and price
  have E2 : ∀ (P : I6) (x : Int32) (a9 : Option Value), P = pr6 (VV X) (RR X) lo most least (X 1 330) (hi + 1 - lo) → x = ppr P → Ev G mX6_presses 233 [some (.ref (a 0)), some (.int most), some (.int least), some (.int P.1), some (.int P.2.1), some (.int P.2.2.1), some (.int P.2.2.2.1), some (.int P.2.2.2.2.1), some (.int P.2.2.2.2.2), a9] [.int x, .ref (a 0)] (up M (a 0) (mo (upd v 29 (pky P)) L a)) 0 0 Q := by
    intro P x a9 hP hx
    have q0 := (hW.sv hj (w := upd v 29 (pky P)) (K := L)).1
    apply Ev.put dX6_presses_233 fX6_223
    · repeat (first | assumption | (refine gt_upI ?_; (repeat (first | refine In_up ?_ | refine In_nw ?_)); apply In_of; assumption) | refine gt_rd (by first | assumption | (apply Ne.symm; assumption) | (exact hj _ _ (by omega) (by omega) (by omega)) | omega) ?_ | exact gt_nw (by assumption) | refine gt_odr (by first | assumption | (apply Ne.symm; assumption) | omega) ?_)
    · rfl
    · rfl
    · rfl
    refine Ev.vret dX6_presses_236 rfl ?_
    rw [← hQ]
    refine ⟨rfl, ?_, (hF.pt (by simp [mdl])).pt (by simp [mdl])⟩
    rw [← hP, ← hx]
    exact MX.sv hj (hW.sv hj (w := upd v 29 (pky P)) (K := L))
  have E1 : ∀ (P : I6) (x : Int32) (a9 : Option Value), P = pr6 (VV X) (RR X) lo most least (X 1 330) (hi + 1 - lo) → x = pky P → Ev G mX6_presses 200 [some (.ref (a 0)), some (.int most), some (.int least), some (.int P.1), some (.int P.2.1), some (.int P.2.2.1), some (.int P.2.2.2.1), some (.int P.2.2.2.2.1), some (.int P.2.2.2.2.2), a9] [.int x, .ref (a 0)] M 0 0 Q := by
    intro P x a9 hP hx
    subst hx
    apply Ev.put dX6_presses_200 fX6_226
    · repeat (first | assumption | (refine gt_upI ?_; (repeat (first | refine In_up ?_ | refine In_nw ?_)); apply In_of; assumption) | refine gt_rd (by first | assumption | (apply Ne.symm; assumption) | (exact hj _ _ (by omega) (by omega) (by omega)) | omega) ?_ | exact gt_nw (by assumption) | refine gt_odr (by first | assumption | (apply Ne.symm; assumption) | omega) ?_)
    · rfl
    · rfl
    · rfl
    change Ev G mX6_presses _ _ _ (up M (a 0) (mo (upd v 29 (pky P)) L a)) 0 0 Q
    refine Ev.ald0 dX6_presses_203 ?_
    refine Ev.ild3 dX6_presses_204 ?_
    refine Ev.iconst (v := 1) dX6_presses_205 (by decide) ?_
    refine Ev.icmp_eq (tgt := 215) dX6_presses_206 (by decide) (fun c206 => ?_) (fun c206 => ?_)
    · refine Ev.ild7 dX6_presses_215 ?_
      refine Ev.goto (tgt := 233) dX6_presses_217 (by decide) ?_
      exact E2 P _ a9 hP (if_pos (Or.inl c206)).symm
    · refine Ev.ild4 dX6_presses_209 ?_
      refine Ev.ild3 dX6_presses_211 ?_
      refine Ev.icmp_ne (tgt := 220) dX6_presses_212 (by decide) (fun c212 => ?_) (fun c212 => ?_)
      · refine Ev.ild5 dX6_presses_220 ?_
        refine Ev.ild3 dX6_presses_222 ?_
        refine Ev.icmp_ne (tgt := 231) dX6_presses_223 (by decide) (fun c223 => ?_) (fun c223 => ?_)
        · refine Ev.ild8 dX6_presses_231 ?_
          exact E2 P _ a9 hP ((if_neg (fun q => q.elim c206 c212)).trans (if_neg c223)).symm
        · refine Ev.ild6 dX6_presses_226 ?_
          refine Ev.goto (tgt := 233) dX6_presses_228 (by decide) ?_
          exact E2 P _ a9 hP ((if_neg (fun q => q.elim c206 c212)).trans (if_pos c223)).symm
      · refine Ev.ild7 dX6_presses_215 ?_
        refine Ev.goto (tgt := 233) dX6_presses_217 (by decide) ?_
        exact E2 P _ a9 hP (if_pos (Or.inr c212)).symm
  have LL : ∀ (d k : Nat), lo + k + d = hi + 1 → Ev G mX6_presses 27 [some (.ref (a 0)), some (.int most), some (.int least), some (.int (pr6 (VV X) (RR X) lo most least (X 1 330) k).1), some (.int (pr6 (VV X) (RR X) lo most least (X 1 330) k).2.1), some (.int (pr6 (VV X) (RR X) lo most least (X 1 330) k).2.2.1), some (.int (pr6 (VV X) (RR X) lo most least (X 1 330) k).2.2.2.1), some (.int (pr6 (VV X) (RR X) lo most least (X 1 330) k).2.2.2.2.1), some (.int (pr6 (VV X) (RR X) lo most least (X 1 330) k).2.2.2.2.2), some (.int (nI (lo + k)))] [] M 0 0 Q := by
    intro d
    induction d with
    | zero =>
      intro k hk
      refine Ev.ild9 dX6_presses_27 ?_
      refine Ev.ald0 dX6_presses_29 ?_
      apply Ev.getf dX6_presses_30 fX6_13
      · repeat (first | assumption | (refine gt_upI ?_; (repeat (first | refine In_up ?_ | refine In_nw ?_)); apply In_of; assumption) | refine gt_rd (by first | assumption | (apply Ne.symm; assumption) | (exact hj _ _ (by omega) (by omega) (by omega)) | omega) ?_ | exact gt_nw (by assumption) | refine gt_odr (by first | assumption | (apply Ne.symm; assumption) | omega) ?_)
      · first | rfl | assumption
      refine Ev.sipush (v := 332) dX6_presses_33 (by decide) ?_
      apply Ev.iald dX6_presses_36
      · repeat (first | assumption | (refine gt_upI ?_; (repeat (first | refine In_up ?_ | refine In_nw ?_)); apply In_of; assumption) | refine gt_rd (by first | assumption | (apply Ne.symm; assumption) | (exact hj _ _ (by omega) (by omega) (by omega)) | omega) ?_ | exact gt_nw (by assumption) | refine gt_odr (by first | assumption | (apply Ne.symm; assumption) | omega) ?_)
      · assumption
      rw [z2, hhi]
      refine Ev.icmp_gt (tgt := 173) dX6_presses_37 (by decide) (fun c9 => ?_) (fun c9 => absurd (nI_lt (by omega) (by omega)) c9)
      rw [show k = hi + 1 - lo by omega]
      refine Ev.ald0 dX6_presses_173 ?_
      refine Ev.ild3 dX6_presses_174 ?_
      refine Ev.iconst (v := 1) dX6_presses_175 (by decide) ?_
      refine Ev.icmp_ne (tgt := 183) dX6_presses_176 (by decide) (fun c176 => ?_) (fun c176 => ?_)
      · refine Ev.ild4 dX6_presses_183 ?_
        refine Ev.ild3 dX6_presses_185 ?_
        refine Ev.icmp_eq (tgt := 195) dX6_presses_186 (by decide) (fun c186 => ?_) (fun c186 => ?_)
        · refine Ev.iconst (v := 2) dX6_presses_195 (by decide) ?_
          refine Ev.goto (tgt := 200) dX6_presses_196 (by decide) ?_
          exact E1 _ _ _ rfl ((if_neg c176).trans (if_pos (Or.inl c186))).symm
        · refine Ev.ild5 dX6_presses_189 ?_
          refine Ev.ild3 dX6_presses_191 ?_
          refine Ev.icmp_ne (tgt := 199) dX6_presses_192 (by decide) (fun c192 => ?_) (fun c192 => ?_)
          · refine Ev.iconst (v := 3) dX6_presses_199 (by decide) ?_
            exact E1 _ _ _ rfl ((if_neg c176).trans (if_neg (fun q => q.elim c186 c192))).symm
          · refine Ev.iconst (v := 2) dX6_presses_195 (by decide) ?_
            refine Ev.goto (tgt := 200) dX6_presses_196 (by decide) ?_
            exact E1 _ _ _ rfl ((if_neg c176).trans (if_pos (Or.inr c192))).symm
      · refine Ev.iconst (v := 1) dX6_presses_179 (by decide) ?_
        refine Ev.goto (tgt := 200) dX6_presses_180 (by decide) ?_
        exact E1 _ _ _ rfl (if_pos c176).symm
    | succ d ih =>
      intro k hk
      refine Ev.ild9 dX6_presses_27 ?_
      refine Ev.ald0 dX6_presses_29 ?_
      apply Ev.getf dX6_presses_30 fX6_13
      · repeat (first | assumption | (refine gt_upI ?_; (repeat (first | refine In_up ?_ | refine In_nw ?_)); apply In_of; assumption) | refine gt_rd (by first | assumption | (apply Ne.symm; assumption) | (exact hj _ _ (by omega) (by omega) (by omega)) | omega) ?_ | exact gt_nw (by assumption) | refine gt_odr (by first | assumption | (apply Ne.symm; assumption) | omega) ?_)
      · first | rfl | assumption
      refine Ev.sipush (v := 332) dX6_presses_33 (by decide) ?_
      apply Ev.iald dX6_presses_36
      · repeat (first | assumption | (refine gt_upI ?_; (repeat (first | refine In_up ?_ | refine In_nw ?_)); apply In_of; assumption) | refine gt_rd (by first | assumption | (apply Ne.symm; assumption) | (exact hj _ _ (by omega) (by omega) (by omega)) | omega) ?_ | exact gt_nw (by assumption) | refine gt_odr (by first | assumption | (apply Ne.symm; assumption) | omega) ?_)
      · assumption
      rw [z2, hhi]
      refine Ev.icmp_gt (tgt := 173) dX6_presses_37 (by decide) (fun c9 => absurd c9 (nI_nlt (by omega) (by omega))) (fun c9 => ?_)
      generalize hP : pr6 (VV X) (RR X) lo most least (X 1 330) k = P
      have hN : ∀ P', (if VV X (lo + k) = most ∧ ab (RR X (lo + k)) = least then (P.1 + 1, P.2.1 + (if 0 < RR X (lo + k) then 1 else 0), P.2.2.1 + (if RR X (lo + k) < 0 then 1 else 0), (if P.2.2.2.1 < 0 then nI (lo + k) else P.2.2.2.1), nI (lo + k), (if P.2.2.2.2.2 < 0 ∨ ab (nI (lo + k) - X 1 330) ≤ ab (P.2.2.2.2.2 - X 1 330) then nI (lo + k) else P.2.2.2.2.2)) else P) = P' → Ev G mX6_presses 167 [some (.ref (a 0)), some (.int most), some (.int least), some (.int P'.1), some (.int P'.2.1), some (.int P'.2.2.1), some (.int P'.2.2.2.1), some (.int P'.2.2.2.2.1), some (.int P'.2.2.2.2.2), some (.int (nI (lo + k)))] [] M 0 0 Q := by
        intro P' hP'
        have e : pr6 (VV X) (RR X) lo most least (X 1 330) (k + 1) = P' := by rw [pr6, hP, ← hP']
        have := ih (k + 1) (by omega)
        rw [e] at this
        apply Ev.iinc9 dX6_presses_167 rfl rfl
        · first | exact nI_inc _ | rfl
        refine Ev.goto (tgt := 27) dX6_presses_170 (by decide) ?_
        exact this
      by_cases hc : VV X (lo + k) = most ∧ ab (RR X (lo + k)) = least
      · have hN2 := hN _ (if_pos hc)
        have J3 : ∀ (u w l : Int32), u = P.2.1 + (if 0 < RR X (lo + k) then 1 else 0) → w = P.2.2.1 + (if RR X (lo + k) < 0 then 1 else 0) → l = (if P.2.2.2.1 < 0 then nI (lo + k) else P.2.2.2.1) → Ev G mX6_presses 116 [some (.ref (a 0)), some (.int most), some (.int least), some (.int (P.1 + 1)), some (.int u), some (.int w), some (.int P.2.2.2.1), some (.int P.2.2.2.2.1), some (.int P.2.2.2.2.2), some (.int (nI (lo + k)))] [.int l] M 0 0 Q := by
          intro u w l hu hw hl
          subst hu; subst hw; subst hl
          have J4 : ∀ x : Int32, x = (if P.2.2.2.2.2 < 0 ∨ ab (nI (lo + k) - X 1 330) ≤ ab (P.2.2.2.2.2 - X 1 330) then nI (lo + k) else P.2.2.2.2.2) → Ev G mX6_presses 165 [some (.ref (a 0)), some (.int most), some (.int least), some (.int (P.1 + 1)), some (.int (P.2.1 + (if 0 < RR X (lo + k) then 1 else 0))), some (.int (P.2.2.1 + (if RR X (lo + k) < 0 then 1 else 0))), some (.int (if P.2.2.2.1 < 0 then nI (lo + k) else P.2.2.2.1)), some (.int (nI (lo + k))), some (.int P.2.2.2.2.2), some (.int (nI (lo + k)))] [.int x] M 0 0 Q := by
            intro x hx
            subst hx
            refine Ev.ist8 dX6_presses_165 rfl rfl ?_
            exact hN2
          refine Ev.ist6 dX6_presses_116 rfl rfl ?_
          refine Ev.ild9 dX6_presses_118 ?_
          refine Ev.ist7 dX6_presses_120 rfl rfl ?_
          refine Ev.ild8 dX6_presses_122 ?_
          refine Ev.if_lt (tgt := 158) dX6_presses_124 (by decide) (fun c124 => ?_) (fun c124 => ?_)
          · refine Ev.ild9 dX6_presses_158 ?_
            refine Ev.goto (tgt := 165) dX6_presses_160 (by decide) ?_
            exact J4 _ (if_pos (Or.inl c124)).symm
          · refine Ev.ild9 dX6_presses_127 ?_
            refine Ev.ald0 dX6_presses_129 ?_
            apply Ev.getf dX6_presses_130 fX6_13
            · repeat (first | assumption | (refine gt_upI ?_; (repeat (first | refine In_up ?_ | refine In_nw ?_)); apply In_of; assumption) | refine gt_rd (by first | assumption | (apply Ne.symm; assumption) | (exact hj _ _ (by omega) (by omega) (by omega)) | omega) ?_ | exact gt_nw (by assumption) | refine gt_odr (by first | assumption | (apply Ne.symm; assumption) | omega) ?_)
            · first | rfl | assumption
            refine Ev.sipush (v := 330) dX6_presses_133 (by decide) ?_
            apply Ev.iald dX6_presses_136
            · repeat (first | assumption | (refine gt_upI ?_; (repeat (first | refine In_up ?_ | refine In_nw ?_)); apply In_of; assumption) | refine gt_rd (by first | assumption | (apply Ne.symm; assumption) | (exact hj _ _ (by omega) (by omega) (by omega)) | omega) ?_ | exact gt_nw (by assumption) | refine gt_odr (by first | assumption | (apply Ne.symm; assumption) | omega) ?_)
            · assumption
            rw [z3]
            refine Ev.isub dX6_presses_137 ?_
            refine Ev.csI (Yc := mX6_size) dX6_presses_138 lX6_236 vX6_size rfl m_size rfl rfl rfl ?_
            rintro y138 M' ⟨hy138, rfl⟩
            subst hy138
            refine Ev.ild8 dX6_presses_141 ?_
            refine Ev.ald0 dX6_presses_143 ?_
            apply Ev.getf dX6_presses_144 fX6_13
            · repeat (first | assumption | (refine gt_upI ?_; (repeat (first | refine In_up ?_ | refine In_nw ?_)); apply In_of; assumption) | refine gt_rd (by first | assumption | (apply Ne.symm; assumption) | (exact hj _ _ (by omega) (by omega) (by omega)) | omega) ?_ | exact gt_nw (by assumption) | refine gt_odr (by first | assumption | (apply Ne.symm; assumption) | omega) ?_)
            · first | rfl | assumption
            refine Ev.sipush (v := 330) dX6_presses_147 (by decide) ?_
            apply Ev.iald dX6_presses_150
            · repeat (first | assumption | (refine gt_upI ?_; (repeat (first | refine In_up ?_ | refine In_nw ?_)); apply In_of; assumption) | refine gt_rd (by first | assumption | (apply Ne.symm; assumption) | (exact hj _ _ (by omega) (by omega) (by omega)) | omega) ?_ | exact gt_nw (by assumption) | refine gt_odr (by first | assumption | (apply Ne.symm; assumption) | omega) ?_)
            · assumption
            rw [z3]
            refine Ev.isub dX6_presses_151 ?_
            refine Ev.csI (Yc := mX6_size) dX6_presses_152 lX6_236 vX6_size rfl m_size rfl rfl rfl ?_
            rintro y152 M' ⟨hy152, rfl⟩
            subst hy152
            refine Ev.icmp_gt (tgt := 163) dX6_presses_155 (by decide) (fun c155 => ?_) (fun c155 => ?_)
            · refine Ev.ild8 dX6_presses_163 ?_
              exact J4 _ (if_neg (fun q => q.elim c124 (fun q => absurd q (Int32.not_le.mpr c155)))).symm
            · refine Ev.ild9 dX6_presses_158 ?_
              refine Ev.goto (tgt := 165) dX6_presses_160 (by decide) ?_
              exact J4 _ (if_pos (Or.inr (Int32.not_lt.mp c155))).symm
        have J2 : ∀ (u w : Int32), u = P.2.1 + (if 0 < RR X (lo + k) then 1 else 0) → w = (if RR X (lo + k) < 0 then 1 else 0) → Ev G mX6_presses 101 [some (.ref (a 0)), some (.int most), some (.int least), some (.int (P.1 + 1)), some (.int u), some (.int P.2.2.1), some (.int P.2.2.2.1), some (.int P.2.2.2.2.1), some (.int P.2.2.2.2.2), some (.int (nI (lo + k)))] [.int w, .int P.2.2.1] M 0 0 Q := by
          intro u w hu hw
          subst hw
          refine Ev.iadd dX6_presses_101 ?_
          refine Ev.ist5 dX6_presses_102 rfl rfl ?_
          refine Ev.ild6 dX6_presses_104 ?_
          refine Ev.if_ge (tgt := 114) dX6_presses_106 (by decide) (fun c106 => ?_) (fun c106 => ?_)
          · refine Ev.ild6 dX6_presses_114 ?_
            exact J3 _ _ _ hu rfl (if_neg (Int32.not_lt.mpr c106)).symm
          · refine Ev.ild9 dX6_presses_109 ?_
            refine Ev.goto (tgt := 116) dX6_presses_111 (by decide) ?_
            exact J3 _ _ _ hu rfl (if_pos (Int32.not_le.mp c106)).symm
        have J1 : ∀ (u : Int32), u = (if 0 < RR X (lo + k) then 1 else 0) → Ev G mX6_presses 82 [some (.ref (a 0)), some (.int most), some (.int least), some (.int (P.1 + 1)), some (.int P.2.1), some (.int P.2.2.1), some (.int P.2.2.2.1), some (.int P.2.2.2.2.1), some (.int P.2.2.2.2.2), some (.int (nI (lo + k)))] [.int u, .int P.2.1] M 0 0 Q := by
          intro u hu
          subst hu
          refine Ev.iadd dX6_presses_82 ?_
          refine Ev.ist4 dX6_presses_83 rfl rfl ?_
          refine Ev.ild5 dX6_presses_85 ?_
          refine Ev.ald0 dX6_presses_87 ?_
          refine Ev.ild9 dX6_presses_88 ?_
          refine Ev.cvI (Yc := mX6_restAt) (ci := 6) dX6_presses_90 lX6_233 vX6_restAt rfl (m_res (lo + k) rfl hW (by omega)) ?_ rfl rfl rfl rfl ?_
          · apply Exists.intro; repeat (first | assumption | (refine gt_upI ?_; (repeat (first | refine In_up ?_ | refine In_nw ?_)); apply In_of; assumption) | refine gt_rd (by first | assumption | (apply Ne.symm; assumption) | (exact hj _ _ (by omega) (by omega) (by omega)) | omega) ?_ | exact gt_nw (by assumption) | refine gt_odr (by first | assumption | (apply Ne.symm; assumption) | omega) ?_)
          rintro y M' ⟨hy, rfl⟩
          subst hy
          refine Ev.if_ge (tgt := 100) dX6_presses_93 (by decide) (fun c93 => ?_) (fun c93 => ?_)
          · refine Ev.iconst (v := 0) dX6_presses_100 (by decide) ?_
            exact J2 _ _ rfl (if_neg (Int32.not_lt.mpr c93)).symm
          · refine Ev.iconst (v := 1) dX6_presses_96 (by decide) ?_
            refine Ev.goto (tgt := 101) dX6_presses_97 (by decide) ?_
            exact J2 _ _ rfl (if_pos (Int32.not_le.mp c93)).symm
        refine Ev.ald0 dX6_presses_40 ?_
        refine Ev.ild9 dX6_presses_41 ?_
        refine Ev.cvI (Yc := mX6_volumeAt) (ci := 6) dX6_presses_43 lX6_220 vX6_volumeAt rfl (m_vol (lo + k) rfl hW (by omega)) ?_ rfl rfl rfl rfl ?_
        · apply Exists.intro; repeat (first | assumption | (refine gt_upI ?_; (repeat (first | refine In_up ?_ | refine In_nw ?_)); apply In_of; assumption) | refine gt_rd (by first | assumption | (apply Ne.symm; assumption) | (exact hj _ _ (by omega) (by omega) (by omega)) | omega) ?_ | exact gt_nw (by assumption) | refine gt_odr (by first | assumption | (apply Ne.symm; assumption) | omega) ?_)
        rintro y M' ⟨hy, rfl⟩
        subst hy
        refine Ev.ild1 dX6_presses_46 ?_
        refine Ev.icmp_ne (tgt := 167) dX6_presses_47 (by decide) (fun c => absurd hc.1 c) (fun c47 => ?_)
        refine Ev.ald0 dX6_presses_50 ?_
        refine Ev.ild9 dX6_presses_51 ?_
        refine Ev.cvI (Yc := mX6_restAt) (ci := 6) dX6_presses_53 lX6_233 vX6_restAt rfl (m_res (lo + k) rfl hW (by omega)) ?_ rfl rfl rfl rfl ?_
        · apply Exists.intro; repeat (first | assumption | (refine gt_upI ?_; (repeat (first | refine In_up ?_ | refine In_nw ?_)); apply In_of; assumption) | refine gt_rd (by first | assumption | (apply Ne.symm; assumption) | (exact hj _ _ (by omega) (by omega) (by omega)) | omega) ?_ | exact gt_nw (by assumption) | refine gt_odr (by first | assumption | (apply Ne.symm; assumption) | omega) ?_)
        rintro y M' ⟨hy, rfl⟩
        subst hy
        refine Ev.csI (Yc := mX6_size) dX6_presses_56 lX6_236 vX6_size rfl m_size rfl rfl rfl ?_
        rintro y M' ⟨hy, rfl⟩
        subst hy
        refine Ev.ild2 dX6_presses_59 ?_
        refine Ev.icmp_ne (tgt := 167) dX6_presses_60 (by decide) (fun c => absurd hc.2 c) (fun c60 => ?_)
        refine Ev.iinc3 (v := P.1 + 1) dX6_presses_63 rfl rfl rfl ?_
        refine Ev.ild4 dX6_presses_66 ?_
        refine Ev.ald0 dX6_presses_68 ?_
        refine Ev.ild9 dX6_presses_69 ?_
        refine Ev.cvI (Yc := mX6_restAt) (ci := 6) dX6_presses_71 lX6_233 vX6_restAt rfl (m_res (lo + k) rfl hW (by omega)) ?_ rfl rfl rfl rfl ?_
        · apply Exists.intro; repeat (first | assumption | (refine gt_upI ?_; (repeat (first | refine In_up ?_ | refine In_nw ?_)); apply In_of; assumption) | refine gt_rd (by first | assumption | (apply Ne.symm; assumption) | (exact hj _ _ (by omega) (by omega) (by omega)) | omega) ?_ | exact gt_nw (by assumption) | refine gt_odr (by first | assumption | (apply Ne.symm; assumption) | omega) ?_)
        rintro y M' ⟨hy, rfl⟩
        subst hy
        refine Ev.if_le (tgt := 81) dX6_presses_74 (by decide) (fun c74 => ?_) (fun c74 => ?_)
        · refine Ev.iconst (v := 0) dX6_presses_81 (by decide) ?_
          exact J1 _ (if_neg (Int32.not_lt.mpr c74)).symm
        · refine Ev.iconst (v := 1) dX6_presses_77 (by decide) ?_
          refine Ev.goto (tgt := 82) dX6_presses_78 (by decide) ?_
          exact J1 _ (if_pos (Int32.not_le.mp c74)).symm
      · have hN2 := hN _ (if_neg hc)
        refine Ev.ald0 dX6_presses_40 ?_
        refine Ev.ild9 dX6_presses_41 ?_
        refine Ev.cvI (Yc := mX6_volumeAt) (ci := 6) dX6_presses_43 lX6_220 vX6_volumeAt rfl (m_vol (lo + k) rfl hW (by omega)) ?_ rfl rfl rfl rfl ?_
        · apply Exists.intro; repeat (first | assumption | (refine gt_upI ?_; (repeat (first | refine In_up ?_ | refine In_nw ?_)); apply In_of; assumption) | refine gt_rd (by first | assumption | (apply Ne.symm; assumption) | (exact hj _ _ (by omega) (by omega) (by omega)) | omega) ?_ | exact gt_nw (by assumption) | refine gt_odr (by first | assumption | (apply Ne.symm; assumption) | omega) ?_)
        rintro y M' ⟨hy, rfl⟩
        subst hy
        refine Ev.ild1 dX6_presses_46 ?_
        refine Ev.icmp_ne (tgt := 167) dX6_presses_47 (by decide) (fun c => hN2) (fun c47 => ?_)
        refine Ev.ald0 dX6_presses_50 ?_
        refine Ev.ild9 dX6_presses_51 ?_
        refine Ev.cvI (Yc := mX6_restAt) (ci := 6) dX6_presses_53 lX6_233 vX6_restAt rfl (m_res (lo + k) rfl hW (by omega)) ?_ rfl rfl rfl rfl ?_
        · apply Exists.intro; repeat (first | assumption | (refine gt_upI ?_; (repeat (first | refine In_up ?_ | refine In_nw ?_)); apply In_of; assumption) | refine gt_rd (by first | assumption | (apply Ne.symm; assumption) | (exact hj _ _ (by omega) (by omega) (by omega)) | omega) ?_ | exact gt_nw (by assumption) | refine gt_odr (by first | assumption | (apply Ne.symm; assumption) | omega) ?_)
        rintro y M' ⟨hy, rfl⟩
        subst hy
        refine Ev.csI (Yc := mX6_size) dX6_presses_56 lX6_236 vX6_size rfl m_size rfl rfl rfl ?_
        rintro y M' ⟨hy, rfl⟩
        subst hy
        refine Ev.ild2 dX6_presses_59 ?_
        refine Ev.icmp_ne (tgt := 167) dX6_presses_60 (by decide) (fun c => hN2) (fun c60 => absurd ⟨c47, c60⟩ hc)
  refine Ct.of (ls := [some (.ref (a 0)), some (.int most), some (.int least), none, none, none, none, none, none, none]) (by decide) (by decide) rfl rfl rfl ?_
  rw [hQ]
  refine Ev.iconst (v := 0) dX6_presses_0 (by decide) ?_
  refine Ev.ist3 dX6_presses_1 rfl rfl ?_
  refine Ev.iconst (v := 0) dX6_presses_2 (by decide) ?_
  refine Ev.ist4 dX6_presses_3 rfl rfl ?_
  refine Ev.iconst (v := 0) dX6_presses_5 (by decide) ?_
  refine Ev.ist5 dX6_presses_6 rfl rfl ?_
  refine Ev.iconst (v := -1) dX6_presses_8 (by decide) ?_
  refine Ev.ist6 dX6_presses_9 rfl rfl ?_
  refine Ev.iconst (v := -1) dX6_presses_11 (by decide) ?_
  refine Ev.ist7 dX6_presses_12 rfl rfl ?_
  refine Ev.iconst (v := -1) dX6_presses_14 (by decide) ?_
  refine Ev.ist8 dX6_presses_15 rfl rfl ?_
  refine Ev.ald0 dX6_presses_17 ?_
  apply Ev.getf dX6_presses_18 fX6_13
  · repeat (first | assumption | (refine gt_upI ?_; (repeat (first | refine In_up ?_ | refine In_nw ?_)); apply In_of; assumption) | refine gt_rd (by first | assumption | (apply Ne.symm; assumption) | (exact hj _ _ (by omega) (by omega) (by omega)) | omega) ?_ | exact gt_nw (by assumption) | refine gt_odr (by first | assumption | (apply Ne.symm; assumption) | omega) ?_)
  · first | rfl | assumption
  refine Ev.sipush (v := 331) dX6_presses_21 (by decide) ?_
  apply Ev.iald dX6_presses_24
  · repeat (first | assumption | (refine gt_upI ?_; (repeat (first | refine In_up ?_ | refine In_nw ?_)); apply In_of; assumption) | refine gt_rd (by first | assumption | (apply Ne.symm; assumption) | (exact hj _ _ (by omega) (by omega) (by omega)) | omega) ?_ | exact gt_nw (by assumption) | refine gt_odr (by first | assumption | (apply Ne.symm; assumption) | omega) ?_)
  · assumption
  rw [z1, hlo]
  refine Ev.ist9 dX6_presses_25 rfl rfl ?_
  exact LL (hi + 1 - lo) 0 (by omega)
end MOD
