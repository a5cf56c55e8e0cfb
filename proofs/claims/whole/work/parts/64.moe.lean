/-! the reference finds the price -/
def fp3 (V R : Nat → Int32) (lo D : Nat) (rf : Int32) : Int32 × Int32 × Int32 :=
  if mxv V lo D = 0 then (-1, 0, 0) else
  if 1 < (sl2 V R lo (mxv V lo D) D).1 then (ppr (pr6 V R lo (mxv V lo D) (sl2 V R lo (mxv V lo D) D).2.2 rf D), pky (pr6 V R lo (mxv V lo D) (sl2 V R lo (mxv V lo D) D).2.2 rf D), (sl2 V R lo (mxv V lo D) D).1)
  else ((sl2 V R lo (mxv V lo D) D).2.1, 0, (sl2 V R lo (mxv V lo D) D).1)
def w3 (v : Nat → Int32) (t : Int32 × Int32 × Int32) : Nat → Int32 := upd (upd (upd v 28 t.1) 29 t.2.1) 30 t.2.2
theorem w3_a {v : Nat → Int32} {t : Int32 × Int32 × Int32} {x : Int32} : upd (w3 v t) 28 x = w3 v (x, t.2) := by
  funext j
  simp only [w3, upd]
  by_cases h : j = 28 <;> by_cases h2 : j = 29 <;> by_cases h3 : j = 30 <;> simp_all
theorem w3_b {v : Nat → Int32} {t : Int32 × Int32 × Int32} {x : Int32} : upd (w3 v t) 29 x = w3 v (t.1, x, t.2.2) := by
  funext j
  simp only [w3, upd]
  by_cases h : j = 28 <;> by_cases h2 : j = 29 <;> by_cases h3 : j = 30 <;> simp_all
theorem w3_c {v : Nat → Int32} {t : Int32 × Int32 × Int32} {x : Int32} : upd (w3 v t) 30 x = w3 v (t.1, t.2.1, x) := by
  funext j
  simp only [w3, upd]
  by_cases h : j = 28 <;> by_cases h2 : j = 29 <;> by_cases h3 : j = 30 <;> simp_all
noncomputable def smX (X : Nat → Nat → Int32) (n : Nat) : F4 := (sfx (ls2 (X 1) (X 22) (X 23) (fl0 (X 24) 0 1001, fl0 (X 25) 0 1001, fl0 (X 26) 0 1001, fl0 (X 27) 0 1001) n).1 999, pfx (ls2 (X 1) (X 22) (X 23) (fl0 (X 24) 0 1001, fl0 (X 25) 0 1001, fl0 (X 26) 0 1001, fl0 (X 27) 0 1001) n).2.1 999, sfx (ls2 (X 1) (X 22) (X 23) (fl0 (X 24) 0 1001, fl0 (X 25) 0 1001, fl0 (X 26) 0 1001, fl0 (X 27) 0 1001) n).2.2.1 999, pfx (ls2 (X 1) (X 22) (X 23) (fl0 (X 24) 0 1001, fl0 (X 25) 0 1001, fl0 (X 26) 0 1001, fl0 (X 27) 0 1001) n).2.2.2 999)
section MOE
variable {G : GP} {M0 M : Wd} {a : Nat → Nat} {v : Nat → Int32} {L : Int64} {X : Nat → Nat → Int32} {lo hi n : Nat}
set_option maxRecDepth 20000 in
theorem m_fp4 {Q : Option Value → Wd → Prop} (hj : InjM a) (hW : MX a v L X M) (hF : Fr (mdl a) M0 M) (hlo : X 1 331 = nI lo) (hhi : X 1 332 = nI hi) (h1 : lo ≤ hi + 1) (h2 : hi ≤ 999) (kk : ∀ M', MX a (w3 v (fp3 (VV X) (RR X) lo (hi + 1 - lo) (X 1 330))) L X M' → Fr (mdl a) M0 M' → Q none M') : Ev G mX6_findsPrice 4 [some (.ref (a 0)), none, none, none] [] M 0 0 Q := by
  have e1 := lit_in 331 1189 (by omega) (by omega)
  have b1 : vp_in (331 : Int32) 1189 := e1.1
  have z1 : (331 : Int32).toNatClampNeg = 331 := e1.2
  have e2 := lit_in 332 1189 (by omega) (by omega)
  have b2 : vp_in (332 : Int32) 1189 := e2.1
  have z2 : (332 : Int32).toNatClampNeg = 332 := e2.2
  generalize hV : VV X = V at kk
  generalize hR : RR X = R at kk
  -- second loop
  have L2 : ∀ (d k : Nat) (M1 : Wd), lo + k + d = hi + 1 → mxv V lo (hi + 1 - lo) ≠ 0 → MX a (w3 v ((sl2 V R lo (mxv V lo (hi + 1 - lo)) k).2.1, 0, (sl2 V R lo (mxv V lo (hi + 1 - lo)) k).1)) L X M1 → Fr (mdl a) M0 M1 → Ev G mX6_findsPrice 84 [some (.ref (a 0)), some (.int (mxv V lo (hi + 1 - lo))), some (.int (sl2 V R lo (mxv V lo (hi + 1 - lo)) k).2.2), some (.int (nI (lo + k)))] [] M1 0 0 Q := by
    intro d
    induction d with
    | zero =>
      intro k M1 hk hm hW hF
      have h0 := hW.1
      have g1 := hW.g1
      refine Ev.ild3 dX6_findsPrice_84 ?_
      refine Ev.ald0 dX6_findsPrice_85 ?_
      apply Ev.getf dX6_findsPrice_86 fX6_13
      · repeat (first | assumption | (refine gt_upI ?_; (repeat (first | refine In_up ?_ | refine In_nw ?_)); apply In_of; assumption) | refine gt_rd (by first | assumption | (apply Ne.symm; assumption) | (exact hj _ _ (by omega) (by omega) (by omega)) | omega) ?_ | exact gt_nw (by assumption) | refine gt_odr (by first | assumption | (apply Ne.symm; assumption) | omega) ?_)
      · first | rfl | assumption
      refine Ev.sipush (v := 332) dX6_findsPrice_89 (by decide) ?_
      apply Ev.iald dX6_findsPrice_92
      · repeat (first | assumption | (refine gt_upI ?_; (repeat (first | refine In_up ?_ | refine In_nw ?_)); apply In_of; assumption) | refine gt_rd (by first | assumption | (apply Ne.symm; assumption) | (exact hj _ _ (by omega) (by omega) (by omega)) | omega) ?_ | exact gt_nw (by assumption) | refine gt_odr (by first | assumption | (apply Ne.symm; assumption) | omega) ?_)
      · assumption
      rw [z2, hhi]
      refine Ev.icmp_gt (tgt := 139) dX6_findsPrice_93 (by decide) (fun c9 => ?_) (fun c9 => absurd (nI_lt (by omega) (by omega)) c9)
      have hkk : k = hi + 1 - lo := by omega
      subst hkk
      refine Ev.ald0 dX6_findsPrice_139 ?_
      apply Ev.getf dX6_findsPrice_140 fX6_229
      · repeat (first | assumption | (refine gt_upI ?_; (repeat (first | refine In_up ?_ | refine In_nw ?_)); apply In_of; assumption) | refine gt_rd (by first | assumption | (apply Ne.symm; assumption) | (exact hj _ _ (by omega) (by omega) (by omega)) | omega) ?_ | exact gt_nw (by assumption) | refine gt_odr (by first | assumption | (apply Ne.symm; assumption) | omega) ?_)
      · first | rfl | assumption
      refine Ev.iconst (v := 1) dX6_findsPrice_143 (by decide) ?_
      change Ev G mX6_findsPrice 144 _ [.int 1, .int (sl2 V R lo (mxv V lo (hi + 1 - lo)) (hi + 1 - lo)).1] M1 0 0 Q
      refine Ev.icmp_le (tgt := 153) dX6_findsPrice_144 (by decide) (fun c => ?_) (fun c => ?_)
      · refine Ev.vret dX6_findsPrice_153 rfl ?_
        refine kk _ ?_ hF
        rw [fp3, if_neg hm, if_neg (Int32.not_lt.mpr c)]
        exact hW
      · refine Ev.ald0 dX6_findsPrice_147 ?_
        refine Ev.ild1 dX6_findsPrice_148 ?_
        refine Ev.ild2 dX6_findsPrice_149 ?_
        refine Ev.cvV (Yc := mX6_presses) (ci := 6) dX6_findsPrice_150 lX6_238 vX6_presses rfl (m_presses (lo := lo) (hi := hi) hj hW hF hlo hhi h1 h2) ?_ rfl rfl rfl rfl ?_
        · apply Exists.intro; repeat (first | assumption | (refine gt_upI ?_; (repeat (first | refine In_up ?_ | refine In_nw ?_)); apply In_of; assumption) | refine gt_rd (by first | assumption | (apply Ne.symm; assumption) | (exact hj _ _ (by omega) (by omega) (by omega)) | omega) ?_ | exact gt_nw (by assumption) | refine gt_odr (by first | assumption | (apply Ne.symm; assumption) | omega) ?_)
        rintro M' ⟨hW', hF'⟩
        refine Ev.vret dX6_findsPrice_153 rfl ?_
        refine kk _ ?_ hF'
        rw [fp3, if_neg hm, if_pos (Int32.not_le.mp c)]
        rw [w3_b, w3_a, hV, hR] at hW'
        exact hW'
    | succ d ih =>
      intro k M1 hk hm hW hF
      have h0 := hW.1
      have g1 := hW.g1
      refine Ev.ild3 dX6_findsPrice_84 ?_
      refine Ev.ald0 dX6_findsPrice_85 ?_
      apply Ev.getf dX6_findsPrice_86 fX6_13
      · repeat (first | assumption | (refine gt_upI ?_; (repeat (first | refine In_up ?_ | refine In_nw ?_)); apply In_of; assumption) | refine gt_rd (by first | assumption | (apply Ne.symm; assumption) | (exact hj _ _ (by omega) (by omega) (by omega)) | omega) ?_ | exact gt_nw (by assumption) | refine gt_odr (by first | assumption | (apply Ne.symm; assumption) | omega) ?_)
      · first | rfl | assumption
      refine Ev.sipush (v := 332) dX6_findsPrice_89 (by decide) ?_
      apply Ev.iald dX6_findsPrice_92
      · repeat (first | assumption | (refine gt_upI ?_; (repeat (first | refine In_up ?_ | refine In_nw ?_)); apply In_of; assumption) | refine gt_rd (by first | assumption | (apply Ne.symm; assumption) | (exact hj _ _ (by omega) (by omega) (by omega)) | omega) ?_ | exact gt_nw (by assumption) | refine gt_odr (by first | assumption | (apply Ne.symm; assumption) | omega) ?_)
      · assumption
      rw [z2, hhi]
      refine Ev.icmp_gt (tgt := 139) dX6_findsPrice_93 (by decide) (fun c9 => absurd c9 (nI_nlt (by omega) (by omega))) (fun c9 => ?_)
      refine Ev.ald0 dX6_findsPrice_96 ?_
      refine Ev.ild3 dX6_findsPrice_97 ?_
      refine Ev.cvI (Yc := mX6_volumeAt) (ci := 6) dX6_findsPrice_98 lX6_220 vX6_volumeAt rfl (m_vol (lo + k) rfl hW (by omega)) ?_ rfl rfl rfl rfl ?_
      · apply Exists.intro; repeat (first | assumption | (refine gt_upI ?_; (repeat (first | refine In_up ?_ | refine In_nw ?_)); apply In_of; assumption) | refine gt_rd (by first | assumption | (apply Ne.symm; assumption) | (exact hj _ _ (by omega) (by omega) (by omega)) | omega) ?_ | exact gt_nw (by assumption) | refine gt_odr (by first | assumption | (apply Ne.symm; assumption) | omega) ?_)
      rintro y M' ⟨hy, rfl⟩
      rw [hV] at hy
      subst hy
      refine Ev.ild1 dX6_findsPrice_101 ?_
      refine Ev.icmp_ne (tgt := 133) dX6_findsPrice_102 (by decide) (fun c => ?_) (fun c => ?_)
      · apply Ev.iinc3 dX6_findsPrice_133 rfl rfl
        · first | exact nI_inc _ | rfl
        refine Ev.goto (tgt := 84) dX6_findsPrice_136 (by decide) ?_
        have := ih (k + 1) M' (by omega) hm
        rw [sl2, if_neg c] at this
        exact this hW hF
      · have e : sl2 V R lo (mxv V lo (hi + 1 - lo)) (k + 1) = ((sl2 V R lo (mxv V lo (hi + 1 - lo)) k).1 + 1, nI (lo + k), mn (sl2 V R lo (mxv V lo (hi + 1 - lo)) k).2.2 (ab (R (lo + k)))) := by rw [sl2, if_pos c]
        have ih2 := ih (k + 1)
        rw [e] at ih2
        generalize sl2 V R lo (mxv V lo (hi + 1 - lo)) k = S at hW h0 ih2 ⊢
        have hW2 := hW.sv hj (w := w3 v (nI (lo + k), 0, S.1 + 1)) (K := L)
        refine Ev.ald0 dX6_findsPrice_105 ?_
        refine Ev.dup dX6_findsPrice_106 rfl ?_
        apply Ev.getf dX6_findsPrice_107 fX6_229
        · repeat (first | assumption | (refine gt_upI ?_; (repeat (first | refine In_up ?_ | refine In_nw ?_)); apply In_of; assumption) | refine gt_rd (by first | assumption | (apply Ne.symm; assumption) | (exact hj _ _ (by omega) (by omega) (by omega)) | omega) ?_ | exact gt_nw (by assumption) | refine gt_odr (by first | assumption | (apply Ne.symm; assumption) | omega) ?_)
        · first | rfl | assumption
        refine Ev.iconst (v := 1) dX6_findsPrice_110 (by decide) ?_
        refine Ev.iadd dX6_findsPrice_111 ?_
        apply Ev.put dX6_findsPrice_112 fX6_229
        · repeat (first | assumption | (refine gt_upI ?_; (repeat (first | refine In_up ?_ | refine In_nw ?_)); apply In_of; assumption) | refine gt_rd (by first | assumption | (apply Ne.symm; assumption) | (exact hj _ _ (by omega) (by omega) (by omega)) | omega) ?_ | exact gt_nw (by assumption) | refine gt_odr (by first | assumption | (apply Ne.symm; assumption) | omega) ?_)
        · rfl
        · rfl
        · rfl
        refine Ev.ald0 dX6_findsPrice_115 ?_
        refine Ev.ild3 dX6_findsPrice_116 ?_
        apply Ev.put dX6_findsPrice_117 fX6_223
        · repeat (first | assumption | (refine gt_upI ?_; (repeat (first | refine In_up ?_ | refine In_nw ?_)); apply In_of; assumption) | refine gt_rd (by first | assumption | (apply Ne.symm; assumption) | (exact hj _ _ (by omega) (by omega) (by omega)) | omega) ?_ | exact gt_nw (by assumption) | refine gt_odr (by first | assumption | (apply Ne.symm; assumption) | omega) ?_)
        · rfl
        · rfl
        · rfl
        rw [up_up]
        change Ev G mX6_findsPrice _ _ _ (up M' (a 0) (mo (w3 v (nI (lo + k), 0, S.1 + 1)) L a)) 0 0 Q
        have hF2 : Fr (mdl a) M0 (up M' (a 0) (mo (w3 v (nI (lo + k), 0, S.1 + 1)) L a)) := hF.pt (by simp [mdl])
        generalize up M' (a 0) (mo (w3 v (nI (lo + k), 0, S.1 + 1)) L a) = M2 at hW2 hF2 ⊢
        have h0 := hW2.1
        refine Ev.ild2 dX6_findsPrice_120 ?_
        refine Ev.ald0 dX6_findsPrice_121 ?_
        refine Ev.ild3 dX6_findsPrice_122 ?_
        refine Ev.cvI (Yc := mX6_restAt) (ci := 6) dX6_findsPrice_123 lX6_233 vX6_restAt rfl (m_res (lo + k) rfl hW2 (by omega)) ?_ rfl rfl rfl rfl ?_
        · apply Exists.intro; repeat (first | assumption | (refine gt_upI ?_; (repeat (first | refine In_up ?_ | refine In_nw ?_)); apply In_of; assumption) | refine gt_rd (by first | assumption | (apply Ne.symm; assumption) | (exact hj _ _ (by omega) (by omega) (by omega)) | omega) ?_ | exact gt_nw (by assumption) | refine gt_odr (by first | assumption | (apply Ne.symm; assumption) | omega) ?_)
        rintro y M' ⟨hy, rfl⟩
        rw [hR] at hy
        subst hy
        refine Ev.csI (Yc := mX6_size) dX6_findsPrice_126 lX6_236 vX6_size rfl m_size rfl rfl rfl ?_
        rintro y M' ⟨hy, rfl⟩
        subst hy
        refine Ev.csI (Yc := mX6_lesser) dX6_findsPrice_129 lX6_211 vX6_lesser rfl m_lesser rfl rfl rfl ?_
        rintro y M' ⟨hy, rfl⟩
        subst hy
        refine Ev.ist2 dX6_findsPrice_132 rfl rfl ?_
        apply Ev.iinc3 dX6_findsPrice_133 rfl rfl
        · first | exact nI_inc _ | rfl
        refine Ev.goto (tgt := 84) dX6_findsPrice_136 (by decide) ?_
        exact ih2 _ (by omega) hm hW2 hF2
  have L1 : ∀ (d k : Nat), lo + k + d = hi + 1 → Ev G mX6_findsPrice 15 [some (.ref (a 0)), some (.int (mxv V lo k)), some (.int (nI (lo + k))), none] [] M 0 0 Q := by
    have h0 := hW.1
    have g1 := hW.g1
    intro d
    induction d with
    | zero =>
      intro k hk
      refine Ev.ild2 dX6_findsPrice_15 ?_
      refine Ev.ald0 dX6_findsPrice_16 ?_
      apply Ev.getf dX6_findsPrice_17 fX6_13
      · repeat (first | assumption | (refine gt_upI ?_; (repeat (first | refine In_up ?_ | refine In_nw ?_)); apply In_of; assumption) | refine gt_rd (by first | assumption | (apply Ne.symm; assumption) | (exact hj _ _ (by omega) (by omega) (by omega)) | omega) ?_ | exact gt_nw (by assumption) | refine gt_odr (by first | assumption | (apply Ne.symm; assumption) | omega) ?_)
      · first | rfl | assumption
      refine Ev.sipush (v := 332) dX6_findsPrice_20 (by decide) ?_
      apply Ev.iald dX6_findsPrice_23
      · repeat (first | assumption | (refine gt_upI ?_; (repeat (first | refine In_up ?_ | refine In_nw ?_)); apply In_of; assumption) | refine gt_rd (by first | assumption | (apply Ne.symm; assumption) | (exact hj _ _ (by omega) (by omega) (by omega)) | omega) ?_ | exact gt_nw (by assumption) | refine gt_odr (by first | assumption | (apply Ne.symm; assumption) | omega) ?_)
      · assumption
      rw [z2, hhi]
      refine Ev.icmp_gt (tgt := 52) dX6_findsPrice_24 (by decide) (fun c9 => ?_) (fun c9 => absurd (nI_lt (by omega) (by omega)) c9)
      have hkk : k = hi + 1 - lo := by omega
      subst hkk
      have hW2 := hW.sv hj (w := w3 v (-1, 0, 0)) (K := L)
      have hF2 : Fr (mdl a) M0 (up M (a 0) (mo (w3 v (-1, 0, 0)) L a)) := hF.pt (by simp [mdl])
      refine Ev.ald0 dX6_findsPrice_52 ?_
      refine Ev.iconst (v := -1) dX6_findsPrice_53 (by decide) ?_
      apply Ev.put dX6_findsPrice_54 fX6_223
      · repeat (first | assumption | (refine gt_upI ?_; (repeat (first | refine In_up ?_ | refine In_nw ?_)); apply In_of; assumption) | refine gt_rd (by first | assumption | (apply Ne.symm; assumption) | (exact hj _ _ (by omega) (by omega) (by omega)) | omega) ?_ | exact gt_nw (by assumption) | refine gt_odr (by first | assumption | (apply Ne.symm; assumption) | omega) ?_)
      · rfl
      · rfl
      · rfl
      refine Ev.ald0 dX6_findsPrice_57 ?_
      refine Ev.iconst (v := 0) dX6_findsPrice_58 (by decide) ?_
      apply Ev.put dX6_findsPrice_59 fX6_226
      · repeat (first | assumption | (refine gt_upI ?_; (repeat (first | refine In_up ?_ | refine In_nw ?_)); apply In_of; assumption) | refine gt_rd (by first | assumption | (apply Ne.symm; assumption) | (exact hj _ _ (by omega) (by omega) (by omega)) | omega) ?_ | exact gt_nw (by assumption) | refine gt_odr (by first | assumption | (apply Ne.symm; assumption) | omega) ?_)
      · rfl
      · rfl
      · rfl
      refine Ev.ald0 dX6_findsPrice_62 ?_
      refine Ev.iconst (v := 0) dX6_findsPrice_63 (by decide) ?_
      apply Ev.put dX6_findsPrice_64 fX6_229
      · repeat (first | assumption | (refine gt_upI ?_; (repeat (first | refine In_up ?_ | refine In_nw ?_)); apply In_of; assumption) | refine gt_rd (by first | assumption | (apply Ne.symm; assumption) | (exact hj _ _ (by omega) (by omega) (by omega)) | omega) ?_ | exact gt_nw (by assumption) | refine gt_odr (by first | assumption | (apply Ne.symm; assumption) | omega) ?_)
      · rfl
      · rfl
      · rfl
      rw [up_up, up_up]
      change Ev G mX6_findsPrice _ _ _ (up M (a 0) (mo (w3 v (-1, 0, 0)) L a)) 0 0 Q
      generalize up M (a 0) (mo (w3 v (-1, 0, 0)) L a) = M2 at hW2 hF2 ⊢
      have h0 := hW2.1
      have g1 := hW2.g1
      refine Ev.ild1 dX6_findsPrice_67 ?_
      refine Ev.if_ne (tgt := 72) dX6_findsPrice_68 (by decide) (fun c => ?_) (fun c => ?_)
      · refine Ev.ldc dX6_findsPrice_72 kX6_232 ?_
        refine Ev.ist2 dX6_findsPrice_74 rfl rfl ?_
        refine Ev.ald0 dX6_findsPrice_75 ?_
        apply Ev.getf dX6_findsPrice_76 fX6_13
        · repeat (first | assumption | (refine gt_upI ?_; (repeat (first | refine In_up ?_ | refine In_nw ?_)); apply In_of; assumption) | refine gt_rd (by first | assumption | (apply Ne.symm; assumption) | (exact hj _ _ (by omega) (by omega) (by omega)) | omega) ?_ | exact gt_nw (by assumption) | refine gt_odr (by first | assumption | (apply Ne.symm; assumption) | omega) ?_)
        · first | rfl | assumption
        refine Ev.sipush (v := 331) dX6_findsPrice_79 (by decide) ?_
        apply Ev.iald dX6_findsPrice_82
        · repeat (first | assumption | (refine gt_upI ?_; (repeat (first | refine In_up ?_ | refine In_nw ?_)); apply In_of; assumption) | refine gt_rd (by first | assumption | (apply Ne.symm; assumption) | (exact hj _ _ (by omega) (by omega) (by omega)) | omega) ?_ | exact gt_nw (by assumption) | refine gt_odr (by first | assumption | (apply Ne.symm; assumption) | omega) ?_)
        · assumption
        rw [z1, hlo]
        refine Ev.ist3 dX6_findsPrice_83 rfl rfl ?_
        exact L2 (hi + 1 - lo) 0 _ (by omega) c hW2 hF2
      · refine Ev.vret dX6_findsPrice_71 rfl ?_
        refine kk _ ?_ hF2
        rw [fp3, if_pos c]
        exact hW2
    | succ d ih =>
      intro k hk
      refine Ev.ild2 dX6_findsPrice_15 ?_
      refine Ev.ald0 dX6_findsPrice_16 ?_
      apply Ev.getf dX6_findsPrice_17 fX6_13
      · repeat (first | assumption | (refine gt_upI ?_; (repeat (first | refine In_up ?_ | refine In_nw ?_)); apply In_of; assumption) | refine gt_rd (by first | assumption | (apply Ne.symm; assumption) | (exact hj _ _ (by omega) (by omega) (by omega)) | omega) ?_ | exact gt_nw (by assumption) | refine gt_odr (by first | assumption | (apply Ne.symm; assumption) | omega) ?_)
      · first | rfl | assumption
      refine Ev.sipush (v := 332) dX6_findsPrice_20 (by decide) ?_
      apply Ev.iald dX6_findsPrice_23
      · repeat (first | assumption | (refine gt_upI ?_; (repeat (first | refine In_up ?_ | refine In_nw ?_)); apply In_of; assumption) | refine gt_rd (by first | assumption | (apply Ne.symm; assumption) | (exact hj _ _ (by omega) (by omega) (by omega)) | omega) ?_ | exact gt_nw (by assumption) | refine gt_odr (by first | assumption | (apply Ne.symm; assumption) | omega) ?_)
      · assumption
      rw [z2, hhi]
      refine Ev.icmp_gt (tgt := 52) dX6_findsPrice_24 (by decide) (fun c9 => absurd c9 (nI_nlt (by omega) (by omega))) (fun c9 => ?_)
      have ih2 := ih (k + 1) (by omega)
      rw [mxv] at ih2
      refine Ev.ald0 dX6_findsPrice_27 ?_
      refine Ev.ild2 dX6_findsPrice_28 ?_
      refine Ev.cvI (Yc := mX6_volumeAt) (ci := 6) dX6_findsPrice_29 lX6_220 vX6_volumeAt rfl (m_vol (lo + k) rfl hW (by omega)) ?_ rfl rfl rfl rfl ?_
      · apply Exists.intro; repeat (first | assumption | (refine gt_upI ?_; (repeat (first | refine In_up ?_ | refine In_nw ?_)); apply In_of; assumption) | refine gt_rd (by first | assumption | (apply Ne.symm; assumption) | (exact hj _ _ (by omega) (by omega) (by omega)) | omega) ?_ | exact gt_nw (by assumption) | refine gt_odr (by first | assumption | (apply Ne.symm; assumption) | omega) ?_)
      rintro y M' ⟨hy, rfl⟩
      rw [hV] at hy
      subst hy
      refine Ev.ild1 dX6_findsPrice_32 ?_
      refine Ev.icmp_le (tgt := 44) dX6_findsPrice_33 (by decide) (fun c33 => ?_) (fun c33 => ?_)
      · refine Ev.ild1 dX6_findsPrice_44 ?_
        refine Ev.ist1 dX6_findsPrice_45 rfl rfl ?_
        apply Ev.iinc2 dX6_findsPrice_46 rfl rfl
        · first | exact nI_inc _ | rfl
        refine Ev.goto (tgt := 15) dX6_findsPrice_49 (by decide) ?_
        rw [if_neg (Int32.not_lt.mpr c33)] at ih2
        exact ih2
      · refine Ev.ald0 dX6_findsPrice_36 ?_
        refine Ev.ild2 dX6_findsPrice_37 ?_
        refine Ev.cvI (Yc := mX6_volumeAt) (ci := 6) dX6_findsPrice_38 lX6_220 vX6_volumeAt rfl (m_vol (lo + k) rfl hW (by omega)) ?_ rfl rfl rfl rfl ?_
        · apply Exists.intro; repeat (first | assumption | (refine gt_upI ?_; (repeat (first | refine In_up ?_ | refine In_nw ?_)); apply In_of; assumption) | refine gt_rd (by first | assumption | (apply Ne.symm; assumption) | (exact hj _ _ (by omega) (by omega) (by omega)) | omega) ?_ | exact gt_nw (by assumption) | refine gt_odr (by first | assumption | (apply Ne.symm; assumption) | omega) ?_)
        rintro y M' ⟨hy, rfl⟩
        rw [hV] at hy
        subst hy
        refine Ev.goto (tgt := 45) dX6_findsPrice_41 (by decide) ?_
        refine Ev.ist1 dX6_findsPrice_45 rfl rfl ?_
        apply Ev.iinc2 dX6_findsPrice_46 rfl rfl
        · first | exact nI_inc _ | rfl
        refine Ev.goto (tgt := 15) dX6_findsPrice_49 (by decide) ?_
        rw [if_pos (Int32.not_le.mp c33)] at ih2
        exact ih2
  have h0 := hW.1
  have g1 := hW.g1
  refine Ev.iconst (v := 0) dX6_findsPrice_4 (by decide) ?_
  refine Ev.ist1 dX6_findsPrice_5 rfl rfl ?_
  refine Ev.ald0 dX6_findsPrice_6 ?_
  apply Ev.getf dX6_findsPrice_7 fX6_13
  · repeat (first | assumption | (refine gt_upI ?_; (repeat (first | refine In_up ?_ | refine In_nw ?_)); apply In_of; assumption) | refine gt_rd (by first | assumption | (apply Ne.symm; assumption) | (exact hj _ _ (by omega) (by omega) (by omega)) | omega) ?_ | exact gt_nw (by assumption) | refine gt_odr (by first | assumption | (apply Ne.symm; assumption) | omega) ?_)
  · first | rfl | assumption
  refine Ev.sipush (v := 331) dX6_findsPrice_10 (by decide) ?_
  apply Ev.iald dX6_findsPrice_13
  · repeat (first | assumption | (refine gt_upI ?_; (repeat (first | refine In_up ?_ | refine In_nw ?_)); apply In_of; assumption) | refine gt_rd (by first | assumption | (apply Ne.symm; assumption) | (exact hj _ _ (by omega) (by omega) (by omega)) | omega) ?_ | exact gt_nw (by assumption) | refine gt_odr (by first | assumption | (apply Ne.symm; assumption) | omega) ?_)
  · assumption
  rw [z1, hlo]
  refine Ev.ist2 dX6_findsPrice_14 rfl rfl ?_
  exact L1 (hi + 1 - lo) 0 (by omega)
set_option maxRecDepth 20000 in
theorem m_findsPrice (hj : InjM a) (hW : MX a v L X M) (hF : Fr (mdl a) M0 M) (hn : X 1 328 = nI n) (hn2 : n ≤ 41) (hp : ∀ k, k < n → X 22 k ≠ 0 → ∃ p, p < 1001 ∧ ppf (X 1) k = nI p) (hlo : X 1 331 = nI lo) (hhi : X 1 332 = nI hi) (h1 : lo ≤ hi + 1) (h2 : hi ≤ 999) :
    CtV G mX6_findsPrice [.ref (a 0)] M 0 0 (fun M' => MX a (w3 v (fp3 (VV (x4 X (smX X n))) (RR (x4 X (smX X n))) lo (hi + 1 - lo) (X 1 330))) L (x4 X (smX X n)) M' ∧ Fr (mdl a) M0 M') := by
  have h0 := hW.1
  refine Ct.of (ls := [some (.ref (a 0)), none, none, none]) (by decide) (by decide) rfl rfl rfl ?_
  refine Ev.ald0 dX6_findsPrice_0 ?_
  refine Ev.cvV (Yc := mX6_laysSums) (ci := 6) dX6_findsPrice_1 lX6_217 vX6_laysSums rfl (m_laysSums hj hW hF hn hn2 hp) ?_ rfl rfl rfl rfl ?_
  · apply Exists.intro; repeat (first | assumption | (refine gt_upI ?_; (repeat (first | refine In_up ?_ | refine In_nw ?_)); apply In_of; assumption) | refine gt_rd (by first | assumption | (apply Ne.symm; assumption) | (exact hj _ _ (by omega) (by omega) (by omega)) | omega) ?_ | exact gt_nw (by assumption) | refine gt_odr (by first | assumption | (apply Ne.symm; assumption) | omega) ?_)
  rintro M1 ⟨hW1, hF1⟩
  exact m_fp4 hj hW1 hF1 hlo hhi h1 h2 (fun M' g1 g2 => ⟨rfl, g1, g2⟩)
end MOE
