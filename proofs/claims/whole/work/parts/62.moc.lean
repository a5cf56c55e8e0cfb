/-! the reference's sums by prices -/
abbrev F4 : Type := (Nat → Int32) × (Nat → Int32) × (Nat → Int32) × (Nat → Int32)
def ppf (m : Nat → Int32) (k : Nat) : Int32 := if m (8 * k + 1) = 0 then (if m (8 * k + 0) = 0 then 999 else 1) else m (8 * k + 3)
noncomputable def ls2 (m ct my : Nat → Int32) (B : F4) : Nat → F4
  | 0 => B
  | k + 1 => if ct k ≠ 0 then
      (upd (ls2 m ct my B k).1 (ppf m k).toNatClampNeg ((ls2 m ct my B k).1 (ppf m k).toNatClampNeg + (if m (8 * k + 0) = 0 ∧ ¬ m (8 * k + 1) = 4 then my k else 0)),
       upd (ls2 m ct my B k).2.1 (ppf m k).toNatClampNeg ((ls2 m ct my B k).2.1 (ppf m k).toNatClampNeg + (if ¬ m (8 * k + 0) = 0 ∧ ¬ m (8 * k + 1) = 4 then my k else 0)),
       upd (ls2 m ct my B k).2.2.1 (ppf m k).toNatClampNeg ((ls2 m ct my B k).2.2.1 (ppf m k).toNatClampNeg + (if m (8 * k + 0) = 0 ∧ m (8 * k + 1) = 4 then my k else 0)),
       upd (ls2 m ct my B k).2.2.2 (ppf m k).toNatClampNeg ((ls2 m ct my B k).2.2.2 (ppf m k).toNatClampNeg + (if ¬ m (8 * k + 0) = 0 ∧ m (8 * k + 1) = 4 then my k else 0)))
      else ls2 m ct my B k
def sfx (b : Nat → Int32) : Nat → (Nat → Int32)
  | 0 => b
  | d + 1 => upd (sfx b d) (999 - d) (sfx b d (999 - d) + sfx b d (999 - d + 1))
def pfx (b : Nat → Int32) : Nat → (Nat → Int32)
  | 0 => b
  | d + 1 => upd (pfx b d) (d + 1) (pfx b d (d + 1) + pfx b d d)
/-- the four sums in the reference's rows -/
def x4 (X : Nat → Nat → Int32) (B : F4) : Nat → Nat → Int32 := ux (ux (ux (ux X 24 B.1) 25 B.2.1) 26 B.2.2.1) 27 B.2.2.2
theorem x4_1 {X : Nat → Nat → Int32} {B : F4} {f : Nat → Int32} : ux (x4 X B) 24 f = x4 X (f, B.2) := by
  funext j
  simp only [x4, ux]
  by_cases h : j = 24
  · subst h; rfl
  · by_cases h2 : j = 25 <;> by_cases h3 : j = 26 <;> by_cases h4 : j = 27 <;> simp [h, h2, h3, h4]
theorem x4_2 {X : Nat → Nat → Int32} {B : F4} {f : Nat → Int32} : ux (x4 X B) 25 f = x4 X (B.1, f, B.2.2) := by
  funext j
  simp only [x4, ux]
  by_cases h : j = 25
  · subst h; rfl
  · by_cases h3 : j = 26 <;> by_cases h4 : j = 27 <;> simp [h, h3, h4]
theorem x4_3 {X : Nat → Nat → Int32} {B : F4} {f : Nat → Int32} : ux (x4 X B) 26 f = x4 X (B.1, B.2.1, f, B.2.2.2) := by
  funext j
  simp only [x4, ux]
  by_cases h : j = 26
  · subst h; rfl
  · by_cases h4 : j = 27 <;> simp [h, h4]
theorem x4_4 {X : Nat → Nat → Int32} {B : F4} {f : Nat → Int32} : ux (x4 X B) 27 f = x4 X (B.1, B.2.1, B.2.2.1, f) := by
  simp only [x4, ux_u]
theorem x4_id {X : Nat → Nat → Int32} : x4 X (X 24, X 25, X 26, X 27) = X := by
  funext j
  simp only [x4, ux]
  by_cases h : j = 24 <;> by_cases h2 : j = 25 <;> by_cases h3 : j = 26 <;> by_cases h4 : j = 27 <;> simp [h, h2, h3, h4]
section MOC
variable {G : GP} {M0 M : Wd} {a : Nat → Nat} {v : Nat → Int32} {L : Int64} {X : Nat → Nat → Int32} {n : Nat}
set_option maxRecDepth 20000 in
theorem m_laysSums (hj : InjM a) (hW : MX a v L X M) (hF : Fr (mdl a) M0 M) (hn : X 1 328 = nI n) (hn2 : n ≤ 41) (hp : ∀ k, k < n → X 22 k ≠ 0 → ∃ p, p < 1001 ∧ ppf (X 1) k = nI p) :
    CtV G mX6_laysSums [.ref (a 0)] M 0 0 (fun M' => MX a v L (x4 X (sfx (ls2 (X 1) (X 22) (X 23) (fl0 (X 24) 0 1001, fl0 (X 25) 0 1001, fl0 (X 26) 0 1001, fl0 (X 27) 0 1001) n).1 999, pfx (ls2 (X 1) (X 22) (X 23) (fl0 (X 24) 0 1001, fl0 (X 25) 0 1001, fl0 (X 26) 0 1001, fl0 (X 27) 0 1001) n).2.1 999, sfx (ls2 (X 1) (X 22) (X 23) (fl0 (X 24) 0 1001, fl0 (X 25) 0 1001, fl0 (X 26) 0 1001, fl0 (X 27) 0 1001) n).2.2.1 999, pfx (ls2 (X 1) (X 22) (X 23) (fl0 (X 24) 0 1001, fl0 (X 25) 0 1001, fl0 (X 26) 0 1001, fl0 (X 27) 0 1001) n).2.2.2 999)) M' ∧ Fr (mdl a) M0 M') := by
  generalize hQ : (fun (u : Option Value) (M' : Wd) => u = none ∧ MX a v L (x4 X (sfx (ls2 (X 1) (X 22) (X 23) (fl0 (X 24) 0 1001, fl0 (X 25) 0 1001, fl0 (X 26) 0 1001, fl0 (X 27) 0 1001) n).1 999, pfx (ls2 (X 1) (X 22) (X 23) (fl0 (X 24) 0 1001, fl0 (X 25) 0 1001, fl0 (X 26) 0 1001, fl0 (X 27) 0 1001) n).2.1 999, sfx (ls2 (X 1) (X 22) (X 23) (fl0 (X 24) 0 1001, fl0 (X 25) 0 1001, fl0 (X 26) 0 1001, fl0 (X 27) 0 1001) n).2.2.1 999, pfx (ls2 (X 1) (X 22) (X 23) (fl0 (X 24) 0 1001, fl0 (X 25) 0 1001, fl0 (X 26) 0 1001, fl0 (X 27) 0 1001) n).2.2.2 999)) M' ∧ Fr (mdl a) M0 M') = Q
  have e8 := lit_in 328 1189 (by omega) (by omega)
  have b8 : vp_in (328 : Int32) 1189 := e8.1
  have z8 : (328 : Int32).toNatClampNeg = 328 := e8.2
  -- the facts of a world with sums B
  have facts : ∀ (B : F4) (M1 : Wd), MX a v L (x4 X B) M1 → gt M1 (a 0) = some (mo v L a) ∧ gt M1 (a 1) = some (ia 0 1189 (X 1)) ∧ gt M1 (a 22) = some (ia 2 41 (X 22)) ∧ gt M1 (a 23) = some (ia 0 41 (X 23)) ∧ gt M1 (a 24) = some (ia 0 1001 B.1) ∧ gt M1 (a 25) = some (ia 0 1001 B.2.1) ∧ gt M1 (a 26) = some (ia 0 1001 B.2.2.1) ∧ gt M1 (a 27) = some (ia 0 1001 B.2.2.2) := fun B M1 h => ⟨h.1, h.g1, h.g22, h.g23, h.g24, h.g25, h.g26, h.g27⟩
  have L4 : ∀ (B : F4) (d k : Nat) (a2 a3 a4 : Option Value) (M1 : Wd), k + d = 999 → MX a v L (x4 X (B.1, pfx B.2.1 k, B.2.2.1, pfx B.2.2.2 k)) M1 → Fr (mdl a) M0 M1 → (∀ M', MX a v L (x4 X (B.1, pfx B.2.1 999, B.2.2.1, pfx B.2.2.2 999)) M' → Fr (mdl a) M0 M' → Q none M') → Ev G mX6_laysSums 296 [some (.ref (a 0)), some (.int (nI (k + 1))), a2, a3, a4] [] M1 0 0 Q := by
    intro B d
    induction d with
    | zero =>
      intro k a2 a3 a4 M1 hk hW hF kk
      refine Ev.ild1 dX6_laysSums_296 ?_
      refine Ev.sipush (v := 999) dX6_laysSums_297 (by decide) ?_
      refine Ev.icmp_gt (tgt := 343) dX6_laysSums_300 (by decide) (fun c9 => ?_) (fun c9 => absurd (nI_lt (a := 999) (by omega) (by omega)) c9)
      refine Ev.vret dX6_laysSums_343 rfl ?_
      rw [show k = 999 by omega] at hW
      exact kk M1 hW hF
    | succ d ih =>
      intro k a2 a3 a4 M1 hk hW hF kk
      obtain ⟨h0, h1, h22, h23, h24, h25, h26, h27⟩ := facts _ _ hW
      have e1 := lit_in (k + 1) 1001 (by omega) (by omega)
      have b1 := e1.1
      have z1 := e1.2
      have e2 := lit_in k 1001 (by omega) (by omega)
      have b2 : vp_in (nI (k + 1) - 1) 1001 := by rw [nI_pred]; exact e2.1
      have z2 : (nI (k + 1) - 1).toNatClampNeg = k := by rw [nI_pred]; exact e2.2
      refine Ev.ild1 dX6_laysSums_296 ?_
      refine Ev.sipush (v := 999) dX6_laysSums_297 (by decide) ?_
      refine Ev.icmp_gt (tgt := 343) dX6_laysSums_300 (by decide) (fun c9 => absurd c9 (nI_nlt (b := 999) (by omega) (by omega))) (fun c9 => ?_)
      refine Ev.ald0 dX6_laysSums_303 ?_
      apply Ev.getf dX6_laysSums_304 fX6_40
      · repeat (first | assumption | (refine gt_upI ?_; (repeat (first | refine In_up ?_ | refine In_nw ?_)); apply In_of; assumption) | refine gt_rd (by first | assumption | (apply Ne.symm; assumption) | (exact hj _ _ (by omega) (by omega) (by omega)) | omega) ?_ | exact gt_nw (by assumption) | refine gt_odr (by first | assumption | (apply Ne.symm; assumption) | omega) ?_)
      · first | rfl | assumption
      refine Ev.ild1 dX6_laysSums_307 ?_
      refine Ev.dup2 dX6_laysSums_308 rfl rfl ?_
      apply Ev.iald dX6_laysSums_309
      · repeat (first | assumption | (refine gt_upI ?_; (repeat (first | refine In_up ?_ | refine In_nw ?_)); apply In_of; assumption) | refine gt_rd (by first | assumption | (apply Ne.symm; assumption) | (exact hj _ _ (by omega) (by omega) (by omega)) | omega) ?_ | exact gt_nw (by assumption) | refine gt_odr (by first | assumption | (apply Ne.symm; assumption) | omega) ?_)
      · assumption
      refine Ev.ald0 dX6_laysSums_310 ?_
      apply Ev.getf dX6_laysSums_311 fX6_40
      · repeat (first | assumption | (refine gt_upI ?_; (repeat (first | refine In_up ?_ | refine In_nw ?_)); apply In_of; assumption) | refine gt_rd (by first | assumption | (apply Ne.symm; assumption) | (exact hj _ _ (by omega) (by omega) (by omega)) | omega) ?_ | exact gt_nw (by assumption) | refine gt_odr (by first | assumption | (apply Ne.symm; assumption) | omega) ?_)
      · first | rfl | assumption
      refine Ev.ild1 dX6_laysSums_314 ?_
      refine Ev.iconst (v := 1) dX6_laysSums_315 (by decide) ?_
      refine Ev.isub dX6_laysSums_316 ?_
      apply Ev.iald dX6_laysSums_317
      · repeat (first | assumption | (refine gt_upI ?_; (repeat (first | refine In_up ?_ | refine In_nw ?_)); apply In_of; assumption) | refine gt_rd (by first | assumption | (apply Ne.symm; assumption) | (exact hj _ _ (by omega) (by omega) (by omega)) | omega) ?_ | exact gt_nw (by assumption) | refine gt_odr (by first | assumption | (apply Ne.symm; assumption) | omega) ?_)
      · assumption
      refine Ev.iadd dX6_laysSums_318 ?_
      apply Ev.iast dX6_laysSums_319
      · repeat (first | assumption | (refine gt_upI ?_; (repeat (first | refine In_up ?_ | refine In_nw ?_)); apply In_of; assumption) | refine gt_rd (by first | assumption | (apply Ne.symm; assumption) | (exact hj _ _ (by omega) (by omega) (by omega)) | omega) ?_ | exact gt_nw (by assumption) | refine gt_odr (by first | assumption | (apply Ne.symm; assumption) | omega) ?_)
      · assumption
      rw [z1, z2]
      have hW2 := hW.s25 hj (f := upd (pfx B.2.1 k) (k + 1) (pfx B.2.1 k (k + 1) + pfx B.2.1 k k))
      rw [x4_2] at hW2
      have hF2 : Fr (mdl a) M0 (up M1 (a 25) (ia 0 1001 (upd (pfx B.2.1 k) (k + 1) (pfx B.2.1 k (k + 1) + pfx B.2.1 k k)))) := hF.pt (by simp [mdl])
      generalize up M1 (a 25) (ia 0 1001 (upd (pfx B.2.1 k) (k + 1) (pfx B.2.1 k (k + 1) + pfx B.2.1 k k))) = M2 at hW2 hF2 ⊢
      obtain ⟨g0, g1, g22, g23, g24, g25, g26, g27⟩ := facts _ _ hW2
      refine Ev.ald0 dX6_laysSums_320 ?_
      apply Ev.getf dX6_laysSums_321 fX6_46
      · repeat (first | assumption | (refine gt_upI ?_; (repeat (first | refine In_up ?_ | refine In_nw ?_)); apply In_of; assumption) | refine gt_rd (by first | assumption | (apply Ne.symm; assumption) | (exact hj _ _ (by omega) (by omega) (by omega)) | omega) ?_ | exact gt_nw (by assumption) | refine gt_odr (by first | assumption | (apply Ne.symm; assumption) | omega) ?_)
      · first | rfl | assumption
      refine Ev.ild1 dX6_laysSums_324 ?_
      refine Ev.dup2 dX6_laysSums_325 rfl rfl ?_
      apply Ev.iald dX6_laysSums_326
      · repeat (first | assumption | (refine gt_upI ?_; (repeat (first | refine In_up ?_ | refine In_nw ?_)); apply In_of; assumption) | refine gt_rd (by first | assumption | (apply Ne.symm; assumption) | (exact hj _ _ (by omega) (by omega) (by omega)) | omega) ?_ | exact gt_nw (by assumption) | refine gt_odr (by first | assumption | (apply Ne.symm; assumption) | omega) ?_)
      · assumption
      refine Ev.ald0 dX6_laysSums_327 ?_
      apply Ev.getf dX6_laysSums_328 fX6_46
      · repeat (first | assumption | (refine gt_upI ?_; (repeat (first | refine In_up ?_ | refine In_nw ?_)); apply In_of; assumption) | refine gt_rd (by first | assumption | (apply Ne.symm; assumption) | (exact hj _ _ (by omega) (by omega) (by omega)) | omega) ?_ | exact gt_nw (by assumption) | refine gt_odr (by first | assumption | (apply Ne.symm; assumption) | omega) ?_)
      · first | rfl | assumption
      refine Ev.ild1 dX6_laysSums_331 ?_
      refine Ev.iconst (v := 1) dX6_laysSums_332 (by decide) ?_
      refine Ev.isub dX6_laysSums_333 ?_
      apply Ev.iald dX6_laysSums_334
      · repeat (first | assumption | (refine gt_upI ?_; (repeat (first | refine In_up ?_ | refine In_nw ?_)); apply In_of; assumption) | refine gt_rd (by first | assumption | (apply Ne.symm; assumption) | (exact hj _ _ (by omega) (by omega) (by omega)) | omega) ?_ | exact gt_nw (by assumption) | refine gt_odr (by first | assumption | (apply Ne.symm; assumption) | omega) ?_)
      · assumption
      refine Ev.iadd dX6_laysSums_335 ?_
      apply Ev.iast dX6_laysSums_336
      · repeat (first | assumption | (refine gt_upI ?_; (repeat (first | refine In_up ?_ | refine In_nw ?_)); apply In_of; assumption) | refine gt_rd (by first | assumption | (apply Ne.symm; assumption) | (exact hj _ _ (by omega) (by omega) (by omega)) | omega) ?_ | exact gt_nw (by assumption) | refine gt_odr (by first | assumption | (apply Ne.symm; assumption) | omega) ?_)
      · assumption
      rw [z1, z2]
      have hW3 := hW2.s27 hj (f := upd (pfx B.2.2.2 k) (k + 1) (pfx B.2.2.2 k (k + 1) + pfx B.2.2.2 k k))
      rw [x4_4] at hW3
      have hF3 : Fr (mdl a) M0 (up M2 (a 27) (ia 0 1001 (upd (pfx B.2.2.2 k) (k + 1) (pfx B.2.2.2 k (k + 1) + pfx B.2.2.2 k k)))) := hF2.pt (by simp [mdl])
      apply Ev.iinc1 dX6_laysSums_337 rfl rfl
      · first | exact nI_inc _ | rfl
      refine Ev.goto (tgt := 296) dX6_laysSums_340 (by decide) ?_
      exact ih (k + 1) _ _ _ _ (by omega) hW3 hF3 kk
  have L3 : ∀ (B : F4) (d k : Nat) (a2 a3 a4 : Option Value) (M1 : Wd), k + d = 999 → MX a v L (x4 X (sfx B.1 k, B.2.1, sfx B.2.2.1 k, B.2.2.2)) M1 → Fr (mdl a) M0 M1 → (∀ M', MX a v L (x4 X (sfx B.1 999, pfx B.2.1 999, sfx B.2.2.1 999, pfx B.2.2.2 999)) M' → Fr (mdl a) M0 M' → Q none M') → Ev G mX6_laysSums 250 [some (.ref (a 0)), some (.int (nI (999 - k))), a2, a3, a4] [] M1 0 0 Q := by
    intro B d
    induction d with
    | zero =>
      intro k a2 a3 a4 M1 hk hW hF kk
      refine Ev.ild1 dX6_laysSums_250 ?_
      refine Ev.if_le (tgt := 294) dX6_laysSums_251 (by decide) (fun c9 => ?_) (fun c9 => absurd (by rw [show 999 - k = 0 by omega]; decide) c9)
      refine Ev.iconst (v := 1) dX6_laysSums_294 (by decide) ?_
      refine Ev.ist1 dX6_laysSums_295 rfl rfl ?_
      rw [show k = 999 by omega] at hW
      exact L4 (sfx B.1 999, B.2.1, sfx B.2.2.1 999, B.2.2.2) 999 0 _ _ _ M1 (by omega) hW hF kk
    | succ d ih =>
      intro k a2 a3 a4 M1 hk hW hF kk
      obtain ⟨h0, h1, h22, h23, h24, h25, h26, h27⟩ := facts _ _ hW
      have e1 := lit_in (999 - k) 1001 (by omega) (by omega)
      have b1 := e1.1
      have z1 := e1.2
      have e2 := lit_in (999 - k + 1) 1001 (by omega) (by omega)
      have b2 : vp_in (nI (999 - k) + 1) 1001 := by rw [nI_1]; exact e2.1
      have z2 : (nI (999 - k) + 1).toNatClampNeg = 999 - k + 1 := by rw [nI_1]; exact e2.2
      refine Ev.ild1 dX6_laysSums_250 ?_
      refine Ev.if_le (tgt := 294) dX6_laysSums_251 (by decide) (fun c9 => absurd c9 (nI_nle (by omega) (by omega))) (fun c9 => ?_)
      refine Ev.ald0 dX6_laysSums_254 ?_
      apply Ev.getf dX6_laysSums_255 fX6_37
      · repeat (first | assumption | (refine gt_upI ?_; (repeat (first | refine In_up ?_ | refine In_nw ?_)); apply In_of; assumption) | refine gt_rd (by first | assumption | (apply Ne.symm; assumption) | (exact hj _ _ (by omega) (by omega) (by omega)) | omega) ?_ | exact gt_nw (by assumption) | refine gt_odr (by first | assumption | (apply Ne.symm; assumption) | omega) ?_)
      · first | rfl | assumption
      refine Ev.ild1 dX6_laysSums_258 ?_
      refine Ev.dup2 dX6_laysSums_259 rfl rfl ?_
      apply Ev.iald dX6_laysSums_260
      · repeat (first | assumption | (refine gt_upI ?_; (repeat (first | refine In_up ?_ | refine In_nw ?_)); apply In_of; assumption) | refine gt_rd (by first | assumption | (apply Ne.symm; assumption) | (exact hj _ _ (by omega) (by omega) (by omega)) | omega) ?_ | exact gt_nw (by assumption) | refine gt_odr (by first | assumption | (apply Ne.symm; assumption) | omega) ?_)
      · assumption
      refine Ev.ald0 dX6_laysSums_261 ?_
      apply Ev.getf dX6_laysSums_262 fX6_37
      · repeat (first | assumption | (refine gt_upI ?_; (repeat (first | refine In_up ?_ | refine In_nw ?_)); apply In_of; assumption) | refine gt_rd (by first | assumption | (apply Ne.symm; assumption) | (exact hj _ _ (by omega) (by omega) (by omega)) | omega) ?_ | exact gt_nw (by assumption) | refine gt_odr (by first | assumption | (apply Ne.symm; assumption) | omega) ?_)
      · first | rfl | assumption
      refine Ev.ild1 dX6_laysSums_265 ?_
      refine Ev.iconst (v := 1) dX6_laysSums_266 (by decide) ?_
      refine Ev.iadd dX6_laysSums_267 ?_
      apply Ev.iald dX6_laysSums_268
      · repeat (first | assumption | (refine gt_upI ?_; (repeat (first | refine In_up ?_ | refine In_nw ?_)); apply In_of; assumption) | refine gt_rd (by first | assumption | (apply Ne.symm; assumption) | (exact hj _ _ (by omega) (by omega) (by omega)) | omega) ?_ | exact gt_nw (by assumption) | refine gt_odr (by first | assumption | (apply Ne.symm; assumption) | omega) ?_)
      · assumption
      refine Ev.iadd dX6_laysSums_269 ?_
      apply Ev.iast dX6_laysSums_270
      · repeat (first | assumption | (refine gt_upI ?_; (repeat (first | refine In_up ?_ | refine In_nw ?_)); apply In_of; assumption) | refine gt_rd (by first | assumption | (apply Ne.symm; assumption) | (exact hj _ _ (by omega) (by omega) (by omega)) | omega) ?_ | exact gt_nw (by assumption) | refine gt_odr (by first | assumption | (apply Ne.symm; assumption) | omega) ?_)
      · assumption
      rw [z1, z2]
      have hW2 := hW.s24 hj (f := sfx B.1 (k + 1))
      rw [x4_1] at hW2
      have hF2 : Fr (mdl a) M0 (up M1 (a 24) (ia 0 1001 (sfx B.1 (k + 1)))) := hF.pt (by simp [mdl])
      change Ev G mX6_laysSums _ _ _ (up M1 (a 24) (ia 0 1001 (sfx B.1 (k + 1)))) 0 0 Q
      generalize up M1 (a 24) (ia 0 1001 (sfx B.1 (k + 1))) = M2 at hW2 hF2 ⊢
      obtain ⟨g0, g1, g22, g23, g24, g25, g26, g27⟩ := facts _ _ hW2
      refine Ev.ald0 dX6_laysSums_271 ?_
      apply Ev.getf dX6_laysSums_272 fX6_43
      · repeat (first | assumption | (refine gt_upI ?_; (repeat (first | refine In_up ?_ | refine In_nw ?_)); apply In_of; assumption) | refine gt_rd (by first | assumption | (apply Ne.symm; assumption) | (exact hj _ _ (by omega) (by omega) (by omega)) | omega) ?_ | exact gt_nw (by assumption) | refine gt_odr (by first | assumption | (apply Ne.symm; assumption) | omega) ?_)
      · first | rfl | assumption
      refine Ev.ild1 dX6_laysSums_275 ?_
      refine Ev.dup2 dX6_laysSums_276 rfl rfl ?_
      apply Ev.iald dX6_laysSums_277
      · repeat (first | assumption | (refine gt_upI ?_; (repeat (first | refine In_up ?_ | refine In_nw ?_)); apply In_of; assumption) | refine gt_rd (by first | assumption | (apply Ne.symm; assumption) | (exact hj _ _ (by omega) (by omega) (by omega)) | omega) ?_ | exact gt_nw (by assumption) | refine gt_odr (by first | assumption | (apply Ne.symm; assumption) | omega) ?_)
      · assumption
      refine Ev.ald0 dX6_laysSums_278 ?_
      apply Ev.getf dX6_laysSums_279 fX6_43
      · repeat (first | assumption | (refine gt_upI ?_; (repeat (first | refine In_up ?_ | refine In_nw ?_)); apply In_of; assumption) | refine gt_rd (by first | assumption | (apply Ne.symm; assumption) | (exact hj _ _ (by omega) (by omega) (by omega)) | omega) ?_ | exact gt_nw (by assumption) | refine gt_odr (by first | assumption | (apply Ne.symm; assumption) | omega) ?_)
      · first | rfl | assumption
      refine Ev.ild1 dX6_laysSums_282 ?_
      refine Ev.iconst (v := 1) dX6_laysSums_283 (by decide) ?_
      refine Ev.iadd dX6_laysSums_284 ?_
      apply Ev.iald dX6_laysSums_285
      · repeat (first | assumption | (refine gt_upI ?_; (repeat (first | refine In_up ?_ | refine In_nw ?_)); apply In_of; assumption) | refine gt_rd (by first | assumption | (apply Ne.symm; assumption) | (exact hj _ _ (by omega) (by omega) (by omega)) | omega) ?_ | exact gt_nw (by assumption) | refine gt_odr (by first | assumption | (apply Ne.symm; assumption) | omega) ?_)
      · assumption
      refine Ev.iadd dX6_laysSums_286 ?_
      apply Ev.iast dX6_laysSums_287
      · repeat (first | assumption | (refine gt_upI ?_; (repeat (first | refine In_up ?_ | refine In_nw ?_)); apply In_of; assumption) | refine gt_rd (by first | assumption | (apply Ne.symm; assumption) | (exact hj _ _ (by omega) (by omega) (by omega)) | omega) ?_ | exact gt_nw (by assumption) | refine gt_odr (by first | assumption | (apply Ne.symm; assumption) | omega) ?_)
      · assumption
      rw [z1, z2]
      have hW3 := hW2.s26 hj (f := sfx B.2.2.1 (k + 1))
      rw [x4_3] at hW3
      have hF3 : Fr (mdl a) M0 (up M2 (a 26) (ia 0 1001 (sfx B.2.2.1 (k + 1)))) := hF2.pt (by simp [mdl])
      change Ev G mX6_laysSums _ _ _ (up M2 (a 26) (ia 0 1001 (sfx B.2.2.1 (k + 1)))) 0 0 Q
      refine Ev.iinc1 (v := nI (999 - (k + 1))) dX6_laysSums_288 rfl rfl (by rw [show 999 - k = 999 - (k + 1) + 1 by omega]; exact nI_dec _) ?_
      refine Ev.goto (tgt := 250) dX6_laysSums_291 (by decide) ?_
      exact ih (k + 1) _ _ _ _ (by omega) hW3 hF3 kk
  sorry
end MOC
