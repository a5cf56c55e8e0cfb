/-! the reference's sums by prices -/
abbrev F4 : Type := (Nat → Int32) × (Nat → Int32) × (Nat → Int32) × (Nat → Int32)
def ppf (m : Nat → Int32) (k : Nat) : Int32 := if m (8 * k + 1) = 0 then (if m (8 * k + 0) = 0 then 999 else 1) else m (8 * k + 3)
noncomputable def ls2 (m ct my : Nat → Int32) (B : F4) : Nat → F4
  | 0 => B
  | k + 1 => if ct k ≠ 0 then
      (upd (ls2 m ct my B k).1 (ppf m k).toNatClampNeg ((ls2 m ct my B k).1 (ppf m k).toNatClampNeg + (if m (8 * k + 0) = 0 ∧ ¬ m (8 * k + 1) = 4 then my k else 0)),
       upd (ls2 m ct my B k).2.1 (ppf m k).toNatClampNeg ((ls2 m ct my B k).2.1 (ppf m k).toNatClampNeg + (if ¬ m (8 * k + 0) = 0 ∧ ¬ m (8 * k + 1) = 4 then my k else 0)),
       upd (ls2 m ct my B k).2.2.1 (ppf m k).toNatClampNeg ((ls2 m ct my B k).2.2.1 (ppf m k).toNatClampNeg + (if m (8 * k + 0) = 0 ∧ m (8 * k + 1) = 4 then my k else 0)),
       upd (ls2 m ct my B k).2.2.2 (ppf m k).toNatClampNeg ((ls2 m ct my B k).2.2.2 (ppf m k).toNatClampNeg + (if ¬ m (8 * k + 0) = 0 ∧ m (8 * k + 1) = 4 then my k else 0)))
      else ls2 m ct my B k
def sfx (b : Nat → Int32) : Nat → (Nat → Int32)
  | 0 => b
  | d + 1 => upd (sfx b d) (999 - d) (sfx b d (999 - d) + sfx b d (999 - d + 1))
def pfx (b : Nat → Int32) : Nat → (Nat → Int32)
  | 0 => b
  | d + 1 => upd (pfx b d) (d + 1) (pfx b d (d + 1) + pfx b d d)
/-- the four sums in the reference's rows -/
def x4 (X : Nat → Nat → Int32) (B : F4) : Nat → Nat → Int32 := ux (ux (ux (ux X 24 B.1) 25 B.2.1) 26 B.2.2.1) 27 B.2.2.2
theorem x4_1 {X : Nat → Nat → Int32} {B : F4} {f : Nat → Int32} : ux (x4 X B) 24 f = x4 X (f, B.2) := by
  funext j
  simp only [x4, ux]
  by_cases h : j = 24
  · subst h; rfl
  · by_cases h2 : j = 25 <;> by_cases h3 : j = 26 <;> by_cases h4 : j = 27 <;> simp [h, h2, h3, h4]
theorem x4_2 {X : Nat → Nat → Int32} {B : F4} {f : Nat → Int32} : ux (x4 X B) 25 f = x4 X (B.1, f, B.2.2) := by
  funext j
  simp only [x4, ux]
  by_cases h : j = 25
  · subst h; rfl
  · by_cases h3 : j = 26 <;> by_cases h4 : j = 27 <;> simp [h, h3, h4]
theorem x4_3 {X : Nat → Nat → Int32} {B : F4} {f : Nat → Int32} : ux (x4 X B) 26 f = x4 X (B.1, B.2.1, f, B.2.2.2) := by
  funext j
  simp only [x4, ux]
  by_cases h : j = 26
  · subst h; rfl
  · by_cases h4 : j = 27 <;> simp [h, h4]
theorem x4_4 {X : Nat → Nat → Int32} {B : F4} {f : Nat → Int32} : ux (x4 X B) 27 f = x4 X (B.1, B.2.1, B.2.2.1, f) := by
  simp only [x4, ux_u]
theorem x4_id {X : Nat → Nat → Int32} : x4 X (X 24, X 25, X 26, X 27) = X := by
  funext j
  simp only [x4, ux]
  by_cases h : j = 24 <;> by_cases h2 : j = 25 <;> by_cases h3 : j = 26 <;> by_cases h4 : j = 27 <;> simp [h, h2, h3, h4]
section MOC
variable {G : GP} {M0 M : Wd} {a : Nat → Nat} {v : Nat → Int32} {L : Int64} {X : Nat → Nat → Int32} {n : Nat}
set_option maxRecDepth 20000 in
theorem m_laysSums (hj : InjM a) (hW : MX a v L X M) (hF : Fr (mdl a) M0 M) (hn : X 1 328 = nI n) (hn2 : n ≤ 41) (hp : ∀ k, k < n → X 22 k ≠ 0 → ∃ p, p < 1001 ∧ ppf (X 1) k = nI p) :
    CtV G mX6_laysSums [.ref (a 0)] M 0 0 (fun M' => MX a v L (x4 X (sfx (ls2 (X 1) (X 22) (X 23) (fl0 (X 24) 0 1001, fl0 (X 25) 0 1001, fl0 (X 26) 0 1001, fl0 (X 27) 0 1001) n).1 999, pfx (ls2 (X 1) (X 22) (X 23) (fl0 (X 24) 0 1001, fl0 (X 25) 0 1001, fl0 (X 26) 0 1001, fl0 (X 27) 0 1001) n).2.1 999, sfx (ls2 (X 1) (X 22) (X 23) (fl0 (X 24) 0 1001, fl0 (X 25) 0 1001, fl0 (X 26) 0 1001, fl0 (X 27) 0 1001) n).2.2.1 999, pfx (ls2 (X 1) (X 22) (X 23) (fl0 (X 24) 0 1001, fl0 (X 25) 0 1001, fl0 (X 26) 0 1001, fl0 (X 27) 0 1001) n).2.2.2 999)) M' ∧ Fr (mdl a) M0 M') := by
  generalize hQ : (fun (u : Option Value) (M' : Wd) => u = none ∧ MX a v L (x4 X (sfx (ls2 (X 1) (X 22) (X 23) (fl0 (X 24) 0 1001, fl0 (X 25) 0 1001, fl0 (X 26) 0 1001, fl0 (X 27) 0 1001) n).1 999, pfx (ls2 (X 1) (X 22) (X 23) (fl0 (X 24) 0 1001, fl0 (X 25) 0 1001, fl0 (X 26) 0 1001, fl0 (X 27) 0 1001) n).2.1 999, sfx (ls2 (X 1) (X 22) (X 23) (fl0 (X 24) 0 1001, fl0 (X 25) 0 1001, fl0 (X 26) 0 1001, fl0 (X 27) 0 1001) n).2.2.1 999, pfx (ls2 (X 1) (X 22) (X 23) (fl0 (X 24) 0 1001, fl0 (X 25) 0 1001, fl0 (X 26) 0 1001, fl0 (X 27) 0 1001) n).2.2.2 999)) M' ∧ Fr (mdl a) M0 M') = Q
  have e8 := lit_in 328 1189 (by omega) (by omega)
  have b8 : vp_in (328 : Int32) 1189 := e8.1
  have z8 : (328 : Int32).toNatClampNeg = 328 := e8.2
  -- the facts of a world with sums B
  have facts : ∀ (B : F4) (M1 : Wd), MX a v L (x4 X B) M1 → gt M1 (a 0) = some (mo v L a) ∧ gt M1 (a 1) = some (ia 0 1189 (X 1)) ∧ gt M1 (a 22) = some (ia 2 41 (X 22)) ∧ gt M1 (a 23) = some (ia 0 41 (X 23)) ∧ gt M1 (a 24) = some (ia 0 1001 B.1) ∧ gt M1 (a 25) = some (ia 0 1001 B.2.1) ∧ gt M1 (a 26) = some (ia 0 1001 B.2.2.1) ∧ gt M1 (a 27) = some (ia 0 1001 B.2.2.2) := fun B M1 h => ⟨h.1, h.g1, h.g22, h.g23, h.g24, h.g25, h.g26, h.g27⟩
  have L4 : ∀ (B : F4) (d k : Nat) (a2 a3 a4 : Option Value) (M1 : Wd), k + d = 999 → MX a v L (x4 X (B.1, pfx B.2.1 k, B.2.2.1, pfx B.2.2.2 k)) M1 → Fr (mdl a) M0 M1 → (∀ M', MX a v L (x4 X (B.1, pfx B.2.1 999, B.2.2.1, pfx B.2.2.2 999)) M' → Fr (mdl a) M0 M' → Q none M') → Ev G mX6_laysSums 296 [some (.ref (a 0)), some (.int (nI (k + 1))), a2, a3, a4] [] M1 0 0 Q := by
    intro B d
    induction d with
    | zero =>
      intro k a2 a3 a4 M1 hk hW hF kk
      refine Ev.ild1 dX6_laysSums_296 ?_
      refine Ev.sipush (v := 999) dX6_laysSums_297 (by decide) ?_
      refine Ev.icmp_gt (tgt := 343) dX6_laysSums_300 (by decide) (fun c9 => ?_) (fun c9 => absurd (nI_lt (a := 999) (by omega) (by omega)) c9)
      refine Ev.vret dX6_laysSums_343 rfl ?_
      rw [show k = 999 by omega] at hW
      exact kk M1 hW hF
    | succ d ih =>
      intro k a2 a3 a4 M1 hk hW hF kk
      obtain ⟨h0, h1, h22, h23, h24, h25, h26, h27⟩ := facts _ _ hW
      have e1 := lit_in (k + 1) 1001 (by omega) (by omega)
      have b1 := e1.1
      have z1 := e1.2
      have e2 := lit_in k 1001 (by omega) (by omega)
      have b2 : vp_in (nI (k + 1) - 1) 1001 := by rw [nI_pred]; exact e2.1
      have z2 : (nI (k + 1) - 1).toNatClampNeg = k := by rw [nI_pred]; exact e2.2
      refine Ev.ild1 dX6_laysSums_296 ?_
      refine Ev.sipush (v := 999) dX6_laysSums_297 (by decide) ?_
      refine Ev.icmp_gt (tgt := 343) dX6_laysSums_300 (by decide) (fun c9 => absurd c9 (nI_nlt (a := 999) (by omega) (by omega))) (fun c9 => ?_)
      refine Ev.ald0 dX6_laysSums_303 ?_
      apply Ev.getf dX6_laysSums_304 fX6_40
      · repeat (first | assumption | (refine gt_upI ?_; (repeat (first | refine In_up ?_ | refine In_nw ?_)); apply In_of; assumption) | refine gt_rd (by first | assumption | (apply Ne.symm; assumption) | (exact hj _ _ (by omega) (by omega) (by omega)) | omega) ?_ | exact gt_nw (by assumption) | refine gt_odr (by first | assumption | (apply Ne.symm; assumption) | omega) ?_)
      · first | rfl | assumption
      refine Ev.ild1 dX6_laysSums_307 ?_
      refine Ev.dup2 dX6_laysSums_308 rfl rfl ?_
      apply Ev.iald dX6_laysSums_309
      · repeat (first | assumption | (refine gt_upI ?_; (repeat (first | refine In_up ?_ | refine In_nw ?_)); apply In_of; assumption) | refine gt_rd (by first | assumption | (apply Ne.symm; assumption) | (exact hj _ _ (by omega) (by omega) (by omega)) | omega) ?_ | exact gt_nw (by assumption) | refine gt_odr (by first | assumption | (apply Ne.symm; assumption) | omega) ?_)
      · assumption
      refine Ev.ald0 dX6_laysSums_310 ?_
      apply Ev.getf dX6_laysSums_311 fX6_40
      · repeat (first | assumption | (refine gt_upI ?_; (repeat (first | refine In_up ?_ | refine In_nw ?_)); apply In_of; assumption) | refine gt_rd (by first | assumption | (apply Ne.symm; assumption) | (exact hj _ _ (by omega) (by omega) (by omega)) | omega) ?_ | exact gt_nw (by assumption) | refine gt_odr (by first | assumption | (apply Ne.symm; assumption) | omega) ?_)
      · first | rfl | assumption
      refine Ev.ild1 dX6_laysSums_314 ?_
      refine Ev.iconst (v := 1) dX6_laysSums_315 (by decide) ?_
      refine Ev.isub dX6_laysSums_316 ?_
      apply Ev.iald dX6_laysSums_317
      · repeat (first | assumption | (refine gt_upI ?_; (repeat (first | refine In_up ?_ | refine In_nw ?_)); apply In_of; assumption) | refine gt_rd (by first | assumption | (apply Ne.symm; assumption) | (exact hj _ _ (by omega) (by omega) (by omega)) | omega) ?_ | exact gt_nw (by assumption) | refine gt_odr (by first | assumption | (apply Ne.symm; assumption) | omega) ?_)
      · assumption
      refine Ev.iadd dX6_laysSums_318 ?_
      apply Ev.iast dX6_laysSums_319
      · repeat (first | assumption | (refine gt_upI ?_; (repeat (first | refine In_up ?_ | refine In_nw ?_)); apply In_of; assumption) | refine gt_rd (by first | assumption | (apply Ne.symm; assumption) | (exact hj _ _ (by omega) (by omega) (by omega)) | omega) ?_ | exact gt_nw (by assumption) | refine gt_odr (by first | assumption | (apply Ne.symm; assumption) | omega) ?_)
      · assumption
      rw [z1, z2]
      have hW2 := hW.s25 hj (f := upd (pfx B.2.1 k) (k + 1) (pfx B.2.1 k (k + 1) + pfx B.2.1 k k))
      rw [x4_2] at hW2
      have hF2 : Fr (mdl a) M0 (up M1 (a 25) (ia 0 1001 (upd (pfx B.2.1 k) (k + 1) (pfx B.2.1 k (k + 1) + pfx B.2.1 k k)))) := hF.pt (by simp [mdl])
      generalize up M1 (a 25) (ia 0 1001 (upd (pfx B.2.1 k) (k + 1) (pfx B.2.1 k (k + 1) + pfx B.2.1 k k))) = M2 at hW2 hF2 ⊢
      obtain ⟨g0, g1, g22, g23, g24, g25, g26, g27⟩ := facts _ _ hW2
      refine Ev.ald0 dX6_laysSums_320 ?_
      apply Ev.getf dX6_laysSums_321 fX6_46
      · repeat (first | assumption | (refine gt_upI ?_; (repeat (first | refine In_up ?_ | refine In_nw ?_)); apply In_of; assumption) | refine gt_rd (by first | assumption | (apply Ne.symm; assumption) | (exact hj _ _ (by omega) (by omega) (by omega)) | omega) ?_ | exact gt_nw (by assumption) | refine gt_odr (by first | assumption | (apply Ne.symm; assumption) | omega) ?_)
      · first | rfl | assumption
      refine Ev.ild1 dX6_laysSums_324 ?_
      refine Ev.dup2 dX6_laysSums_325 rfl rfl ?_
      apply Ev.iald dX6_laysSums_326
      · repeat (first | assumption | (refine gt_upI ?_; (repeat (first | refine In_up ?_ | refine In_nw ?_)); apply In_of; assumption) | refine gt_rd (by first | assumption | (apply Ne.symm; assumption) | (exact hj _ _ (by omega) (by omega) (by omega)) | omega) ?_ | exact gt_nw (by assumption) | refine gt_odr (by first | assumption | (apply Ne.symm; assumption) | omega) ?_)
      · assumption
      refine Ev.ald0 dX6_laysSums_327 ?_
      apply Ev.getf dX6_laysSums_328 fX6_46
      · repeat (first | assumption | (refine gt_upI ?_; (repeat (first | refine In_up ?_ | refine In_nw ?_)); apply In_of; assumption) | refine gt_rd (by first | assumption | (apply Ne.symm; assumption) | (exact hj _ _ (by omega) (by omega) (by omega)) | omega) ?_ | exact gt_nw (by assumption) | refine gt_odr (by first | assumption | (apply Ne.symm; assumption) | omega) ?_)
      · first | rfl | assumption
      refine Ev.ild1 dX6_laysSums_331 ?_
      refine Ev.iconst (v := 1) dX6_laysSums_332 (by decide) ?_
      refine Ev.isub dX6_laysSums_333 ?_
      apply Ev.iald dX6_laysSums_334
      · repeat (first | assumption | (refine gt_upI ?_; (repeat (first | refine In_up ?_ | refine In_nw ?_)); apply In_of; assumption) | refine gt_rd (by first | assumption | (apply Ne.symm; assumption) | (exact hj _ _ (by omega) (by omega) (by omega)) | omega) ?_ | exact gt_nw (by assumption) | refine gt_odr (by first | assumption | (apply Ne.symm; assumption) | omega) ?_)
      · assumption
      refine Ev.iadd dX6_laysSums_335 ?_
      apply Ev.iast dX6_laysSums_336
      · repeat (first | assumption | (refine gt_upI ?_; (repeat (first | refine In_up ?_ | refine In_nw ?_)); apply In_of; assumption) | refine gt_rd (by first | assumption | (apply Ne.symm; assumption) | (exact hj _ _ (by omega) (by omega) (by omega)) | omega) ?_ | exact gt_nw (by assumption) | refine gt_odr (by first | assumption | (apply Ne.symm; assumption) | omega) ?_)
      · assumption
      rw [z1, z2]
      have hW3 := hW2.s27 hj (f := upd (pfx B.2.2.2 k) (k + 1) (pfx B.2.2.2 k (k + 1) + pfx B.2.2.2 k k))
      rw [x4_4] at hW3
      have hF3 : Fr (mdl a) M0 (up M2 (a 27) (ia 0 1001 (upd (pfx B.2.2.2 k) (k + 1) (pfx B.2.2.2 k (k + 1) + pfx B.2.2.2 k k)))) := hF2.pt (by simp [mdl])
      apply Ev.iinc1 dX6_laysSums_337 rfl rfl
      · first | exact nI_inc _ | rfl
      refine Ev.goto (tgt := 296) dX6_laysSums_340 (by decide) ?_
      exact ih (k + 1) _ _ _ _ (by omega) hW3 hF3 kk
  have L3 : ∀ (B : F4) (d k : Nat) (a2 a3 a4 : Option Value) (M1 : Wd), k + d = 999 → MX a v L (x4 X (sfx B.1 k, B.2.1, sfx B.2.2.1 k, B.2.2.2)) M1 → Fr (mdl a) M0 M1 → (∀ M', MX a v L (x4 X (sfx B.1 999, pfx B.2.1 999, sfx B.2.2.1 999, pfx B.2.2.2 999)) M' → Fr (mdl a) M0 M' → Q none M') → Ev G mX6_laysSums 250 [some (.ref (a 0)), some (.int (nI (999 - k))), a2, a3, a4] [] M1 0 0 Q := by
    intro B d
    induction d with
    | zero =>
      intro k a2 a3 a4 M1 hk hW hF kk
      refine Ev.ild1 dX6_laysSums_250 ?_
      refine Ev.if_le (tgt := 294) dX6_laysSums_251 (by decide) (fun c9 => ?_) (fun c9 => absurd (by rw [show 999 - k = 0 by omega]; decide) c9)
      refine Ev.iconst (v := 1) dX6_laysSums_294 (by decide) ?_
      refine Ev.ist1 dX6_laysSums_295 rfl rfl ?_
      rw [show k = 999 by omega] at hW
      exact L4 (sfx B.1 999, B.2.1, sfx B.2.2.1 999, B.2.2.2) 999 0 _ _ _ M1 (by omega) hW hF kk
    | succ d ih =>
      intro k a2 a3 a4 M1 hk hW hF kk
      obtain ⟨h0, h1, h22, h23, h24, h25, h26, h27⟩ := facts _ _ hW
      have e1 := lit_in (999 - k) 1001 (by omega) (by omega)
      have b1 := e1.1
      have z1 := e1.2
      have e2 := lit_in (999 - k + 1) 1001 (by omega) (by omega)
      have b2 : vp_in (nI (999 - k) + 1) 1001 := by rw [nI_1]; exact e2.1
      have z2 : (nI (999 - k) + 1).toNatClampNeg = 999 - k + 1 := by rw [nI_1]; exact e2.2
      refine Ev.ild1 dX6_laysSums_250 ?_
      refine Ev.if_le (tgt := 294) dX6_laysSums_251 (by decide) (fun c9 => absurd c9 (nI_nle (by omega) (by omega))) (fun c9 => ?_)
      refine Ev.ald0 dX6_laysSums_254 ?_
      apply Ev.getf dX6_laysSums_255 fX6_37
      · repeat (first | assumption | (refine gt_upI ?_; (repeat (first | refine In_up ?_ | refine In_nw ?_)); apply In_of; assumption) | refine gt_rd (by first | assumption | (apply Ne.symm; assumption) | (exact hj _ _ (by omega) (by omega) (by omega)) | omega) ?_ | exact gt_nw (by assumption) | refine gt_odr (by first | assumption | (apply Ne.symm; assumption) | omega) ?_)
      · first | rfl | assumption
      refine Ev.ild1 dX6_laysSums_258 ?_
      refine Ev.dup2 dX6_laysSums_259 rfl rfl ?_
      apply Ev.iald dX6_laysSums_260
      · repeat (first | assumption | (refine gt_upI ?_; (repeat (first | refine In_up ?_ | refine In_nw ?_)); apply In_of; assumption) | refine gt_rd (by first | assumption | (apply Ne.symm; assumption) | (exact hj _ _ (by omega) (by omega) (by omega)) | omega) ?_ | exact gt_nw (by assumption) | refine gt_odr (by first | assumption | (apply Ne.symm; assumption) | omega) ?_)
      · assumption
      refine Ev.ald0 dX6_laysSums_261 ?_
      apply Ev.getf dX6_laysSums_262 fX6_37
      · repeat (first | assumption | (refine gt_upI ?_; (repeat (first | refine In_up ?_ | refine In_nw ?_)); apply In_of; assumption) | refine gt_rd (by first | assumption | (apply Ne.symm; assumption) | (exact hj _ _ (by omega) (by omega) (by omega)) | omega) ?_ | exact gt_nw (by assumption) | refine gt_odr (by first | assumption | (apply Ne.symm; assumption) | omega) ?_)
      · first | rfl | assumption
      refine Ev.ild1 dX6_laysSums_265 ?_
      refine Ev.iconst (v := 1) dX6_laysSums_266 (by decide) ?_
      refine Ev.iadd dX6_laysSums_267 ?_
      apply Ev.iald dX6_laysSums_268
      · repeat (first | assumption | (refine gt_upI ?_; (repeat (first | refine In_up ?_ | refine In_nw ?_)); apply In_of; assumption) | refine gt_rd (by first | assumption | (apply Ne.symm; assumption) | (exact hj _ _ (by omega) (by omega) (by omega)) | omega) ?_ | exact gt_nw (by assumption) | refine gt_odr (by first | assumption | (apply Ne.symm; assumption) | omega) ?_)
      · assumption
      refine Ev.iadd dX6_laysSums_269 ?_
      apply Ev.iast dX6_laysSums_270
      · repeat (first | assumption | (refine gt_upI ?_; (repeat (first | refine In_up ?_ | refine In_nw ?_)); apply In_of; assumption) | refine gt_rd (by first | assumption | (apply Ne.symm; assumption) | (exact hj _ _ (by omega) (by omega) (by omega)) | omega) ?_ | exact gt_nw (by assumption) | refine gt_odr (by first | assumption | (apply Ne.symm; assumption) | omega) ?_)
      · assumption
      rw [z1, z2]
      have hW2 := hW.s24 hj (f := sfx B.1 (k + 1))
      rw [x4_1] at hW2
      have hF2 : Fr (mdl a) M0 (up M1 (a 24) (ia 0 1001 (sfx B.1 (k + 1)))) := hF.pt (by simp [mdl])
      change Ev G mX6_laysSums _ _ _ (up M1 (a 24) (ia 0 1001 (sfx B.1 (k + 1)))) 0 0 Q
      generalize up M1 (a 24) (ia 0 1001 (sfx B.1 (k + 1))) = M2 at hW2 hF2 ⊢
      obtain ⟨g0, g1, g22, g23, g24, g25, g26, g27⟩ := facts _ _ hW2
      refine Ev.ald0 dX6_laysSums_271 ?_
      apply Ev.getf dX6_laysSums_272 fX6_43
      · repeat (first | assumption | (refine gt_upI ?_; (repeat (first | refine In_up ?_ | refine In_nw ?_)); apply In_of; assumption) | refine gt_rd (by first | assumption | (apply Ne.symm; assumption) | (exact hj _ _ (by omega) (by omega) (by omega)) | omega) ?_ | exact gt_nw (by assumption) | refine gt_odr (by first | assumption | (apply Ne.symm; assumption) | omega) ?_)
      · first | rfl | assumption
      refine Ev.ild1 dX6_laysSums_275 ?_
      refine Ev.dup2 dX6_laysSums_276 rfl rfl ?_
      apply Ev.iald dX6_laysSums_277
      · repeat (first | assumption | (refine gt_upI ?_; (repeat (first | refine In_up ?_ | refine In_nw ?_)); apply In_of; assumption) | refine gt_rd (by first | assumption | (apply Ne.symm; assumption) | (exact hj _ _ (by omega) (by omega) (by omega)) | omega) ?_ | exact gt_nw (by assumption) | refine gt_odr (by first | assumption | (apply Ne.symm; assumption) | omega) ?_)
      · assumption
      refine Ev.ald0 dX6_laysSums_278 ?_
      apply Ev.getf dX6_laysSums_279 fX6_43
      · repeat (first | assumption | (refine gt_upI ?_; (repeat (first | refine In_up ?_ | refine In_nw ?_)); apply In_of; assumption) | refine gt_rd (by first | assumption | (apply Ne.symm; assumption) | (exact hj _ _ (by omega) (by omega) (by omega)) | omega) ?_ | exact gt_nw (by assumption) | refine gt_odr (by first | assumption | (apply Ne.symm; assumption) | omega) ?_)
      · first | rfl | assumption
      refine Ev.ild1 dX6_laysSums_282 ?_
      refine Ev.iconst (v := 1) dX6_laysSums_283 (by decide) ?_
      refine Ev.iadd dX6_laysSums_284 ?_
      apply Ev.iald dX6_laysSums_285
      · repeat (first | assumption | (refine gt_upI ?_; (repeat (first | refine In_up ?_ | refine In_nw ?_)); apply In_of; assumption) | refine gt_rd (by first | assumption | (apply Ne.symm; assumption) | (exact hj _ _ (by omega) (by omega) (by omega)) | omega) ?_ | exact gt_nw (by assumption) | refine gt_odr (by first | assumption | (apply Ne.symm; assumption) | omega) ?_)
      · assumption
      refine Ev.iadd dX6_laysSums_286 ?_
      apply Ev.iast dX6_laysSums_287
      · repeat (first | assumption | (refine gt_upI ?_; (repeat (first | refine In_up ?_ | refine In_nw ?_)); apply In_of; assumption) | refine gt_rd (by first | assumption | (apply Ne.symm; assumption) | (exact hj _ _ (by omega) (by omega) (by omega)) | omega) ?_ | exact gt_nw (by assumption) | refine gt_odr (by first | assumption | (apply Ne.symm; assumption) | omega) ?_)
      · assumption
      rw [z1, z2]
      have hW3 := hW2.s26 hj (f := sfx B.2.2.1 (k + 1))
      rw [x4_3] at hW3
      have hF3 : Fr (mdl a) M0 (up M2 (a 26) (ia 0 1001 (sfx B.2.2.1 (k + 1)))) := hF2.pt (by simp [mdl])
      change Ev G mX6_laysSums _ _ _ (up M2 (a 26) (ia 0 1001 (sfx B.2.2.1 (k + 1)))) 0 0 Q
      refine Ev.iinc1 (v := nI (999 - (k + 1))) dX6_laysSums_288 rfl rfl (by rw [show 999 - k = 999 - (k + 1) + 1 by omega]; exact nI_dec _) ?_
      refine Ev.goto (tgt := 250) dX6_laysSums_291 (by decide) ?_
      exact ih (k + 1) _ _ _ _ (by omega) hW3 hF3 kk
  have L2 : ∀ (d k : Nat) (a2 a3 a4 : Option Value) (M1 : Wd), k + d = n → MX a v L (x4 X (ls2 (X 1) (X 22) (X 23) (fl0 (X 24) 0 1001, fl0 (X 25) 0 1001, fl0 (X 26) 0 1001, fl0 (X 27) 0 1001) k)) M1 → Fr (mdl a) M0 M1 → (∀ M', MX a v L (x4 X (sfx (ls2 (X 1) (X 22) (X 23) (fl0 (X 24) 0 1001, fl0 (X 25) 0 1001, fl0 (X 26) 0 1001, fl0 (X 27) 0 1001) n).1 999, pfx (ls2 (X 1) (X 22) (X 23) (fl0 (X 24) 0 1001, fl0 (X 25) 0 1001, fl0 (X 26) 0 1001, fl0 (X 27) 0 1001) n).2.1 999, sfx (ls2 (X 1) (X 22) (X 23) (fl0 (X 24) 0 1001, fl0 (X 25) 0 1001, fl0 (X 26) 0 1001, fl0 (X 27) 0 1001) n).2.2.1 999, pfx (ls2 (X 1) (X 22) (X 23) (fl0 (X 24) 0 1001, fl0 (X 25) 0 1001, fl0 (X 26) 0 1001, fl0 (X 27) 0 1001) n).2.2.2 999)) M' → Fr (mdl a) M0 M' → Q none M') → Ev G mX6_laysSums 45 [some (.ref (a 0)), some (.int (nI k)), a2, a3, a4] [] M1 0 0 Q := by
    intro d
    induction d with
    | zero =>
      intro k a2 a3 a4 M1 hk hW hF kk
      obtain ⟨h0, h1, h22, h23, h24, h25, h26, h27⟩ := facts _ _ hW
      refine Ev.ild1 dX6_laysSums_45 ?_
      refine Ev.ald0 dX6_laysSums_46 ?_
      apply Ev.getf dX6_laysSums_47 fX6_13
      · repeat (first | assumption | (refine gt_upI ?_; (repeat (first | refine In_up ?_ | refine In_nw ?_)); apply In_of; assumption) | refine gt_rd (by first | assumption | (apply Ne.symm; assumption) | (exact hj _ _ (by omega) (by omega) (by omega)) | omega) ?_ | exact gt_nw (by assumption) | refine gt_odr (by first | assumption | (apply Ne.symm; assumption) | omega) ?_)
      · first | rfl | assumption
      refine Ev.sipush (v := 328) dX6_laysSums_50 (by decide) ?_
      apply Ev.iald dX6_laysSums_53
      · repeat (first | assumption | (refine gt_upI ?_; (repeat (first | refine In_up ?_ | refine In_nw ?_)); apply In_of; assumption) | refine gt_rd (by first | assumption | (apply Ne.symm; assumption) | (exact hj _ _ (by omega) (by omega) (by omega)) | omega) ?_ | exact gt_nw (by assumption) | refine gt_odr (by first | assumption | (apply Ne.symm; assumption) | omega) ?_)
      · assumption
      rw [z8, hn]
      refine Ev.icmp_ge (tgt := 246) dX6_laysSums_54 (by decide) (fun c9 => ?_) (fun c9 => absurd (nI_le (by omega) (by omega)) c9)
      refine Ev.sipush (v := 999) dX6_laysSums_246 (by decide) ?_
      refine Ev.ist1 dX6_laysSums_249 rfl rfl ?_
      rw [show k = n by omega] at hW
      exact L3 _ 999 0 _ _ _ M1 (by omega) hW hF kk
    | succ d ih =>
      intro k a2 a3 a4 M1 hk hW hF kk
      obtain ⟨h0, h1, h22, h23, h24, h25, h26, h27⟩ := facts _ _ hW
      have e1 := lit_in k 41 (by omega) (by omega)
      have b1 := e1.1
      have z1 := e1.2
      refine Ev.ild1 dX6_laysSums_45 ?_
      refine Ev.ald0 dX6_laysSums_46 ?_
      apply Ev.getf dX6_laysSums_47 fX6_13
      · repeat (first | assumption | (refine gt_upI ?_; (repeat (first | refine In_up ?_ | refine In_nw ?_)); apply In_of; assumption) | refine gt_rd (by first | assumption | (apply Ne.symm; assumption) | (exact hj _ _ (by omega) (by omega) (by omega)) | omega) ?_ | exact gt_nw (by assumption) | refine gt_odr (by first | assumption | (apply Ne.symm; assumption) | omega) ?_)
      · first | rfl | assumption
      refine Ev.sipush (v := 328) dX6_laysSums_50 (by decide) ?_
      apply Ev.iald dX6_laysSums_53
      · repeat (first | assumption | (refine gt_upI ?_; (repeat (first | refine In_up ?_ | refine In_nw ?_)); apply In_of; assumption) | refine gt_rd (by first | assumption | (apply Ne.symm; assumption) | (exact hj _ _ (by omega) (by omega) (by omega)) | omega) ?_ | exact gt_nw (by assumption) | refine gt_odr (by first | assumption | (apply Ne.symm; assumption) | omega) ?_)
      · assumption
      rw [z8, hn]
      refine Ev.icmp_ge (tgt := 246) dX6_laysSums_54 (by decide) (fun c9 => absurd c9 (nI_ge (by omega) (by omega))) (fun c9 => ?_)
      refine Ev.ald0 dX6_laysSums_57 ?_
      apply Ev.getf dX6_laysSums_58 fX6_30
      · repeat (first | assumption | (refine gt_upI ?_; (repeat (first | refine In_up ?_ | refine In_nw ?_)); apply In_of; assumption) | refine gt_rd (by first | assumption | (apply Ne.symm; assumption) | (exact hj _ _ (by omega) (by omega) (by omega)) | omega) ?_ | exact gt_nw (by assumption) | refine gt_odr (by first | assumption | (apply Ne.symm; assumption) | omega) ?_)
      · first | rfl | assumption
      refine Ev.ild1 dX6_laysSums_61 ?_
      apply Ev.zald dX6_laysSums_62
      · repeat (first | assumption | (refine gt_upI ?_; (repeat (first | refine In_up ?_ | refine In_nw ?_)); apply In_of; assumption) | refine gt_rd (by first | assumption | (apply Ne.symm; assumption) | (exact hj _ _ (by omega) (by omega) (by omega)) | omega) ?_ | exact gt_nw (by assumption) | refine gt_odr (by first | assumption | (apply Ne.symm; assumption) | omega) ?_)
      · assumption
      rw [z1]
      refine Ev.if_eq (tgt := 240) dX6_laysSums_63 (by decide) (fun c63 => ?_) (fun c63 => ?_)
      · apply Ev.iinc1 dX6_laysSums_240 rfl rfl
        · first | exact nI_inc _ | rfl
        refine Ev.goto (tgt := 45) dX6_laysSums_243 (by decide) ?_
        refine ih (k + 1) _ _ _ _ (by omega) ?_ hF kk
        rw [ls2, if_neg (fun q => q c63)]
        exact hW
      · obtain ⟨pn, hpn, hpp⟩ := hp k (by omega) c63
        have e2 := lit_in pn 1001 hpn (by omega)
        have b2 := e2.1
        have z2 := e2.2
        have S4 : ∀ (u w : Int32) (B : F4) (M1 : Wd), u = (if X 1 (8 * k + 0) = 0 then 1 else 0) → w = (if X 1 (8 * k + 1) = 4 then 1 else 0) → MX a v L (x4 X B) M1 → Fr (mdl a) M0 M1 → (∀ M2, MX a v L (x4 X (B.1, B.2.1, B.2.2.1, upd B.2.2.2 pn (B.2.2.2 pn + (if ¬ X 1 (8 * k + 0) = 0 ∧ X 1 (8 * k + 1) = 4 then X 23 k else 0)))) M2 → Fr (mdl a) M0 M2 → Ev G mX6_laysSums 240 [some (.ref (a 0)), some (.int (nI k)), some (.int u), some (.int (nI pn)), some (.int w)] [] M2 0 0 Q) → Ev G mX6_laysSums 212 [some (.ref (a 0)), some (.int (nI k)), some (.int u), some (.int (nI pn)), some (.int w)] [] M1 0 0 Q := by
          intro u w B M1 hu hw hW hF kk
          obtain ⟨h0, h1, h22, h23, h24, h25, h26, h27⟩ := facts _ _ hW
          have J : ∀ x : Int32, x = (if ¬ X 1 (8 * k + 0) = 0 ∧ X 1 (8 * k + 1) = 4 then X 23 k else 0) → Ev G mX6_laysSums 238 [some (.ref (a 0)), some (.int (nI k)), some (.int u), some (.int (nI pn)), some (.int w)] [.int x, .int (B.2.2.2 pn), .int (nI pn), .ref (a 27)] M1 0 0 Q := by
            intro x hx
            refine Ev.iadd dX6_laysSums_238 ?_
            apply Ev.iast dX6_laysSums_239 h27 b2
            rw [z2, hx]
            have hW2 := hW.s27 hj (f := upd (B.2.2.2) pn (B.2.2.2 pn + (if ¬ X 1 (8 * k + 0) = 0 ∧ X 1 (8 * k + 1) = 4 then X 23 k else 0)))
            rw [x4_4] at hW2
            exact kk _ hW2 (hF.pt (by simp [mdl]))
          refine Ev.ald0 dX6_laysSums_212 ?_
          apply Ev.getf dX6_laysSums_213 fX6_46
          · repeat (first | assumption | (refine gt_upI ?_; (repeat (first | refine In_up ?_ | refine In_nw ?_)); apply In_of; assumption) | refine gt_rd (by first | assumption | (apply Ne.symm; assumption) | (exact hj _ _ (by omega) (by omega) (by omega)) | omega) ?_ | exact gt_nw (by assumption) | refine gt_odr (by first | assumption | (apply Ne.symm; assumption) | omega) ?_)
          · first | rfl | assumption
          refine Ev.ild3 dX6_laysSums_216 ?_
          refine Ev.dup2 dX6_laysSums_217 rfl rfl ?_
          apply Ev.iald dX6_laysSums_218
          · repeat (first | assumption | (refine gt_upI ?_; (repeat (first | refine In_up ?_ | refine In_nw ?_)); apply In_of; assumption) | refine gt_rd (by first | assumption | (apply Ne.symm; assumption) | (exact hj _ _ (by omega) (by omega) (by omega)) | omega) ?_ | exact gt_nw (by assumption) | refine gt_odr (by first | assumption | (apply Ne.symm; assumption) | omega) ?_)
          · assumption
          refine Ev.ild2 dX6_laysSums_219 ?_
          rw [z2]
          refine Ev.if_ne (tgt := 237) dX6_laysSums_220 (by decide) (fun c220 => ?_) (fun c220 => ?_)
          · refine Ev.iconst (v := 0) dX6_laysSums_237 (by decide) ?_
            exact J 0 (if_neg (fun q => q.1 (v01_t hu c220))).symm
          · refine Ev.ild4 dX6_laysSums_223 ?_
            refine Ev.if_eq (tgt := 237) dX6_laysSums_225 (by decide) (fun c225 => ?_) (fun c225 => ?_)
            · refine Ev.iconst (v := 0) dX6_laysSums_237 (by decide) ?_
              exact J 0 (if_neg (fun q => v01_f hw c225 q.2)).symm
            · refine Ev.ald0 dX6_laysSums_228 ?_
              apply Ev.getf dX6_laysSums_229 fX6_34
              · repeat (first | assumption | (refine gt_upI ?_; (repeat (first | refine In_up ?_ | refine In_nw ?_)); apply In_of; assumption) | refine gt_rd (by first | assumption | (apply Ne.symm; assumption) | (exact hj _ _ (by omega) (by omega) (by omega)) | omega) ?_ | exact gt_nw (by assumption) | refine gt_odr (by first | assumption | (apply Ne.symm; assumption) | omega) ?_)
              · first | rfl | assumption
              refine Ev.ild1 dX6_laysSums_232 ?_
              apply Ev.iald dX6_laysSums_233
              · repeat (first | assumption | (refine gt_upI ?_; (repeat (first | refine In_up ?_ | refine In_nw ?_)); apply In_of; assumption) | refine gt_rd (by first | assumption | (apply Ne.symm; assumption) | (exact hj _ _ (by omega) (by omega) (by omega)) | omega) ?_ | exact gt_nw (by assumption) | refine gt_odr (by first | assumption | (apply Ne.symm; assumption) | omega) ?_)
              · assumption
              refine Ev.goto (tgt := 238) dX6_laysSums_234 (by decide) ?_
              rw [z1]
              exact J _ (if_pos ⟨(v01_f hu c220), (v01_t hw c225)⟩).symm
        have S3 : ∀ (u w : Int32) (B : F4) (M1 : Wd), u = (if X 1 (8 * k + 0) = 0 then 1 else 0) → w = (if X 1 (8 * k + 1) = 4 then 1 else 0) → MX a v L (x4 X B) M1 → Fr (mdl a) M0 M1 → (∀ M2, MX a v L (x4 X (B.1, B.2.1, upd B.2.2.1 pn (B.2.2.1 pn + (if X 1 (8 * k + 0) = 0 ∧ X 1 (8 * k + 1) = 4 then X 23 k else 0)), B.2.2.2)) M2 → Fr (mdl a) M0 M2 → Ev G mX6_laysSums 212 [some (.ref (a 0)), some (.int (nI k)), some (.int u), some (.int (nI pn)), some (.int w)] [] M2 0 0 Q) → Ev G mX6_laysSums 184 [some (.ref (a 0)), some (.int (nI k)), some (.int u), some (.int (nI pn)), some (.int w)] [] M1 0 0 Q := by
          intro u w B M1 hu hw hW hF kk
          obtain ⟨h0, h1, h22, h23, h24, h25, h26, h27⟩ := facts _ _ hW
          have J : ∀ x : Int32, x = (if X 1 (8 * k + 0) = 0 ∧ X 1 (8 * k + 1) = 4 then X 23 k else 0) → Ev G mX6_laysSums 210 [some (.ref (a 0)), some (.int (nI k)), some (.int u), some (.int (nI pn)), some (.int w)] [.int x, .int (B.2.2.1 pn), .int (nI pn), .ref (a 26)] M1 0 0 Q := by
            intro x hx
            refine Ev.iadd dX6_laysSums_210 ?_
            apply Ev.iast dX6_laysSums_211 h26 b2
            rw [z2, hx]
            have hW2 := hW.s26 hj (f := upd (B.2.2.1) pn (B.2.2.1 pn + (if X 1 (8 * k + 0) = 0 ∧ X 1 (8 * k + 1) = 4 then X 23 k else 0)))
            rw [x4_3] at hW2
            exact kk _ hW2 (hF.pt (by simp [mdl]))
          refine Ev.ald0 dX6_laysSums_184 ?_
          apply Ev.getf dX6_laysSums_185 fX6_43
          · repeat (first | assumption | (refine gt_upI ?_; (repeat (first | refine In_up ?_ | refine In_nw ?_)); apply In_of; assumption) | refine gt_rd (by first | assumption | (apply Ne.symm; assumption) | (exact hj _ _ (by omega) (by omega) (by omega)) | omega) ?_ | exact gt_nw (by assumption) | refine gt_odr (by first | assumption | (apply Ne.symm; assumption) | omega) ?_)
          · first | rfl | assumption
          refine Ev.ild3 dX6_laysSums_188 ?_
          refine Ev.dup2 dX6_laysSums_189 rfl rfl ?_
          apply Ev.iald dX6_laysSums_190
          · repeat (first | assumption | (refine gt_upI ?_; (repeat (first | refine In_up ?_ | refine In_nw ?_)); apply In_of; assumption) | refine gt_rd (by first | assumption | (apply Ne.symm; assumption) | (exact hj _ _ (by omega) (by omega) (by omega)) | omega) ?_ | exact gt_nw (by assumption) | refine gt_odr (by first | assumption | (apply Ne.symm; assumption) | omega) ?_)
          · assumption
          refine Ev.ild2 dX6_laysSums_191 ?_
          rw [z2]
          refine Ev.if_eq (tgt := 209) dX6_laysSums_192 (by decide) (fun c192 => ?_) (fun c192 => ?_)
          · refine Ev.iconst (v := 0) dX6_laysSums_209 (by decide) ?_
            exact J 0 (if_neg (fun q => v01_f hu c192 q.1)).symm
          · refine Ev.ild4 dX6_laysSums_195 ?_
            refine Ev.if_eq (tgt := 209) dX6_laysSums_197 (by decide) (fun c197 => ?_) (fun c197 => ?_)
            · refine Ev.iconst (v := 0) dX6_laysSums_209 (by decide) ?_
              exact J 0 (if_neg (fun q => v01_f hw c197 q.2)).symm
            · refine Ev.ald0 dX6_laysSums_200 ?_
              apply Ev.getf dX6_laysSums_201 fX6_34
              · repeat (first | assumption | (refine gt_upI ?_; (repeat (first | refine In_up ?_ | refine In_nw ?_)); apply In_of; assumption) | refine gt_rd (by first | assumption | (apply Ne.symm; assumption) | (exact hj _ _ (by omega) (by omega) (by omega)) | omega) ?_ | exact gt_nw (by assumption) | refine gt_odr (by first | assumption | (apply Ne.symm; assumption) | omega) ?_)
              · first | rfl | assumption
              refine Ev.ild1 dX6_laysSums_204 ?_
              apply Ev.iald dX6_laysSums_205
              · repeat (first | assumption | (refine gt_upI ?_; (repeat (first | refine In_up ?_ | refine In_nw ?_)); apply In_of; assumption) | refine gt_rd (by first | assumption | (apply Ne.symm; assumption) | (exact hj _ _ (by omega) (by omega) (by omega)) | omega) ?_ | exact gt_nw (by assumption) | refine gt_odr (by first | assumption | (apply Ne.symm; assumption) | omega) ?_)
              · assumption
              refine Ev.goto (tgt := 210) dX6_laysSums_206 (by decide) ?_
              rw [z1]
              exact J _ (if_pos ⟨(v01_t hu c192), (v01_t hw c197)⟩).symm
        have S2 : ∀ (u w : Int32) (B : F4) (M1 : Wd), u = (if X 1 (8 * k + 0) = 0 then 1 else 0) → w = (if X 1 (8 * k + 1) = 4 then 1 else 0) → MX a v L (x4 X B) M1 → Fr (mdl a) M0 M1 → (∀ M2, MX a v L (x4 X (B.1, upd B.2.1 pn (B.2.1 pn + (if ¬ X 1 (8 * k + 0) = 0 ∧ ¬ X 1 (8 * k + 1) = 4 then X 23 k else 0)), B.2.2)) M2 → Fr (mdl a) M0 M2 → Ev G mX6_laysSums 184 [some (.ref (a 0)), some (.int (nI k)), some (.int u), some (.int (nI pn)), some (.int w)] [] M2 0 0 Q) → Ev G mX6_laysSums 156 [some (.ref (a 0)), some (.int (nI k)), some (.int u), some (.int (nI pn)), some (.int w)] [] M1 0 0 Q := by
          intro u w B M1 hu hw hW hF kk
          obtain ⟨h0, h1, h22, h23, h24, h25, h26, h27⟩ := facts _ _ hW
          have J : ∀ x : Int32, x = (if ¬ X 1 (8 * k + 0) = 0 ∧ ¬ X 1 (8 * k + 1) = 4 then X 23 k else 0) → Ev G mX6_laysSums 182 [some (.ref (a 0)), some (.int (nI k)), some (.int u), some (.int (nI pn)), some (.int w)] [.int x, .int (B.2.1 pn), .int (nI pn), .ref (a 25)] M1 0 0 Q := by
            intro x hx
            refine Ev.iadd dX6_laysSums_182 ?_
            apply Ev.iast dX6_laysSums_183 h25 b2
            rw [z2, hx]
            have hW2 := hW.s25 hj (f := upd (B.2.1) pn (B.2.1 pn + (if ¬ X 1 (8 * k + 0) = 0 ∧ ¬ X 1 (8 * k + 1) = 4 then X 23 k else 0)))
            rw [x4_2] at hW2
            exact kk _ hW2 (hF.pt (by simp [mdl]))
          refine Ev.ald0 dX6_laysSums_156 ?_
          apply Ev.getf dX6_laysSums_157 fX6_40
          · repeat (first | assumption | (refine gt_upI ?_; (repeat (first | refine In_up ?_ | refine In_nw ?_)); apply In_of; assumption) | refine gt_rd (by first | assumption | (apply Ne.symm; assumption) | (exact hj _ _ (by omega) (by omega) (by omega)) | omega) ?_ | exact gt_nw (by assumption) | refine gt_odr (by first | assumption | (apply Ne.symm; assumption) | omega) ?_)
          · first | rfl | assumption
          refine Ev.ild3 dX6_laysSums_160 ?_
          refine Ev.dup2 dX6_laysSums_161 rfl rfl ?_
          apply Ev.iald dX6_laysSums_162
          · repeat (first | assumption | (refine gt_upI ?_; (repeat (first | refine In_up ?_ | refine In_nw ?_)); apply In_of; assumption) | refine gt_rd (by first | assumption | (apply Ne.symm; assumption) | (exact hj _ _ (by omega) (by omega) (by omega)) | omega) ?_ | exact gt_nw (by assumption) | refine gt_odr (by first | assumption | (apply Ne.symm; assumption) | omega) ?_)
          · assumption
          refine Ev.ild2 dX6_laysSums_163 ?_
          rw [z2]
          refine Ev.if_ne (tgt := 181) dX6_laysSums_164 (by decide) (fun c164 => ?_) (fun c164 => ?_)
          · refine Ev.iconst (v := 0) dX6_laysSums_181 (by decide) ?_
            exact J 0 (if_neg (fun q => q.1 (v01_t hu c164))).symm
          · refine Ev.ild4 dX6_laysSums_167 ?_
            refine Ev.if_ne (tgt := 181) dX6_laysSums_169 (by decide) (fun c169 => ?_) (fun c169 => ?_)
            · refine Ev.iconst (v := 0) dX6_laysSums_181 (by decide) ?_
              exact J 0 (if_neg (fun q => q.2 (v01_t hw c169))).symm
            · refine Ev.ald0 dX6_laysSums_172 ?_
              apply Ev.getf dX6_laysSums_173 fX6_34
              · repeat (first | assumption | (refine gt_upI ?_; (repeat (first | refine In_up ?_ | refine In_nw ?_)); apply In_of; assumption) | refine gt_rd (by first | assumption | (apply Ne.symm; assumption) | (exact hj _ _ (by omega) (by omega) (by omega)) | omega) ?_ | exact gt_nw (by assumption) | refine gt_odr (by first | assumption | (apply Ne.symm; assumption) | omega) ?_)
              · first | rfl | assumption
              refine Ev.ild1 dX6_laysSums_176 ?_
              apply Ev.iald dX6_laysSums_177
              · repeat (first | assumption | (refine gt_upI ?_; (repeat (first | refine In_up ?_ | refine In_nw ?_)); apply In_of; assumption) | refine gt_rd (by first | assumption | (apply Ne.symm; assumption) | (exact hj _ _ (by omega) (by omega) (by omega)) | omega) ?_ | exact gt_nw (by assumption) | refine gt_odr (by first | assumption | (apply Ne.symm; assumption) | omega) ?_)
              · assumption
              refine Ev.goto (tgt := 182) dX6_laysSums_178 (by decide) ?_
              rw [z1]
              exact J _ (if_pos ⟨(v01_f hu c164), (v01_f hw c169)⟩).symm
        have S1 : ∀ (u w : Int32) (B : F4) (M1 : Wd), u = (if X 1 (8 * k + 0) = 0 then 1 else 0) → w = (if X 1 (8 * k + 1) = 4 then 1 else 0) → MX a v L (x4 X B) M1 → Fr (mdl a) M0 M1 → (∀ M2, MX a v L (x4 X (upd B.1 pn (B.1 pn + (if X 1 (8 * k + 0) = 0 ∧ ¬ X 1 (8 * k + 1) = 4 then X 23 k else 0)), B.2)) M2 → Fr (mdl a) M0 M2 → Ev G mX6_laysSums 156 [some (.ref (a 0)), some (.int (nI k)), some (.int u), some (.int (nI pn)), some (.int w)] [] M2 0 0 Q) → Ev G mX6_laysSums 128 [some (.ref (a 0)), some (.int (nI k)), some (.int u), some (.int (nI pn)), some (.int w)] [] M1 0 0 Q := by
          intro u w B M1 hu hw hW hF kk
          obtain ⟨h0, h1, h22, h23, h24, h25, h26, h27⟩ := facts _ _ hW
          have J : ∀ x : Int32, x = (if X 1 (8 * k + 0) = 0 ∧ ¬ X 1 (8 * k + 1) = 4 then X 23 k else 0) → Ev G mX6_laysSums 154 [some (.ref (a 0)), some (.int (nI k)), some (.int u), some (.int (nI pn)), some (.int w)] [.int x, .int (B.1 pn), .int (nI pn), .ref (a 24)] M1 0 0 Q := by
            intro x hx
            refine Ev.iadd dX6_laysSums_154 ?_
            apply Ev.iast dX6_laysSums_155 h24 b2
            rw [z2, hx]
            have hW2 := hW.s24 hj (f := upd (B.1) pn (B.1 pn + (if X 1 (8 * k + 0) = 0 ∧ ¬ X 1 (8 * k + 1) = 4 then X 23 k else 0)))
            rw [x4_1] at hW2
            exact kk _ hW2 (hF.pt (by simp [mdl]))
          refine Ev.ald0 dX6_laysSums_128 ?_
          apply Ev.getf dX6_laysSums_129 fX6_37
          · repeat (first | assumption | (refine gt_upI ?_; (repeat (first | refine In_up ?_ | refine In_nw ?_)); apply In_of; assumption) | refine gt_rd (by first | assumption | (apply Ne.symm; assumption) | (exact hj _ _ (by omega) (by omega) (by omega)) | omega) ?_ | exact gt_nw (by assumption) | refine gt_odr (by first | assumption | (apply Ne.symm; assumption) | omega) ?_)
          · first | rfl | assumption
          refine Ev.ild3 dX6_laysSums_132 ?_
          refine Ev.dup2 dX6_laysSums_133 rfl rfl ?_
          apply Ev.iald dX6_laysSums_134
          · repeat (first | assumption | (refine gt_upI ?_; (repeat (first | refine In_up ?_ | refine In_nw ?_)); apply In_of; assumption) | refine gt_rd (by first | assumption | (apply Ne.symm; assumption) | (exact hj _ _ (by omega) (by omega) (by omega)) | omega) ?_ | exact gt_nw (by assumption) | refine gt_odr (by first | assumption | (apply Ne.symm; assumption) | omega) ?_)
          · assumption
          refine Ev.ild2 dX6_laysSums_135 ?_
          rw [z2]
          refine Ev.if_eq (tgt := 153) dX6_laysSums_136 (by decide) (fun c136 => ?_) (fun c136 => ?_)
          · refine Ev.iconst (v := 0) dX6_laysSums_153 (by decide) ?_
            exact J 0 (if_neg (fun q => v01_f hu c136 q.1)).symm
          · refine Ev.ild4 dX6_laysSums_139 ?_
            refine Ev.if_ne (tgt := 153) dX6_laysSums_141 (by decide) (fun c141 => ?_) (fun c141 => ?_)
            · refine Ev.iconst (v := 0) dX6_laysSums_153 (by decide) ?_
              exact J 0 (if_neg (fun q => q.2 (v01_t hw c141))).symm
            · refine Ev.ald0 dX6_laysSums_144 ?_
              apply Ev.getf dX6_laysSums_145 fX6_34
              · repeat (first | assumption | (refine gt_upI ?_; (repeat (first | refine In_up ?_ | refine In_nw ?_)); apply In_of; assumption) | refine gt_rd (by first | assumption | (apply Ne.symm; assumption) | (exact hj _ _ (by omega) (by omega) (by omega)) | omega) ?_ | exact gt_nw (by assumption) | refine gt_odr (by first | assumption | (apply Ne.symm; assumption) | omega) ?_)
              · first | rfl | assumption
              refine Ev.ild1 dX6_laysSums_148 ?_
              apply Ev.iald dX6_laysSums_149
              · repeat (first | assumption | (refine gt_upI ?_; (repeat (first | refine In_up ?_ | refine In_nw ?_)); apply In_of; assumption) | refine gt_rd (by first | assumption | (apply Ne.symm; assumption) | (exact hj _ _ (by omega) (by omega) (by omega)) | omega) ?_ | exact gt_nw (by assumption) | refine gt_odr (by first | assumption | (apply Ne.symm; assumption) | omega) ?_)
              · assumption
              refine Ev.goto (tgt := 154) dX6_laysSums_150 (by decide) ?_
              rw [z1]
              exact J _ (if_pos ⟨(v01_t hu c136), (v01_f hw c141)⟩).symm
        have SE : ∀ (u w : Int32), u = (if X 1 (8 * k + 0) = 0 then 1 else 0) → w = (if X 1 (8 * k + 1) = 4 then 1 else 0) → Ev G mX6_laysSums 128 [some (.ref (a 0)), some (.int (nI k)), some (.int u), some (.int (nI pn)), some (.int w)] [] M1 0 0 Q := by
          intro u w hu hw
          refine S1 u w _ M1 hu hw hW hF (fun M2 hW2 hF2 => ?_)
          refine S2 u w _ M2 hu hw hW2 hF2 (fun M3 hW3 hF3 => ?_)
          refine S3 u w _ M3 hu hw hW3 hF3 (fun M4 hW4 hF4 => ?_)
          refine S4 u w _ M4 hu hw hW4 hF4 (fun M5 hW5 hF5 => ?_)
          apply Ev.iinc1 dX6_laysSums_240 rfl rfl
          · first | exact nI_inc _ | rfl
          refine Ev.goto (tgt := 45) dX6_laysSums_243 (by decide) ?_
          refine ih (k + 1) _ _ _ _ (by omega) ?_ hF5 kk
          rw [ls2, if_pos c63, hpp, z2]
          exact hW5
        have JE : ∀ (u w : Int32) (a4 : Option Value), u = (if X 1 (8 * k + 0) = 0 then 1 else 0) → w = (if X 1 (8 * k + 1) = 4 then 1 else 0) → Ev G mX6_laysSums 126 [some (.ref (a 0)), some (.int (nI k)), some (.int u), some (.int (nI pn)), a4] [.int w] M1 0 0 Q := by
          intro u w a4 hu hw
          refine Ev.ist4 dX6_laysSums_126 rfl rfl ?_
          exact SE u w hu hw
        have JP : ∀ (u x : Int32) (a3 a4 : Option Value), u = (if X 1 (8 * k + 0) = 0 then 1 else 0) → x = ppf (X 1) k → Ev G mX6_laysSums 110 [some (.ref (a 0)), some (.int (nI k)), some (.int u), a3, a4] [.int x] M1 0 0 Q := by
          intro u x a3 a4 hu hx
          rw [hpp] at hx
          subst hx
          refine Ev.ist3 dX6_laysSums_110 rfl rfl ?_
          refine Ev.ald0 dX6_laysSums_111 ?_
          refine Ev.ild1 dX6_laysSums_112 ?_
          refine Ev.iconst (v := 1) dX6_laysSums_113 (by decide) ?_
          refine Ev.cvI (Yc := mX6_of) (ci := 6) dX6_laysSums_114 lX6_201 vX6_of rfl (m_of k 1 rfl rfl h0 h1 (by omega)) ?_ rfl rfl rfl rfl ?_
          · apply Exists.intro; repeat (first | assumption | (refine gt_upI ?_; (repeat (first | refine In_up ?_ | refine In_nw ?_)); apply In_of; assumption) | refine gt_rd (by first | assumption | (apply Ne.symm; assumption) | (exact hj _ _ (by omega) (by omega) (by omega)) | omega) ?_ | exact gt_nw (by assumption) | refine gt_odr (by first | assumption | (apply Ne.symm; assumption) | omega) ?_)
          rintro y M' ⟨hy, rfl⟩
          subst hy
          refine Ev.iconst (v := 4) dX6_laysSums_117 (by decide) ?_
          refine Ev.icmp_ne (tgt := 125) dX6_laysSums_118 (by decide) (fun c118 => ?_) (fun c118 => ?_)
          · refine Ev.iconst (v := 0) dX6_laysSums_125 (by decide) ?_
            exact JE u _ _ hu (if_neg c118).symm
          · refine Ev.iconst (v := 1) dX6_laysSums_121 (by decide) ?_
            refine Ev.goto (tgt := 126) dX6_laysSums_122 (by decide) ?_
            exact JE u _ _ hu (if_pos c118).symm
        have JU : ∀ (u : Int32) (a2 a3 a4 : Option Value), u = (if X 1 (8 * k + 0) = 0 then 1 else 0) → Ev G mX6_laysSums 80 [some (.ref (a 0)), some (.int (nI k)), a2, a3, a4] [.int u] M1 0 0 Q := by
          intro u a2 a3 a4 hu
          refine Ev.ist2 dX6_laysSums_80 rfl rfl ?_
          refine Ev.ald0 dX6_laysSums_81 ?_
          refine Ev.ild1 dX6_laysSums_82 ?_
          refine Ev.iconst (v := 1) dX6_laysSums_83 (by decide) ?_
          refine Ev.cvI (Yc := mX6_of) (ci := 6) dX6_laysSums_84 lX6_201 vX6_of rfl (m_of k 1 rfl rfl h0 h1 (by omega)) ?_ rfl rfl rfl rfl ?_
          · apply Exists.intro; repeat (first | assumption | (refine gt_upI ?_; (repeat (first | refine In_up ?_ | refine In_nw ?_)); apply In_of; assumption) | refine gt_rd (by first | assumption | (apply Ne.symm; assumption) | (exact hj _ _ (by omega) (by omega) (by omega)) | omega) ?_ | exact gt_nw (by assumption) | refine gt_odr (by first | assumption | (apply Ne.symm; assumption) | omega) ?_)
          rintro y M' ⟨hy, rfl⟩
          subst hy
          refine Ev.if_ne (tgt := 104) dX6_laysSums_87 (by decide) (fun c87 => ?_) (fun c87 => ?_)
          · refine Ev.ald0 dX6_laysSums_104 ?_
            refine Ev.ild1 dX6_laysSums_105 ?_
            refine Ev.iconst (v := 3) dX6_laysSums_106 (by decide) ?_
            refine Ev.cvI (Yc := mX6_of) (ci := 6) dX6_laysSums_107 lX6_201 vX6_of rfl (m_of k 3 rfl rfl h0 h1 (by omega)) ?_ rfl rfl rfl rfl ?_
            · apply Exists.intro; repeat (first | assumption | (refine gt_upI ?_; (repeat (first | refine In_up ?_ | refine In_nw ?_)); apply In_of; assumption) | refine gt_rd (by first | assumption | (apply Ne.symm; assumption) | (exact hj _ _ (by omega) (by omega) (by omega)) | omega) ?_ | exact gt_nw (by assumption) | refine gt_odr (by first | assumption | (apply Ne.symm; assumption) | omega) ?_)
            rintro y M' ⟨hy, rfl⟩
            subst hy
            exact JP u _ _ _ hu (if_neg c87).symm
          · refine Ev.ild2 dX6_laysSums_90 ?_
            refine Ev.if_eq (tgt := 100) dX6_laysSums_91 (by decide) (fun c91 => ?_) (fun c91 => ?_)
            · refine Ev.iconst (v := 1) dX6_laysSums_100 (by decide) ?_
              refine Ev.goto (tgt := 110) dX6_laysSums_101 (by decide) ?_
              exact JP u _ _ _ hu ((if_pos c87).trans (if_neg (v01_f hu c91))).symm
            · refine Ev.sipush (v := 999) dX6_laysSums_94 (by decide) ?_
              refine Ev.goto (tgt := 110) dX6_laysSums_97 (by decide) ?_
              exact JP u _ _ _ hu ((if_pos c87).trans (if_pos (v01_t hu c91))).symm
        refine Ev.ald0 dX6_laysSums_66 ?_
        refine Ev.ild1 dX6_laysSums_67 ?_
        refine Ev.iconst (v := 0) dX6_laysSums_68 (by decide) ?_
        refine Ev.cvI (Yc := mX6_of) (ci := 6) dX6_laysSums_69 lX6_201 vX6_of rfl (m_of k 0 rfl rfl h0 h1 (by omega)) ?_ rfl rfl rfl rfl ?_
        · apply Exists.intro; repeat (first | assumption | (refine gt_upI ?_; (repeat (first | refine In_up ?_ | refine In_nw ?_)); apply In_of; assumption) | refine gt_rd (by first | assumption | (apply Ne.symm; assumption) | (exact hj _ _ (by omega) (by omega) (by omega)) | omega) ?_ | exact gt_nw (by assumption) | refine gt_odr (by first | assumption | (apply Ne.symm; assumption) | omega) ?_)
        rintro y M' ⟨hy, rfl⟩
        subst hy
        refine Ev.if_ne (tgt := 79) dX6_laysSums_72 (by decide) (fun c72 => ?_) (fun c72 => ?_)
        · refine Ev.iconst (v := 0) dX6_laysSums_79 (by decide) ?_
          exact JU _ _ _ _ (if_neg c72).symm
        · refine Ev.iconst (v := 1) dX6_laysSums_75 (by decide) ?_
          refine Ev.goto (tgt := 80) dX6_laysSums_76 (by decide) ?_
          exact JU _ _ _ _ (if_pos c72).symm
  have L1 : ∀ (d k : Nat) (a2 a3 a4 : Option Value) (M1 : Wd), k + d = 1001 → MX a v L (x4 X (fl0 (X 24) 0 k, fl0 (X 25) 0 k, fl0 (X 26) 0 k, fl0 (X 27) 0 k)) M1 → Fr (mdl a) M0 M1 → (∀ M', MX a v L (x4 X (sfx (ls2 (X 1) (X 22) (X 23) (fl0 (X 24) 0 1001, fl0 (X 25) 0 1001, fl0 (X 26) 0 1001, fl0 (X 27) 0 1001) n).1 999, pfx (ls2 (X 1) (X 22) (X 23) (fl0 (X 24) 0 1001, fl0 (X 25) 0 1001, fl0 (X 26) 0 1001, fl0 (X 27) 0 1001) n).2.1 999, sfx (ls2 (X 1) (X 22) (X 23) (fl0 (X 24) 0 1001, fl0 (X 25) 0 1001, fl0 (X 26) 0 1001, fl0 (X 27) 0 1001) n).2.2.1 999, pfx (ls2 (X 1) (X 22) (X 23) (fl0 (X 24) 0 1001, fl0 (X 25) 0 1001, fl0 (X 26) 0 1001, fl0 (X 27) 0 1001) n).2.2.2 999)) M' → Fr (mdl a) M0 M' → Q none M') → Ev G mX6_laysSums 2 [some (.ref (a 0)), some (.int (nI k)), a2, a3, a4] [] M1 0 0 Q := by
    intro d
    induction d with
    | zero =>
      intro k a2 a3 a4 M1 hk hW hF kk
      refine Ev.ild1 dX6_laysSums_2 ?_
      refine Ev.sipush (v := 1000) dX6_laysSums_3 (by decide) ?_
      refine Ev.icmp_gt (tgt := 43) dX6_laysSums_6 (by decide) (fun c9 => ?_) (fun c9 => absurd (nI_lt (a := 1000) (by omega) (by omega)) c9)
      refine Ev.iconst (v := 0) dX6_laysSums_43 (by decide) ?_
      refine Ev.ist1 dX6_laysSums_44 rfl rfl ?_
      rw [show k = 1001 by omega] at hW
      exact L2 n 0 _ _ _ M1 (by omega) hW hF kk
    | succ d ih =>
      intro k a2 a3 a4 M1 hk hW hF kk
      have e1 := lit_in k 1001 (by omega) (by omega)
      have b1 := e1.1
      have z1 := e1.2
      refine Ev.ild1 dX6_laysSums_2 ?_
      refine Ev.sipush (v := 1000) dX6_laysSums_3 (by decide) ?_
      refine Ev.icmp_gt (tgt := 43) dX6_laysSums_6 (by decide) (fun c9 => absurd c9 (nI_nlt (a := 1000) (by omega) (by omega))) (fun c9 => ?_)
      have hWa := hW.s24 hj (f := fl0 (X 24) 0 (k + 1))
      rw [x4_1] at hWa
      have hWb := hWa.s25 hj (f := fl0 (X 25) 0 (k + 1))
      rw [x4_2] at hWb
      have hWc := hWb.s26 hj (f := fl0 (X 26) 0 (k + 1))
      rw [x4_3] at hWc
      have hWd := hWc.s27 hj (f := fl0 (X 27) 0 (k + 1))
      rw [x4_4] at hWd
      obtain ⟨h0, h1, h22, h23, h24, h25, h26, h27⟩ := facts _ _ hW
      refine Ev.ald0 dX6_laysSums_9 ?_
      apply Ev.getf dX6_laysSums_10 fX6_37
      · repeat (first | assumption | (refine gt_upI ?_; (repeat (first | refine In_up ?_ | refine In_nw ?_)); apply In_of; assumption) | refine gt_rd (by first | assumption | (apply Ne.symm; assumption) | (exact hj _ _ (by omega) (by omega) (by omega)) | omega) ?_ | exact gt_nw (by assumption) | refine gt_odr (by first | assumption | (apply Ne.symm; assumption) | omega) ?_)
      · first | rfl | assumption
      refine Ev.ild1 dX6_laysSums_13 ?_
      refine Ev.iconst (v := 0) dX6_laysSums_14 (by decide) ?_
      apply Ev.iast dX6_laysSums_15
      · repeat (first | assumption | (refine gt_upI ?_; (repeat (first | refine In_up ?_ | refine In_nw ?_)); apply In_of; assumption) | refine gt_rd (by first | assumption | (apply Ne.symm; assumption) | (exact hj _ _ (by omega) (by omega) (by omega)) | omega) ?_ | exact gt_nw (by assumption) | refine gt_odr (by first | assumption | (apply Ne.symm; assumption) | omega) ?_)
      · assumption
      refine Ev.ald0 dX6_laysSums_16 ?_
      apply Ev.getf dX6_laysSums_17 fX6_40
      · repeat (first | assumption | (refine gt_upI ?_; (repeat (first | refine In_up ?_ | refine In_nw ?_)); apply In_of; assumption) | refine gt_rd (by first | assumption | (apply Ne.symm; assumption) | (exact hj _ _ (by omega) (by omega) (by omega)) | omega) ?_ | exact gt_nw (by assumption) | refine gt_odr (by first | assumption | (apply Ne.symm; assumption) | omega) ?_)
      · first | rfl | assumption
      refine Ev.ild1 dX6_laysSums_20 ?_
      refine Ev.iconst (v := 0) dX6_laysSums_21 (by decide) ?_
      apply Ev.iast dX6_laysSums_22
      · repeat (first | assumption | (refine gt_upI ?_; (repeat (first | refine In_up ?_ | refine In_nw ?_)); apply In_of; assumption) | refine gt_rd (by first | assumption | (apply Ne.symm; assumption) | (exact hj _ _ (by omega) (by omega) (by omega)) | omega) ?_ | exact gt_nw (by assumption) | refine gt_odr (by first | assumption | (apply Ne.symm; assumption) | omega) ?_)
      · assumption
      refine Ev.ald0 dX6_laysSums_23 ?_
      apply Ev.getf dX6_laysSums_24 fX6_43
      · repeat (first | assumption | (refine gt_upI ?_; (repeat (first | refine In_up ?_ | refine In_nw ?_)); apply In_of; assumption) | refine gt_rd (by first | assumption | (apply Ne.symm; assumption) | (exact hj _ _ (by omega) (by omega) (by omega)) | omega) ?_ | exact gt_nw (by assumption) | refine gt_odr (by first | assumption | (apply Ne.symm; assumption) | omega) ?_)
      · first | rfl | assumption
      refine Ev.ild1 dX6_laysSums_27 ?_
      refine Ev.iconst (v := 0) dX6_laysSums_28 (by decide) ?_
      apply Ev.iast dX6_laysSums_29
      · repeat (first | assumption | (refine gt_upI ?_; (repeat (first | refine In_up ?_ | refine In_nw ?_)); apply In_of; assumption) | refine gt_rd (by first | assumption | (apply Ne.symm; assumption) | (exact hj _ _ (by omega) (by omega) (by omega)) | omega) ?_ | exact gt_nw (by assumption) | refine gt_odr (by first | assumption | (apply Ne.symm; assumption) | omega) ?_)
      · assumption
      refine Ev.ald0 dX6_laysSums_30 ?_
      apply Ev.getf dX6_laysSums_31 fX6_46
      · repeat (first | assumption | (refine gt_upI ?_; (repeat (first | refine In_up ?_ | refine In_nw ?_)); apply In_of; assumption) | refine gt_rd (by first | assumption | (apply Ne.symm; assumption) | (exact hj _ _ (by omega) (by omega) (by omega)) | omega) ?_ | exact gt_nw (by assumption) | refine gt_odr (by first | assumption | (apply Ne.symm; assumption) | omega) ?_)
      · first | rfl | assumption
      refine Ev.ild1 dX6_laysSums_34 ?_
      refine Ev.iconst (v := 0) dX6_laysSums_35 (by decide) ?_
      apply Ev.iast dX6_laysSums_36
      · repeat (first | assumption | (refine gt_upI ?_; (repeat (first | refine In_up ?_ | refine In_nw ?_)); apply In_of; assumption) | refine gt_rd (by first | assumption | (apply Ne.symm; assumption) | (exact hj _ _ (by omega) (by omega) (by omega)) | omega) ?_ | exact gt_nw (by assumption) | refine gt_odr (by first | assumption | (apply Ne.symm; assumption) | omega) ?_)
      · assumption
      rw [z1]
      apply Ev.iinc1 dX6_laysSums_37 rfl rfl
      · first | exact nI_inc _ | rfl
      refine Ev.goto (tgt := 2) dX6_laysSums_40 (by decide) ?_
      exact ih (k + 1) _ _ _ _ (by omega) hWd ((((hF.pt (by simp [mdl])).pt (by simp [mdl])).pt (by simp [mdl])).pt (by simp [mdl])) kk
  refine Ct.of (ls := [some (.ref (a 0)), none, none, none, none]) (by decide) (by decide) rfl rfl rfl ?_
  rw [hQ]
  refine Ev.iconst (v := 0) dX6_laysSums_0 (by decide) ?_
  refine Ev.ist1 dX6_laysSums_1 rfl rfl ?_
  refine L1 1001 0 _ _ _ M (by omega) ?_ hF (fun M' h1 h2 => ?_)
  · show MX a v L (x4 X (X 24, X 25, X 26, X 27)) M
    rw [x4_id]
    exact hW
  · rw [← hQ]
    exact ⟨rfl, h1, h2⟩
end MOC
