/-! the reference crosses -/
def CF (m : Nat → Int32) (n lo hi : Nat) (C : (Nat → Int32) × (Nat → Int32) × Nat) (v' : Nat → Int32) (X' : Nat → Nat → Int32) : Prop :=
  (∀ k, k < n → X' 22 k = C.1 k) ∧ (∀ k, k < n → X' 23 k = qt m k) ∧ (∀ k, k < n → X' 35 k = C.2.1 k) ∧ (∀ k, k < n → X' 34 k = rF m C.1 (qt m) n lo hi k) ∧ v' 28 = (rP m C.1 (qt m) n lo hi).1 ∧ v' 29 = (rP m C.1 (qt m) n lo hi).2.1 ∧ v' 30 = (rP m C.1 (qt m) n lo hi).2.2 ∧ v' 36 = nI C.2.2 ∧ v' 37 = rV m C.1 (qt m) n lo hi ∧ v' 38 = rR m C.1 (qt m) n lo hi
theorem x4_n {X : Nat → Nat → Int32} {B : F4} {j : Nat} (h : (j ≠ 24 ∧ j ≠ 25) ∧ (j ≠ 26 ∧ j ≠ 27)) : x4 X B j = X j := by rw [x4, ux_n h.2.2, ux_n h.2.1, ux_n h.1.2, ux_n h.1.1]
theorem KP.x4 {v v' : Nat → Int32} {X X' : Nat → Nat → Int32} {B : F4} (h : KP v v' X X') : KP v v' X (x4 X' B) := (((h.x 24 (by decide)).x 25 (by decide)).x 26 (by decide)).x 27 (by decide)
theorem KP.w3 {v v' : Nat → Int32} {X X' : Nat → Nat → Int32} {t : Int32 × Int32 × Int32} (h : KP v v' X X') : KP v (w3 v' t) X X' := ((h.v 28 (by decide)).v 29 (by decide)).v 30 (by decide)
theorem fp_fact {X : Nat → Nat → Int32} {m ct : Nat → Int32} {n lo hi : Nat} (hO : OW m n) (hm : X 1 = m) (hc : ∀ k, k < n → X 22 k = ct k) (hy : ∀ k, k < n → X 23 k = qt m k) (h2 : hi ≤ 999) (h3 : 1 ≤ lo) : fp3 (VV (x4 X (smX X n))) (RR (x4 X (smX X n))) lo (hi + 1 - lo) (X 1 330) = rP m ct (qt m) n lo hi := by
  rw [rP, hm]
  exact fp3_cg (fun p q1 q2 => vv_eq hO hm hc hy (by omega) (by omega))
theorem crs_s {m my : Nat → Int32} {n lo hi e : Nat} {ct ou : Nat → Int32} {r : Nat} : crs m my n lo hi (e + 1) ct ou r = if unh m ct (rF m ct my n lo hi) n < 0 then (ct, ou, r + 1) else crs m my n lo hi e (upd ct (unh m ct (rF m ct my n lo hi) n).toNatClampNeg 0) (upd ou (unh m ct (rF m ct my n lo hi) n).toNatClampNeg 1) (r + 1) := by rw [crs]
theorem rP_pr {m ct my : Nat → Int32} {n lo hi : Nat} : (rP m ct my n lo hi).1 = -1 ∨ ∃ p, lo ≤ p ∧ p ≤ hi ∧ (rP m ct my n lo hi).1 = nI p := by
  rcases fp3_pr (V := fun p => vof (bs4 m ct my (nI p) n)) (R := fun p => ref (bs4 m ct my (nI p) n)) (lo := lo) (D := hi + 1 - lo) (rf := m 330) with h | ⟨p, h1, h2, h3⟩
  · exact Or.inl h
  · exact Or.inr ⟨p, h1, by omega, h3⟩
section MOI
variable {G : GP} {M0 M : Wd} {a : Nat → Nat} {v : Nat → Int32} {L : Int64} {X : Nat → Nat → Int32} {n lo hi : Nat} {wo : Int32}
set_option maxRecDepth 20000 in
theorem m_crZ {Q : Option Value → Wd → Prop} {x2 : Int32} {m : Nat → Int32} (hj : InjM a) (hm : X 1 = m) (hn : m 328 = nI n) (hn2 : n ≤ 41) : ∀ (d k : Nat) (v1 : Nat → Int32) (M1 : Wd), k + d = n → MX a v1 L (ux X 34 (fl0 (X 34) 0 k)) M1 → Fr (mdl a) M0 M1 → (∀ M', MX a v1 L (ux X 34 (fl0 (X 34) 0 n)) M' → Fr (mdl a) M0 M' → Ev G mX6_crosses 90 [some (.ref (a 0)), some (.int wo), some (.int x2), some (.int (nI n))] [] M' 0 0 Q) → Ev G mX6_crosses 65 [some (.ref (a 0)), some (.int wo), some (.int x2), some (.int (nI k))] [] M1 0 0 Q := by
  have e8 := lit_in 328 1189 (by omega) (by omega)
  have b8 : vp_in (328 : Int32) 1189 := e8.1
  have z8 : (328 : Int32).toNatClampNeg = 328 := e8.2
  intro d
  induction d with
  | zero =>
    intro k v1 M1 hk hW hF kk
    have h0 := hW.1
    have g1 : gt M1 (a 1) = some (ia 0 1189 (X 1)) := hW.g1
    refine Ev.ild3 dX6_crosses_65 ?_
    refine Ev.ald0 dX6_crosses_66 ?_
    apply Ev.getf dX6_crosses_67 fX6_13
    · repeat (first | assumption | (refine gt_upI ?_; (repeat (first | refine In_up ?_ | refine In_nw ?_)); apply In_of; assumption) | refine gt_rd (by first | assumption | (apply Ne.symm; assumption) | (exact hj _ _ (by omega) (by omega) (by omega)) | omega) ?_ | exact gt_nw (by assumption) | refine gt_odr (by first | assumption | (apply Ne.symm; assumption) | omega) ?_)
    · first | rfl | assumption
    refine Ev.sipush (v := 328) dX6_crosses_70 (by decide) ?_
    apply Ev.iald dX6_crosses_73
    · repeat (first | assumption | (refine gt_upI ?_; (repeat (first | refine In_up ?_ | refine In_nw ?_)); apply In_of; assumption) | refine gt_rd (by first | assumption | (apply Ne.symm; assumption) | (exact hj _ _ (by omega) (by omega) (by omega)) | omega) ?_ | exact gt_nw (by assumption) | refine gt_odr (by first | assumption | (apply Ne.symm; assumption) | omega) ?_)
    · assumption
    rw [z8, hm, hn]
    refine Ev.icmp_ge (tgt := 90) dX6_crosses_74 (by decide) (fun c9 => ?_) (fun c9 => absurd (nI_le (by omega) (by omega)) c9)
    have e : k = n := by omega
    subst e
    exact kk _ hW hF
  | succ d ih =>
    intro k v1 M1 hk hW hF kk
    have h0 := hW.1
    have g1 : gt M1 (a 1) = some (ia 0 1189 (X 1)) := hW.g1
    have g34 : gt M1 (a 34) = some (ia 0 41 (fl0 (X 34) 0 k)) := hW.g34
    have e := lit_in k 41 (by omega) (by omega)
    have bk := e.1
    have ek := e.2
    refine Ev.ild3 dX6_crosses_65 ?_
    refine Ev.ald0 dX6_crosses_66 ?_
    apply Ev.getf dX6_crosses_67 fX6_13
    · repeat (first | assumption | (refine gt_upI ?_; (repeat (first | refine In_up ?_ | refine In_nw ?_)); apply In_of; assumption) | refine gt_rd (by first | assumption | (apply Ne.symm; assumption) | (exact hj _ _ (by omega) (by omega) (by omega)) | omega) ?_ | exact gt_nw (by assumption) | refine gt_odr (by first | assumption | (apply Ne.symm; assumption) | omega) ?_)
    · first | rfl | assumption
    refine Ev.sipush (v := 328) dX6_crosses_70 (by decide) ?_
    apply Ev.iald dX6_crosses_73
    · repeat (first | assumption | (refine gt_upI ?_; (repeat (first | refine In_up ?_ | refine In_nw ?_)); apply In_of; assumption) | refine gt_rd (by first | assumption | (apply Ne.symm; assumption) | (exact hj _ _ (by omega) (by omega) (by omega)) | omega) ?_ | exact gt_nw (by assumption) | refine gt_odr (by first | assumption | (apply Ne.symm; assumption) | omega) ?_)
    · assumption
    rw [z8, hm, hn]
    refine Ev.icmp_ge (tgt := 90) dX6_crosses_74 (by decide) (fun c9 => absurd c9 (nI_ge (by omega) (by omega))) (fun c9 => ?_)
    have hW2 := hW.s34 hj (f := fl0 (X 34) 0 (k + 1))
    rw [ux_u] at hW2
    refine Ev.ald0 dX6_crosses_77 ?_
    apply Ev.getf dX6_crosses_78 fX6_55
    · repeat (first | assumption | (refine gt_upI ?_; (repeat (first | refine In_up ?_ | refine In_nw ?_)); apply In_of; assumption) | refine gt_rd (by first | assumption | (apply Ne.symm; assumption) | (exact hj _ _ (by omega) (by omega) (by omega)) | omega) ?_ | exact gt_nw (by assumption) | refine gt_odr (by first | assumption | (apply Ne.symm; assumption) | omega) ?_)
    · first | rfl | assumption
    refine Ev.ild3 dX6_crosses_81 ?_
    refine Ev.iconst (v := 0) dX6_crosses_82 (by decide) ?_
    apply Ev.iast dX6_crosses_83
    · repeat (first | assumption | (refine gt_upI ?_; (repeat (first | refine In_up ?_ | refine In_nw ?_)); apply In_of; assumption) | refine gt_rd (by first | assumption | (apply Ne.symm; assumption) | (exact hj _ _ (by omega) (by omega) (by omega)) | omega) ?_ | exact gt_nw (by assumption) | refine gt_odr (by first | assumption | (apply Ne.symm; assumption) | omega) ?_)
    · assumption
    rw [ek]
    apply Ev.iinc3 dX6_crosses_84 rfl rfl
    · first | exact nI_inc _ | rfl
    refine Ev.goto (tgt := 65) dX6_crosses_87 (by decide) ?_
    exact ih (k + 1) _ _ (by omega) hW2 (hF.pt (by simp [mdl])) kk
set_option maxRecDepth 20000 in
theorem m_crE {Q : Option Value → Wd → Prop} {x2 : Int32} {m ct ou : Nat → Int32} {r : Nat} {v' : Nat → Int32} {X' : Nat → Nat → Int32} {M' : Wd} {a3 : Option Value} (hm : X 1 = m) (hn : m 328 = nI n) (hn2 : n ≤ 41)
    (kk : ∀ (v' : Nat → Int32) (X' : Nat → Nat → Int32) (M' : Wd) (a3 : Option Value), MX a v' L X' M' → Fr (mdl a) M0 M' → KP v v' X X' → CF m n lo hi (ct, ou, r + 1) v' X' → Ev G mX6_crosses 162 [some (.ref (a 0)), some (.int wo), some (.int (unh m ct (rF m ct (qt m) n lo hi) n)), a3] [] M' 0 0 Q)
    (hW' : MX a v' L X' M') (hF' : Fr (mdl a) M0 M') (hK : KP v v' X X') (hC : CF m n lo hi (ct, ou, r + 1) v' X') : Ev G mX6_crosses 157 [some (.ref (a 0)), some (.int wo), some (.int x2), a3] [] M' 0 0 Q := by
  have h0 := hW'.1
  have hm' : X' 1 = m := (hK.1 1 (by decide)).trans hm
  refine Ev.ald0 dX6_crosses_157 ?_
  refine Ev.cvI (Yc := mX6_unhappy) (ci := 6) dX6_crosses_158 lX6_275 vX6_unhappy rfl (m_unhappy hW' (by rw [hm']; exact hn) hn2) ?_ rfl rfl rfl rfl ?_
  · apply Exists.intro; repeat (first | assumption | (refine gt_upI ?_; (repeat (first | refine In_up ?_ | refine In_nw ?_)); apply In_of; assumption) | refine gt_rd (by first | assumption | (apply Ne.symm; assumption) | (exact hj _ _ (by omega) (by omega) (by omega)) | omega) ?_ | exact gt_nw (by assumption) | refine gt_odr (by first | assumption | (apply Ne.symm; assumption) | omega) ?_)
  rintro y M2 ⟨hy2, rfl⟩
  rw [hm', unh_cg n hC.1 hC.2.2.2.1] at hy2
  subst hy2
  refine Ev.ist2 dX6_crosses_161 rfl rfl ?_
  exact kk _ _ _ _ hW' hF' hK hC
set_option maxRecDepth 20000 in
theorem m_crP {Q : Option Value → Wd → Prop} {x2 : Int32} {a3 : Option Value} {m ct ou F : Nat → Int32} {r : Nat} {V R : Int32} {T : Int32 × Int32 × Int32} {v3 : Nat → Int32} {X3 : Nat → Nat → Int32} {M3 : Wd} (hj : InjM a) (hn : m 328 = nI n) (hn2 : n ≤ 41) (hO : OW m n) (h2 : hi ≤ 999) (h3 : 1 ≤ lo)
    (hW3 : MX a v3 L X3 M3) (hF3 : Fr (mdl a) M0 M3) (hK3 : KP v v3 X X3) (g28 : v3 28 = T.1) (g29 : v3 29 = T.2.1) (g30 : v3 30 = T.2.2) (g36 : v3 36 = nI (r + 1)) (x1 : X3 1 = m) (hc : ∀ k, k < n → X3 22 k = ct k) (hy : ∀ k, k < n → X3 23 k = qt m k) (ho : ∀ k, k < n → X3 35 k = ou k) (h34 : ∀ k, k < n → X3 34 k = 0)
    (hPr : T.1 = -1 ∨ ∃ p, lo ≤ p ∧ p ≤ hi ∧ T.1 = nI p) (hvv : ∀ p, 1 ≤ p → p ≤ 999 → VV X3 p = vof (bs4 m ct (qt m) (nI p) n) ∧ RR X3 p = ref (bs4 m ct (qt m) (nI p) n))
    (hVR : V = (if T.1 < 0 then 0 else vof (bs4 m ct (qt m) T.1 n)) ∧ R = (if T.1 < 0 then 0 else ref (bs4 m ct (qt m) T.1 n)))
    (hFF : F = if T.1 < 0 then (fun _ => 0) else fil m (qt m) (slc m ct (qt m) 1 T.1 n) V (fil m (qt m) (slc m ct (qt m) 0 T.1 n) V (fun _ => 0)))
    (E : ∀ (v' : Nat → Int32) (X' : Nat → Nat → Int32) (M' : Wd) (a3 : Option Value), MX a v' L X' M' → Fr (mdl a) M0 M' → KP v v' X X' → (∀ k, k < n → X' 22 k = ct k) → (∀ k, k < n → X' 23 k = qt m k) → (∀ k, k < n → X' 35 k = ou k) → (∀ k, k < n → X' 34 k = F k) → v' 28 = T.1 → v' 29 = T.2.1 → v' 30 = T.2.2 → v' 36 = nI (r + 1) → v' 37 = V → v' 38 = R → Ev G mX6_crosses 157 [some (.ref (a 0)), some (.int wo), some (.int x2), a3] [] M' 0 0 Q) :
    Ev G mX6_crosses 94 [some (.ref (a 0)), some (.int wo), some (.int x2), a3] [] M3 0 0 Q := by
  have h0 := hW3.1
  rcases hPr with hp | ⟨p, p1, p2, hp⟩
  · have hneg : T.1 < 0 := by rw [hp]; decide
    rw [if_pos hneg] at hFF
    rw [if_pos hneg, if_pos hneg] at hVR
    have hneg2 : v3 28 < 0 := by rw [g28]; exact hneg
    have hW4 := hW3.sv hj (w := upd (upd v3 37 0) 38 0) (K := L)
    have hF4 : Fr (mdl a) M0 (up M3 (a 0) (mo (upd (upd v3 37 0) 38 0) L a)) := hF3.pt (by simp [mdl])
    refine Ev.ald0 dX6_crosses_94 ?_
    refine Ev.ald0 dX6_crosses_95 ?_
    apply Ev.getf dX6_crosses_96 fX6_223
    · repeat (first | assumption | (refine gt_upI ?_; (repeat (first | refine In_up ?_ | refine In_nw ?_)); apply In_of; assumption) | refine gt_rd (by first | assumption | (apply Ne.symm; assumption) | (exact hj _ _ (by omega) (by omega) (by omega)) | omega) ?_ | exact gt_nw (by assumption) | refine gt_odr (by first | assumption | (apply Ne.symm; assumption) | omega) ?_)
    · first | rfl | assumption
    refine Ev.if_ge (tgt := 106) dX6_crosses_99 (by decide) (fun c => absurd hneg2 (Int32.not_lt.mpr c)) (fun c => ?_)
    refine Ev.iconst (v := 0) dX6_crosses_102 (by decide) ?_
    refine Ev.goto (tgt := 114) dX6_crosses_103 (by decide) ?_
    apply Ev.put dX6_crosses_114 fX6_257
    · repeat (first | assumption | (refine gt_upI ?_; (repeat (first | refine In_up ?_ | refine In_nw ?_)); apply In_of; assumption) | refine gt_rd (by first | assumption | (apply Ne.symm; assumption) | (exact hj _ _ (by omega) (by omega) (by omega)) | omega) ?_ | exact gt_nw (by assumption) | refine gt_odr (by first | assumption | (apply Ne.symm; assumption) | omega) ?_)
    · rfl
    · rfl
    · rfl
    refine Ev.ald0 dX6_crosses_117 ?_
    refine Ev.ald0 dX6_crosses_118 ?_
    apply Ev.getf dX6_crosses_119 fX6_223
    · repeat (first | assumption | (refine gt_upI ?_; (repeat (first | refine In_up ?_ | refine In_nw ?_)); apply In_of; assumption) | refine gt_rd (by first | assumption | (apply Ne.symm; assumption) | (exact hj _ _ (by omega) (by omega) (by omega)) | omega) ?_ | exact gt_nw (by assumption) | refine gt_odr (by first | assumption | (apply Ne.symm; assumption) | omega) ?_)
    · first | rfl | assumption
    refine Ev.if_ge (tgt := 129) dX6_crosses_122 (by decide) (fun c => absurd hneg2 (Int32.not_lt.mpr c)) (fun c => ?_)
    refine Ev.iconst (v := 0) dX6_crosses_125 (by decide) ?_
    refine Ev.goto (tgt := 137) dX6_crosses_126 (by decide) ?_
    apply Ev.put dX6_crosses_137 fX6_269
    · repeat (first | assumption | (refine gt_upI ?_; (repeat (first | refine In_up ?_ | refine In_nw ?_)); apply In_of; assumption) | refine gt_rd (by first | assumption | (apply Ne.symm; assumption) | (exact hj _ _ (by omega) (by omega) (by omega)) | omega) ?_ | exact gt_nw (by assumption) | refine gt_odr (by first | assumption | (apply Ne.symm; assumption) | omega) ?_)
    · rfl
    · rfl
    · rfl
    rw [up_up]
    change Ev G mX6_crosses _ _ _ (up M3 (a 0) (mo (upd (upd v3 37 0) 38 0) L a)) 0 0 Q
    generalize up M3 (a 0) (mo (upd (upd v3 37 0) 38 0) L a) = M4 at hW4 hF4 ⊢
    have h0 := hW4.1
    refine Ev.ald0 dX6_crosses_140 ?_
    apply Ev.getf dX6_crosses_141 fX6_223
    · repeat (first | assumption | (refine gt_upI ?_; (repeat (first | refine In_up ?_ | refine In_nw ?_)); apply In_of; assumption) | refine gt_rd (by first | assumption | (apply Ne.symm; assumption) | (exact hj _ _ (by omega) (by omega) (by omega)) | omega) ?_ | exact gt_nw (by assumption) | refine gt_odr (by first | assumption | (apply Ne.symm; assumption) | omega) ?_)
    · first | rfl | assumption
    refine Ev.if_lt (tgt := 157) dX6_crosses_144 (by decide) (fun c => ?_) (fun c => absurd hneg2 c)
    refine E _ _ _ _ hW4 hF4 ((hK3.v 37 (by decide)).v 38 (by decide)) ?_ ?_ ?_ ?_ g28 g29 g30 g36 ?_ ?_
    · intro k hk; exact hc k hk
    · intro k hk; exact hy k hk
    · intro k hk; exact ho k hk
    · intro k hk; rw [hFF]; exact h34 k hk
    · exact hVR.1.symm
    · exact hVR.2.symm
  · have hnn : ¬ T.1 < 0 := by rw [hp]; exact nI_pos (by omega)
    rw [if_neg hnn] at hFF
    rw [if_neg hnn, if_neg hnn] at hVR
    have hnn2 : ¬ v3 28 < 0 := by rw [g28]; exact hnn
    have hp2 : v3 28 = nI p := by rw [g28]; exact hp
    obtain ⟨q1, q2⟩ := hvv p (by omega) (by omega)
    rw [← hp, ← hVR.1] at q1
    rw [← hp, ← hVR.2] at q2
    have hWv := hW3.sv hj (w := upd v3 37 V) (K := L)
    have hW4 := hWv.sv hj (w := upd (upd v3 37 V) 38 R) (K := L)
    have hFv : Fr (mdl a) M0 (up M3 (a 0) (mo (upd v3 37 V) L a)) := hF3.pt (by simp [mdl])
    have hF4 : Fr (mdl a) M0 (up (up M3 (a 0) (mo (upd v3 37 V) L a)) (a 0) (mo (upd (upd v3 37 V) 38 R) L a)) := hFv.pt (by simp [mdl])
    refine Ev.ald0 dX6_crosses_94 ?_
    refine Ev.ald0 dX6_crosses_95 ?_
    apply Ev.getf dX6_crosses_96 fX6_223
    · repeat (first | assumption | (refine gt_upI ?_; (repeat (first | refine In_up ?_ | refine In_nw ?_)); apply In_of; assumption) | refine gt_rd (by first | assumption | (apply Ne.symm; assumption) | (exact hj _ _ (by omega) (by omega) (by omega)) | omega) ?_ | exact gt_nw (by assumption) | refine gt_odr (by first | assumption | (apply Ne.symm; assumption) | omega) ?_)
    · first | rfl | assumption
    refine Ev.if_ge (tgt := 106) dX6_crosses_99 (by decide) (fun c => ?_) (fun c => absurd (Int32.not_lt.mp hnn2) c)
    refine Ev.ald0 dX6_crosses_106 ?_
    refine Ev.ald0 dX6_crosses_107 ?_
    apply Ev.getf dX6_crosses_108 fX6_223
    · repeat (first | assumption | (refine gt_upI ?_; (repeat (first | refine In_up ?_ | refine In_nw ?_)); apply In_of; assumption) | refine gt_rd (by first | assumption | (apply Ne.symm; assumption) | (exact hj _ _ (by omega) (by omega) (by omega)) | omega) ?_ | exact gt_nw (by assumption) | refine gt_odr (by first | assumption | (apply Ne.symm; assumption) | omega) ?_)
    · first | rfl | assumption
    refine Ev.cvI (Yc := mX6_volumeAt) (ci := 6) dX6_crosses_111 lX6_220 vX6_volumeAt rfl (m_vol p hp2 hW3 (by omega)) ?_ rfl rfl rfl rfl ?_
    · apply Exists.intro; repeat (first | assumption | (refine gt_upI ?_; (repeat (first | refine In_up ?_ | refine In_nw ?_)); apply In_of; assumption) | refine gt_rd (by first | assumption | (apply Ne.symm; assumption) | (exact hj _ _ (by omega) (by omega) (by omega)) | omega) ?_ | exact gt_nw (by assumption) | refine gt_odr (by first | assumption | (apply Ne.symm; assumption) | omega) ?_)
    rintro y M' ⟨hy5, rfl⟩
    rw [q1] at hy5
    subst hy5
    apply Ev.put dX6_crosses_114 fX6_257
    · repeat (first | assumption | (refine gt_upI ?_; (repeat (first | refine In_up ?_ | refine In_nw ?_)); apply In_of; assumption) | refine gt_rd (by first | assumption | (apply Ne.symm; assumption) | (exact hj _ _ (by omega) (by omega) (by omega)) | omega) ?_ | exact gt_nw (by assumption) | refine gt_odr (by first | assumption | (apply Ne.symm; assumption) | omega) ?_)
    · rfl
    · rfl
    · rfl
    change Ev G mX6_crosses _ _ _ (up M' (a 0) (mo (upd v3 37 y) L a)) 0 0 Q
    generalize up M' (a 0) (mo (upd v3 37 y) L a) = M5 at hWv hFv hW4 hF4 ⊢
    have h0 := hWv.1
    refine Ev.ald0 dX6_crosses_117 ?_
    refine Ev.ald0 dX6_crosses_118 ?_
    apply Ev.getf dX6_crosses_119 fX6_223
    · repeat (first | assumption | (refine gt_upI ?_; (repeat (first | refine In_up ?_ | refine In_nw ?_)); apply In_of; assumption) | refine gt_rd (by first | assumption | (apply Ne.symm; assumption) | (exact hj _ _ (by omega) (by omega) (by omega)) | omega) ?_ | exact gt_nw (by assumption) | refine gt_odr (by first | assumption | (apply Ne.symm; assumption) | omega) ?_)
    · first | rfl | assumption
    refine Ev.if_ge (tgt := 129) dX6_crosses_122 (by decide) (fun c => ?_) (fun c => absurd (Int32.not_lt.mp hnn2) c)
    refine Ev.ald0 dX6_crosses_129 ?_
    refine Ev.ald0 dX6_crosses_130 ?_
    apply Ev.getf dX6_crosses_131 fX6_223
    · repeat (first | assumption | (refine gt_upI ?_; (repeat (first | refine In_up ?_ | refine In_nw ?_)); apply In_of; assumption) | refine gt_rd (by first | assumption | (apply Ne.symm; assumption) | (exact hj _ _ (by omega) (by omega) (by omega)) | omega) ?_ | exact gt_nw (by assumption) | refine gt_odr (by first | assumption | (apply Ne.symm; assumption) | omega) ?_)
    · first | rfl | assumption
    refine Ev.cvI (Yc := mX6_restAt) (ci := 6) dX6_crosses_134 lX6_233 vX6_restAt rfl (m_res p hp2 hWv (by omega)) ?_ rfl rfl rfl rfl ?_
    · apply Exists.intro; repeat (first | assumption | (refine gt_upI ?_; (repeat (first | refine In_up ?_ | refine In_nw ?_)); apply In_of; assumption) | refine gt_rd (by first | assumption | (apply Ne.symm; assumption) | (exact hj _ _ (by omega) (by omega) (by omega)) | omega) ?_ | exact gt_nw (by assumption) | refine gt_odr (by first | assumption | (apply Ne.symm; assumption) | omega) ?_)
    rintro z M' ⟨hz5, rfl⟩
    rw [q2] at hz5
    subst hz5
    apply Ev.put dX6_crosses_137 fX6_269
    · repeat (first | assumption | (refine gt_upI ?_; (repeat (first | refine In_up ?_ | refine In_nw ?_)); apply In_of; assumption) | refine gt_rd (by first | assumption | (apply Ne.symm; assumption) | (exact hj _ _ (by omega) (by omega) (by omega)) | omega) ?_ | exact gt_nw (by assumption) | refine gt_odr (by first | assumption | (apply Ne.symm; assumption) | omega) ?_)
    · rfl
    · rfl
    · rfl
    change Ev G mX6_crosses _ _ _ (up M' (a 0) (mo (upd (upd v3 37 y) 38 z) L a)) 0 0 Q
    generalize up M' (a 0) (mo (upd (upd v3 37 y) 38 z) L a) = M6 at hW4 hF4 ⊢
    have hK4 : KP v (upd (upd v3 37 y) 38 z) X X3 := (hK3.v 37 (by decide)).v 38 (by decide)
    have f28 : (upd (upd v3 37 y) 38 z) 28 = T.1 := g28
    have f29 : (upd (upd v3 37 y) 38 z) 29 = T.2.1 := g29
    have f30 : (upd (upd v3 37 y) 38 z) 30 = T.2.2 := g30
    have f36 : (upd (upd v3 37 y) 38 z) 36 = nI (r + 1) := g36
    have f37 : (upd (upd v3 37 y) 38 z) 37 = y := rfl
    have f38 : (upd (upd v3 37 y) 38 z) 38 = z := rfl
    generalize upd (upd v3 37 y) 38 z = v4 at hW4 hK4 f28 f29 f30 f36 f37 f38 ⊢
    have h0 := hW4.1
    have hnn4 : ¬ v4 28 < 0 := by rw [f28]; exact hnn
    refine Ev.ald0 dX6_crosses_140 ?_
    apply Ev.getf dX6_crosses_141 fX6_223
    · repeat (first | assumption | (refine gt_upI ?_; (repeat (first | refine In_up ?_ | refine In_nw ?_)); apply In_of; assumption) | refine gt_rd (by first | assumption | (apply Ne.symm; assumption) | (exact hj _ _ (by omega) (by omega) (by omega)) | omega) ?_ | exact gt_nw (by assumption) | refine gt_odr (by first | assumption | (apply Ne.symm; assumption) | omega) ?_)
    · first | rfl | assumption
    refine Ev.if_lt (tgt := 157) dX6_crosses_144 (by decide) (fun c => absurd c hnn4) (fun c => ?_)
    refine Ev.ald0 dX6_crosses_147 ?_
    refine Ev.iconst (v := 0) dX6_crosses_148 (by decide) ?_
    refine Ev.cvV (Yc := mX6_fills) (ci := 6) dX6_crosses_149 lX6_272 vX6_fills rfl (m_fills hj hW4 hF4 (by rw [x1]; exact hn) hn2 (by rw [x1]; exact hO)) ?_ rfl rfl rfl rfl ?_
    · apply Exists.intro; repeat (first | assumption | (refine gt_upI ?_; (repeat (first | refine In_up ?_ | refine In_nw ?_)); apply In_of; assumption) | refine gt_rd (by first | assumption | (apply Ne.symm; assumption) | (exact hj _ _ (by omega) (by omega) (by omega)) | omega) ?_ | exact gt_nw (by assumption) | refine gt_odr (by first | assumption | (apply Ne.symm; assumption) | omega) ?_)
    rintro M7 ⟨l0, so0, sm0, hS0, hW7, hF7⟩
    rw [x1, f28] at hS0
    have hS0' := hS0.cg (ct' := ct) (my' := qt m) hc hy
    rw [x1, f37] at hW7
    have hK7 : KP v (upd v4 33 (nI l0.length)) X (ux (ux (ux X3 31 so0) 32 sm0) 34 (fil m (X3 23) l0 y (X3 34))) := (((hK4.x 31 (by decide)).x 32 (by decide)).x 34 (by decide)).v 33 (by decide)
    have y1 : (ux (ux (ux X3 31 so0) 32 sm0) 34 (fil m (X3 23) l0 y (X3 34))) 1 = m := x1
    have y22 : (ux (ux (ux X3 31 so0) 32 sm0) 34 (fil m (X3 23) l0 y (X3 34))) 22 = X3 22 := rfl
    have y23 : (ux (ux (ux X3 31 so0) 32 sm0) 34 (fil m (X3 23) l0 y (X3 34))) 23 = X3 23 := rfl
    have y35 : (ux (ux (ux X3 31 so0) 32 sm0) 34 (fil m (X3 23) l0 y (X3 34))) 35 = X3 35 := rfl
    have y34 : (ux (ux (ux X3 31 so0) 32 sm0) 34 (fil m (X3 23) l0 y (X3 34))) 34 = fil m (X3 23) l0 y (X3 34) := rfl
    generalize ux (ux (ux X3 31 so0) 32 sm0) 34 (fil m (X3 23) l0 y (X3 34)) = X7 at hW7 hK7 y1 y22 y23 y35 y34
    have h0 := hW7.1
    refine Ev.ald0 dX6_crosses_152 ?_
    refine Ev.iconst (v := 1) dX6_crosses_153 (by decide) ?_
    refine Ev.cvV (Yc := mX6_fills) (ci := 6) dX6_crosses_154 lX6_272 vX6_fills rfl (m_fills hj hW7 hF7 (by rw [y1]; exact hn) hn2 (by rw [y1]; exact hO)) ?_ rfl rfl rfl rfl ?_
    · apply Exists.intro; repeat (first | assumption | (refine gt_upI ?_; (repeat (first | refine In_up ?_ | refine In_nw ?_)); apply In_of; assumption) | refine gt_rd (by first | assumption | (apply Ne.symm; assumption) | (exact hj _ _ (by omega) (by omega) (by omega)) | omega) ?_ | exact gt_nw (by assumption) | refine gt_odr (by first | assumption | (apply Ne.symm; assumption) | omega) ?_)
    rintro M8 ⟨l1, so1, sm1, hS1, hW8, hF8⟩
    have f28' : upd v4 33 (nI l0.length) 28 = T.1 := f28
    have f37' : upd v4 33 (nI l0.length) 37 = y := f37
    rw [y1, y22, y23, f28'] at hS1
    have hS1' := hS1.cg (ct' := ct) (my' := qt m) hc hy
    rw [y1, y23, f37', y34] at hW8
    refine E _ _ _ _ hW8 hF8 ((((hK7.x 31 (by decide)).x 32 (by decide)).x 34 (by decide)).v 33 (by decide)) ?_ ?_ ?_ ?_ f28 f29 f30 f36 f37 f38
    · intro k hk; rw [ux_n (by decide), ux_n (by decide), ux_n (by decide), y22]; exact hc k hk
    · intro k hk; rw [ux_n (by decide), ux_n (by decide), ux_n (by decide), y23]; exact hy k hk
    · intro k hk; rw [ux_n (by decide), ux_n (by decide), ux_n (by decide), y35]; exact ho k hk
    · intro k hk
      rw [ux_s, hFF, slc_eq hS0', slc_eq hS1']
      refine fil_cg (n := n) l1 y _ _ (fun q hq => (hS1.1 q hq).1) hy ?_ k hk
      exact fil_cg (n := n) l0 y _ _ (fun q hq => (hS0.1 q hq).1) hy h34
set_option maxRecDepth 20000 in
theorem m_cr1 {Q : Option Value → Wd → Prop} {x2 : Int32} {a3 : Option Value} {m ct ou : Nat → Int32} {r : Nat} (hj : InjM a) (hW : MX a v L X M) (hF : Fr (mdl a) M0 M) (hm : X 1 = m) (hn : m 328 = nI n) (hn2 : n ≤ 41) (hO : OW m n) (hlo : m 331 = nI lo) (hhi : m 332 = nI hi) (h1 : lo ≤ hi + 1) (h2 : hi ≤ 999) (h3 : 1 ≤ lo)
    (hc : ∀ k, k < n → X 22 k = ct k) (hy : ∀ k, k < n → X 23 k = qt m k) (ho : ∀ k, k < n → X 35 k = ou k) (hr : v 36 = nI r)
    (kk : ∀ (v' : Nat → Int32) (X' : Nat → Nat → Int32) (M' : Wd) (a3 : Option Value), MX a v' L X' M' → Fr (mdl a) M0 M' → KP v v' X X' → CF m n lo hi (ct, ou, r + 1) v' X' → Ev G mX6_crosses 162 [some (.ref (a 0)), some (.int wo), some (.int (unh m ct (rF m ct (qt m) n lo hi) n)), a3] [] M' 0 0 Q) :
    Ev G mX6_crosses 53 [some (.ref (a 0)), some (.int wo), some (.int x2), a3] [] M 0 0 Q := by
  have e8 := lit_in 328 1189 (by omega) (by omega)
  have b8 : vp_in (328 : Int32) 1189 := e8.1
  have z8 : (328 : Int32).toNatClampNeg = 328 := e8.2
  have h0 := hW.1
  have hW1 := hW.sv hj (w := upd v 36 (v 36 + 1)) (K := L)
  have hF1 : Fr (mdl a) M0 (up M (a 0) (mo (upd v 36 (v 36 + 1)) L a)) := hF.pt (by simp [mdl])
  have hr1 : v 36 + 1 = nI (r + 1) := by rw [hr, nI_1]
  refine Ev.ald0 dX6_crosses_53 ?_
  refine Ev.dup dX6_crosses_54 rfl ?_
  apply Ev.getf dX6_crosses_55 fX6_263
  · repeat (first | assumption | (refine gt_upI ?_; (repeat (first | refine In_up ?_ | refine In_nw ?_)); apply In_of; assumption) | refine gt_rd (by first | assumption | (apply Ne.symm; assumption) | (exact hj _ _ (by omega) (by omega) (by omega)) | omega) ?_ | exact gt_nw (by assumption) | refine gt_odr (by first | assumption | (apply Ne.symm; assumption) | omega) ?_)
  · first | rfl | assumption
  refine Ev.iconst (v := 1) dX6_crosses_58 (by decide) ?_
  refine Ev.iadd dX6_crosses_59 ?_
  apply Ev.put dX6_crosses_60 fX6_263
  · repeat (first | assumption | (refine gt_upI ?_; (repeat (first | refine In_up ?_ | refine In_nw ?_)); apply In_of; assumption) | refine gt_rd (by first | assumption | (apply Ne.symm; assumption) | (exact hj _ _ (by omega) (by omega) (by omega)) | omega) ?_ | exact gt_nw (by assumption) | refine gt_odr (by first | assumption | (apply Ne.symm; assumption) | omega) ?_)
  · rfl
  · rfl
  · rfl
  refine Ev.iconst (v := 0) dX6_crosses_63 (by decide) ?_
  refine Ev.ist3 dX6_crosses_64 rfl rfl ?_
  change Ev G mX6_crosses _ _ _ (up M (a 0) (mo (upd v 36 (v 36 + 1)) L a)) 0 0 Q
  generalize up M (a 0) (mo (upd v 36 (v 36 + 1)) L a) = M1 at hW1 hF1 ⊢
  rw [hr1] at hW1
  refine m_crZ (L := L) hj hm hn hn2 n 0 (upd v 36 (nI (r + 1))) M1 (by omega) ?_ hF1 (fun M2 hW2 hF2 => ?_)
  · have eX : ux X 34 (X 34) = X := by
      funext j
      by_cases h : j = 34
      · subst h; rw [ux_s]
      · rw [ux_n h]
    show MX a _ L (ux X 34 (X 34)) M1
    rw [eX]
    exact hW1
  have h0 := hW2.1
  refine Ev.ald0 dX6_crosses_90 ?_
  have hn' : (ux X 34 (fl0 (X 34) 0 n)) 1 328 = nI n := by rw [ux_n (by decide), hm]; exact hn
  refine Ev.cvV (Yc := mX6_findsPrice) (ci := 6) dX6_crosses_91 lX6_266 vX6_findsPrice rfl (m_findsPrice (lo := lo) (hi := hi) hj hW2 hF2 hn' hn2 (fun k hk _ => by rw [ux_n (by decide), hm]; obtain ⟨q, q1, q2, q3⟩ := hO.pp hk; exact ⟨q, by omega, q3⟩) (by rw [ux_n (by decide), hm]; exact hlo) (by rw [ux_n (by decide), hm]; exact hhi) h1 h2) ?_ rfl rfl rfl rfl ?_
  · apply Exists.intro; repeat (first | assumption | (refine gt_upI ?_; (repeat (first | refine In_up ?_ | refine In_nw ?_)); apply In_of; assumption) | refine gt_rd (by first | assumption | (apply Ne.symm; assumption) | (exact hj _ _ (by omega) (by omega) (by omega)) | omega) ?_ | exact gt_nw (by assumption) | refine gt_odr (by first | assumption | (apply Ne.symm; assumption) | omega) ?_)
  rintro M3 ⟨hW3, hF3⟩
  have k1 : (ux X 34 (fl0 (X 34) 0 n)) 1 = m := by rw [ux_n (by decide)]; exact hm
  have k22 : (ux X 34 (fl0 (X 34) 0 n)) 22 = X 22 := ux_n (by decide)
  have k23 : (ux X 34 (fl0 (X 34) 0 n)) 23 = X 23 := ux_n (by decide)
  have k34 : (ux X 34 (fl0 (X 34) 0 n)) 34 = fl0 (X 34) 0 n := ux_s
  have k35 : (ux X 34 (fl0 (X 34) 0 n)) 35 = X 35 := ux_n (by decide)
  have hKk : KP v v X (ux X 34 (fl0 (X 34) 0 n)) := KP.rf.x 34 (by decide)
  generalize ux X 34 (fl0 (X 34) 0 n) = X2 at hW3 k1 k22 k23 k34 k35 hKk
  have hvv : ∀ p, 1 ≤ p → p ≤ 999 → VV (x4 X2 (smX X2 n)) p = vof (bs4 m ct (qt m) (nI p) n) ∧ RR (x4 X2 (smX X2 n)) p = ref (bs4 m ct (qt m) (nI p) n) := fun p q1 q2 => vv_eq hO k1 (by rw [k22]; exact hc) (by rw [k23]; exact hy) q1 q2
  rw [fp_fact (ct := ct) hO k1 (by rw [k22]; exact hc) (by rw [k23]; exact hy) h2 h3] at hW3
  have x1 : x4 X2 (smX X2 n) 1 = m := (x4_n (by decide)).trans k1
  have x22 : x4 X2 (smX X2 n) 22 = X 22 := (x4_n (by decide)).trans k22
  have x23 : x4 X2 (smX X2 n) 23 = X 23 := (x4_n (by decide)).trans k23
  have x35 : x4 X2 (smX X2 n) 35 = X 35 := (x4_n (by decide)).trans k35
  have x34 : x4 X2 (smX X2 n) 34 = fl0 (X 34) 0 n := (x4_n (by decide)).trans k34
  have hKx : KP v v X (x4 X2 (smX X2 n)) := hKk.x4
  generalize x4 X2 (smX X2 n) = X3 at hW3 hvv x1 x22 x23 x35 x34 hKx
  have hK3 : KP v (w3 (upd v 36 (nI (r + 1))) (rP m ct (qt m) n lo hi)) X X3 := (hKx.v 36 (by decide)).w3
  have w28 : ∀ (f : Nat → Int32) (T : Int32 × Int32 × Int32), w3 f T 28 = T.1 ∧ w3 f T 29 = T.2.1 ∧ w3 f T 30 = T.2.2 ∧ w3 f T 36 = f 36 := fun f T => ⟨rfl, rfl, rfl, rfl⟩
  obtain ⟨g28, g29, g30, g36⟩ := w28 (upd v 36 (nI (r + 1))) (rP m ct (qt m) n lo hi)
  rw [pk_us] at g36
  generalize w3 (upd v 36 (nI (r + 1))) (rP m ct (qt m) n lo hi) = v3 at hW3 hK3 g28 g29 g30 g36
  exact m_crP (ct := ct) (ou := ou) (F := rF m ct (qt m) n lo hi) (V := rV m ct (qt m) n lo hi) (R := rR m ct (qt m) n lo hi) (T := rP m ct (qt m) n lo hi) hj hn hn2 hO h2 h3 hW3 hF3 hK3 g28 g29 g30 g36 x1 (by rw [x22]; exact hc) (by rw [x23]; exact hy) (by rw [x35]; exact ho) (fun k hk => by rw [x34]; exact fl0_in _ _ _ hk) rP_pr hvv ⟨rfl, rfl⟩ rfl (fun v' X' M' a3 q1 q2 q3 q4 q5 q6 q7 q8 q9 q10 q11 q12 q13 => m_crE hm hn hn2 kk q1 q2 q3 ⟨q4, q5, q6, q7, q8, q9, q10, q11, q12, q13⟩)
end MOI
