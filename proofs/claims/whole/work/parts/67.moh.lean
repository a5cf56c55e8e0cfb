/-! the reference fills -/
def fil (m my : Nat → Int32) : List (Nat × Nat) → Int32 → (Nat → Int32) → (Nat → Int32)
  | [], _, fl => fl
  | q :: r, x, fl => fil m my r (x - mn x (ptf m my q.1 (nI q.2))) (upd fl q.1 (fl q.1 + mn x (ptf m my q.1 (nI q.2))))
theorem fil_cg {m my my' : Nat → Int32} {n : Nat} : ∀ (l : List (Nat × Nat)) (x : Int32) (fl fl' : Nat → Int32), (∀ q ∈ l, q.1 < n) → (∀ k, k < n → my k = my' k) → (∀ k, k < n → fl k = fl' k) → ∀ k, k < n → fil m my l x fl k = fil m my' l x fl' k
  | [], x, fl, fl', _, _, h => h
  | q :: r, x, fl, fl', h1, h2, h3 => by
    intro k hk
    have hq := h1 q List.mem_cons_self
    rw [fil, fil, ← ptf_cg (h2 q.1 hq)]
    refine fil_cg r _ _ _ (fun p hp => h1 p (List.mem_cons_of_mem _ hp)) h2 (fun j hj => ?_) k hk
    by_cases e : j = q.1
    · subst e
      rw [pk_us, pk_us, h3 _ hq]
    · rw [pk_un e, pk_un e]
      exact h3 j hj
noncomputable def rP (m ct my : Nat → Int32) (n lo hi : Nat) : Int32 × Int32 × Int32 := fp3 (fun p => vof (bs4 m ct my (nI p) n)) (fun p => ref (bs4 m ct my (nI p) n)) lo (hi + 1 - lo) (m 330)
noncomputable def rV (m ct my : Nat → Int32) (n lo hi : Nat) : Int32 := if (rP m ct my n lo hi).1 < 0 then 0 else vof (bs4 m ct my (rP m ct my n lo hi).1 n)
noncomputable def rR (m ct my : Nat → Int32) (n lo hi : Nat) : Int32 := if (rP m ct my n lo hi).1 < 0 then 0 else ref (bs4 m ct my (rP m ct my n lo hi).1 n)
noncomputable def rF (m ct my : Nat → Int32) (n lo hi : Nat) : Nat → Int32 := if (rP m ct my n lo hi).1 < 0 then (fun _ => 0) else fil m my (slc m ct my 1 (rP m ct my n lo hi).1 n) (rV m ct my n lo hi) (fil m my (slc m ct my 0 (rP m ct my n lo hi).1 n) (rV m ct my n lo hi) (fun _ => 0))
noncomputable def crs (m my : Nat → Int32) (n lo hi : Nat) : Nat → (Nat → Int32) → (Nat → Int32) → Nat → (Nat → Int32) × (Nat → Int32) × Nat
  | 0, ct, ou, r => (ct, ou, r)
  | e + 1, ct, ou, r => if unh m ct (rF m ct my n lo hi) n < 0 then (ct, ou, r + 1) else crs m my n lo hi e (upd ct (unh m ct (rF m ct my n lo hi) n).toNatClampNeg 0) (upd ou (unh m ct (rF m ct my n lo hi) n).toNatClampNeg 1) (r + 1)
def qt (m : Nat → Int32) : Nat → Int32 := fun k => m (8 * k + 2)
def ct0 (m : Nat → Int32) (wo : Int32) : Nat → Int32 := fun k => if m (8 * k + 7) = 1 ∨ nI k = wo then 0 else 1
/-- what is written down for a while only -/
abbrev scr : List Nat := [22, 23, 24, 25, 26, 27, 31, 32, 34, 35, 39, 40]
abbrev sci : List Nat := [28, 29, 30, 33, 36, 37, 38]
def KP (v v' : Nat → Int32) (X X' : Nat → Nat → Int32) : Prop := (∀ j, j ∉ scr → X' j = X j) ∧ ∀ j, j ∉ sci → v' j = v j
theorem KP.rf {v : Nat → Int32} {X : Nat → Nat → Int32} : KP v v X X := ⟨fun _ _ => rfl, fun _ _ => rfl⟩
theorem KP.x {v v' : Nat → Int32} {X X' : Nat → Nat → Int32} {f : Nat → Int32} (h : KP v v' X X') (k : Nat) (hk : k ∈ scr) : KP v v' X (ux X' k f) :=
  ⟨fun j hj => by rw [ux_n (show j ≠ k from fun q => hj (q ▸ hk))]; exact h.1 j hj, h.2⟩
theorem KP.v {v v' : Nat → Int32} {X X' : Nat → Nat → Int32} {x : Int32} (h : KP v v' X X') (k : Nat) (hk : k ∈ sci) : KP v (upd v' k x) X X' :=
  ⟨h.1, fun j hj => by rw [pk_un (show j ≠ k from fun q => hj (q ▸ hk))]; exact h.2 j hj⟩
theorem KP.tr {v v' v2 : Nat → Int32} {X X' X2 : Nat → Nat → Int32} (h : KP v v' X X') (h2 : KP v' v2 X' X2) : KP v v2 X X2 := ⟨fun j hj => (h2.1 j hj).trans (h.1 j hj), fun j hj => (h2.2 j hj).trans (h.2 j hj)⟩
theorem unh_cg {m ct ct' fl fl' : Nat → Int32} : ∀ n, (∀ k, k < n → ct k = ct' k) → (∀ k, k < n → fl k = fl' k) → unh m ct fl n = unh m ct' fl' n
  | 0, _, _ => rfl
  | n + 1, h1, h2 => by
    rw [unh, unh, h1 n (by omega), h2 n (by omega), unh_cg n (fun k hk => h1 k (by omega)) (fun k hk => h2 k (by omega))]
theorem unh_in {m ct fl : Nat → Int32} : ∀ n, unh m ct fl n = -1 ∨ ∃ w, w < n ∧ unh m ct fl n = nI w ∧ ct w ≠ 0 ∧ 0 < fl w ∧ fl w < m (8 * w + 5)
  | 0 => Or.inl rfl
  | n + 1 => by
    rw [unh]
    by_cases h : ct n ≠ 0 ∧ 0 < fl n ∧ fl n < m (8 * n + 5)
    · rw [if_pos h]
      exact Or.inr ⟨n, by omega, rfl, h⟩
    · rw [if_neg h]
      rcases unh_in (m := m) (ct := ct) (fl := fl) n with q | ⟨w, h1, h2⟩
      · exact Or.inl q
      · exact Or.inr ⟨w, by omega, h2⟩
noncomputable def cnc (ct : Nat → Int32) : Nat → Nat
  | 0 => 0
  | k + 1 => cnc ct k + (if ct k ≠ 0 then 1 else 0)
theorem cnc_le (ct : Nat → Int32) : ∀ n, cnc ct n ≤ n
  | 0 => Nat.le_refl _
  | n + 1 => by
    rw [cnc]
    have := cnc_le ct n
    split <;> omega
theorem cnc_out {ct : Nat → Int32} {w : Nat} (hw : ct w ≠ 0) : ∀ n, cnc (upd ct w 0) n + (if w < n then 1 else 0) = cnc ct n
  | 0 => by rw [cnc, cnc, if_neg (by omega)]
  | n + 1 => by
    have ih := cnc_out hw n
    rw [cnc, cnc]
    by_cases h : n = w
    · subst h
      rw [if_neg (by omega)] at ih
      rw [pk_us, if_neg (fun q => q rfl), if_pos (by omega), if_pos hw]
      omega
    · rw [pk_un h]
      by_cases h2 : w < n
      · rw [if_pos h2] at ih
        rw [if_pos (show w < n + 1 by omega)]
        omega
      · rw [if_neg h2] at ih
        rw [if_neg (show ¬ w < n + 1 by omega)]
        omega
theorem cav_in (m c : Nat → Int32) : ∀ n k, k < n → cav m c n k = (if m (8 * k + 7) = 1 then 0 else 1)
  | 0, k, h => by omega
  | n + 1, k, h => by
    rw [cav]
    by_cases e : k = n
    · subst e
      exact pk_us
    · rw [pk_un e]
      exact cav_in m c n k (by omega)
theorem cmy_in (m c : Nat → Int32) : ∀ n k, k < n → cmy m c n k = m (8 * k + 2)
  | 0, k, h => by omega
  | n + 1, k, h => by
    rw [cmy]
    by_cases e : k = n
    · subst e
      exact pk_us
    · rw [pk_un e]
      exact cmy_in m c n k (by omega)
/-- prices' sums of a world whose sums are laid -/
theorem vv_eq {X : Nat → Nat → Int32} {n p : Nat} {m ct my : Nat → Int32} (hO : OW m n) (hm : X 1 = m) (hc : ∀ k, k < n → X 22 k = ct k) (hy : ∀ k, k < n → X 23 k = my k) (h1 : 1 ≤ p) (h2 : p ≤ 999) : VV (x4 X (smX X n)) p = vof (bs4 m ct my (nI p) n) ∧ RR (x4 X (smX X n)) p = ref (bs4 m ct my (nI p) n) := by
  have e := sm_eq (m := X 1) (ct := X 22) (my := X 23) (B := (fl0 (X 24) 0 1001, fl0 (X 25) 0 1001, fl0 (X 26) 0 1001, fl0 (X 27) 0 1001)) ⟨fun j hj => fl0_in _ _ _ (by omega), fun j hj => fl0_in _ _ _ (by omega), fun j hj => fl0_in _ _ _ (by omega), fun j hj => fl0_in _ _ _ (by omega)⟩ h1 h2 n (fun k hk _ => by rw [hm]; exact hO.pp hk)
  rw [hm, bs4_cg n hc hy] at e
  constructor
  · rw [← e, ← hm]; rfl
  · rw [← e, ← hm]; rfl
section MOH
variable {G : GP} {M0 M : Wd} {a : Nat → Nat} {v : Nat → Int32} {L : Int64} {X : Nat → Nat → Int32} {n lo hi : Nat} {sd : Int32}
set_option maxRecDepth 20000 in
theorem m_fills (hj : InjM a) (hW : MX a v L X M) (hF : Fr (mdl a) M0 M) (hn : X 1 328 = nI n) (hn2 : n ≤ 41) (hO : OW (X 1) n) :
    CtV G mX6_fills [.ref (a 0), .int sd] M 0 0 (fun M' => ∃ (l : List (Nat × Nat)) (so sm : Nat → Int32), SLs (X 1) (X 22) (X 23) sd (v 28) n l ∧ MX a (upd v 33 (nI l.length)) L (ux (ux (ux X 31 so) 32 sm) 34 (fil (X 1) (X 23) l (v 37) (X 34))) M' ∧ Fr (mdl a) M0 M') := by
  have h0 := hW.1
  refine Ct.of (ls := [some (.ref (a 0)), some (.int sd), none, none, none]) (by decide) (by decide) rfl rfl rfl ?_
  refine Ev.ald0 dX6_fills_0 ?_
  refine Ev.ild1 dX6_fills_1 ?_
  refine Ev.ald0 dX6_fills_2 ?_
  apply Ev.getf dX6_fills_3 fX6_223
  · repeat (first | assumption | (refine gt_upI ?_; (repeat (first | refine In_up ?_ | refine In_nw ?_)); apply In_of; assumption) | refine gt_rd (by first | assumption | (apply Ne.symm; assumption) | (exact hj _ _ (by omega) (by omega) (by omega)) | omega) ?_ | exact gt_nw (by assumption) | refine gt_odr (by first | assumption | (apply Ne.symm; assumption) | omega) ?_)
  · first | rfl | assumption
  refine Ev.cvV (Yc := mX6_laysSlices) (ci := 6) dX6_fills_6 lX6_254 vX6_laysSlices rfl (m_laysSlices hj hW hF hn hn2 (hO.rko hn2)) ?_ rfl rfl rfl rfl ?_
  · apply Exists.intro; repeat (first | assumption | (refine gt_upI ?_; (repeat (first | refine In_up ?_ | refine In_nw ?_)); apply In_of; assumption) | refine gt_rd (by first | assumption | (apply Ne.symm; assumption) | (exact hj _ _ (by omega) (by omega) (by omega)) | omega) ?_ | exact gt_nw (by assumption) | refine gt_odr (by first | assumption | (apply Ne.symm; assumption) | omega) ?_)
  rintro M1 ⟨l, so, sm, hS, hr, hW1, hF1⟩
  have hlen : l.length ≤ 82 := by
    have := sl_len (m := X 1) (fun q hq => ⟨(hS.1 q hq).1, (hS.1 q hq).2.1⟩) hS.2.2
    omega
  have h0 := hW1.1
  refine Ev.ald0 dX6_fills_9 ?_
  apply Ev.getf dX6_fills_10 fX6_257
  · repeat (first | assumption | (refine gt_upI ?_; (repeat (first | refine In_up ?_ | refine In_nw ?_)); apply In_of; assumption) | refine gt_rd (by first | assumption | (apply Ne.symm; assumption) | (exact hj _ _ (by omega) (by omega) (by omega)) | omega) ?_ | exact gt_nw (by assumption) | refine gt_odr (by first | assumption | (apply Ne.symm; assumption) | omega) ?_)
  · first | rfl | assumption
  refine Ev.ist2 dX6_fills_13 rfl rfl ?_
  refine Ev.iconst (v := 0) dX6_fills_14 (by decide) ?_
  refine Ev.ist3 dX6_fills_15 rfl rfl ?_
  have LL : ∀ (r pre : List (Nat × Nat)) (x : Int32) (fl : Nat → Int32) (M2 : Wd) (a4 : Option Value), l = pre ++ r → fil (X 1) (X 23) l (v 37) (X 34) = fil (X 1) (X 23) r x fl → MX a (upd v 33 (nI l.length)) L (ux (ux (ux X 31 so) 32 sm) 34 fl) M2 → Fr (mdl a) M0 M2 → Ev G mX6_fills 16 [some (.ref (a 0)), some (.int sd), some (.int x), some (.int (nI pre.length)), a4] [] M2 0 0 (fun u M' => u = none ∧ ∃ (l : List (Nat × Nat)) (so sm : Nat → Int32), SLs (X 1) (X 22) (X 23) sd (v 28) n l ∧ MX a (upd v 33 (nI l.length)) L (ux (ux (ux X 31 so) 32 sm) 34 (fil (X 1) (X 23) l (v 37) (X 34))) M' ∧ Fr (mdl a) M0 M') := by
    intro r
    induction r with
    | nil =>
      intro pre x fl M2 a4 hl hf hW2 hF2
      have h0 := hW2.1
      refine Ev.ild3 dX6_fills_16 ?_
      refine Ev.ald0 dX6_fills_17 ?_
      apply Ev.getf dX6_fills_18 fX6_242
      · repeat (first | assumption | (refine gt_upI ?_; (repeat (first | refine In_up ?_ | refine In_nw ?_)); apply In_of; assumption) | refine gt_rd (by first | assumption | (apply Ne.symm; assumption) | (exact hj _ _ (by omega) (by omega) (by omega)) | omega) ?_ | exact gt_nw (by assumption) | refine gt_odr (by first | assumption | (apply Ne.symm; assumption) | omega) ?_)
      · first | rfl | assumption
      refine Ev.icmp_ge (tgt := 63) dX6_fills_21 (by decide) (fun c9 => ?_) (fun c9 => absurd (show nI l.length ≤ nI pre.length by rw [hl, List.append_nil]; exact Int32.le_refl _) c9)
      refine Ev.vret dX6_fills_63 rfl ?_
      refine ⟨rfl, l, so, sm, hS, ?_, hF2⟩
      rw [hf]
      exact hW2
    | cons q r ih =>
      intro pre x fl M2 a4 hl hf hW2 hF2
      have h0 := hW2.1
      have hll : l.length = pre.length + (r.length + 1) := by rw [hl]; simp
      have hg : l[pre.length]? = some q := by rw [hl]; simp
      have hq : q ∈ l := by rw [hl]; simp
      have hqn := (hS.1 q hq).1
      obtain ⟨e1, e2⟩ := hr pre.length q hg
      have bk := lit_in pre.length 82 (by omega) (by omega)
      have b1 := bk.1
      have z1 := bk.2
      have bq := lit_in q.1 41 (by omega) (by omega)
      have b2 := bq.1
      have z2 := bq.2
      have g31 : gt M2 (a 31) = some (ia 0 82 so) := hW2.g31
      have g32 : gt M2 (a 32) = some (ia 0 82 sm) := hW2.g32
      have g34 : gt M2 (a 34) = some (ia 0 41 fl) := hW2.g34
      refine Ev.ild3 dX6_fills_16 ?_
      refine Ev.ald0 dX6_fills_17 ?_
      apply Ev.getf dX6_fills_18 fX6_242
      · repeat (first | assumption | (refine gt_upI ?_; (repeat (first | refine In_up ?_ | refine In_nw ?_)); apply In_of; assumption) | refine gt_rd (by first | assumption | (apply Ne.symm; assumption) | (exact hj _ _ (by omega) (by omega) (by omega)) | omega) ?_ | exact gt_nw (by assumption) | refine gt_odr (by first | assumption | (apply Ne.symm; assumption) | omega) ?_)
      · first | rfl | assumption
      refine Ev.icmp_ge (tgt := 63) dX6_fills_21 (by decide) (fun c9 => absurd c9 (nI_ge (by omega) (by omega))) (fun c9 => ?_)
      refine Ev.ild2 dX6_fills_24 ?_
      refine Ev.ald0 dX6_fills_25 ?_
      apply Ev.getf dX6_fills_26 fX6_52
      · repeat (first | assumption | (refine gt_upI ?_; (repeat (first | refine In_up ?_ | refine In_nw ?_)); apply In_of; assumption) | refine gt_rd (by first | assumption | (apply Ne.symm; assumption) | (exact hj _ _ (by omega) (by omega) (by omega)) | omega) ?_ | exact gt_nw (by assumption) | refine gt_odr (by first | assumption | (apply Ne.symm; assumption) | omega) ?_)
      · first | rfl | assumption
      refine Ev.ild3 dX6_fills_29 ?_
      apply Ev.iald dX6_fills_30
      · repeat (first | assumption | (refine gt_upI ?_; (repeat (first | refine In_up ?_ | refine In_nw ?_)); apply In_of; assumption) | refine gt_rd (by first | assumption | (apply Ne.symm; assumption) | (exact hj _ _ (by omega) (by omega) (by omega)) | omega) ?_ | exact gt_nw (by assumption) | refine gt_odr (by first | assumption | (apply Ne.symm; assumption) | omega) ?_)
      · assumption
      rw [z1, e2]
      refine Ev.csI (Yc := mX6_lesser) dX6_fills_31 lX6_211 vX6_lesser rfl m_lesser rfl rfl rfl ?_
      rintro y M' ⟨hy, rfl⟩
      subst hy
      refine Ev.ist4 dX6_fills_34 rfl rfl ?_
      refine Ev.ald0 dX6_fills_36 ?_
      apply Ev.getf dX6_fills_37 fX6_55
      · repeat (first | assumption | (refine gt_upI ?_; (repeat (first | refine In_up ?_ | refine In_nw ?_)); apply In_of; assumption) | refine gt_rd (by first | assumption | (apply Ne.symm; assumption) | (exact hj _ _ (by omega) (by omega) (by omega)) | omega) ?_ | exact gt_nw (by assumption) | refine gt_odr (by first | assumption | (apply Ne.symm; assumption) | omega) ?_)
      · first | rfl | assumption
      refine Ev.ald0 dX6_fills_40 ?_
      apply Ev.getf dX6_fills_41 fX6_49
      · repeat (first | assumption | (refine gt_upI ?_; (repeat (first | refine In_up ?_ | refine In_nw ?_)); apply In_of; assumption) | refine gt_rd (by first | assumption | (apply Ne.symm; assumption) | (exact hj _ _ (by omega) (by omega) (by omega)) | omega) ?_ | exact gt_nw (by assumption) | refine gt_odr (by first | assumption | (apply Ne.symm; assumption) | omega) ?_)
      · first | rfl | assumption
      refine Ev.ild3 dX6_fills_44 ?_
      apply Ev.iald dX6_fills_45
      · repeat (first | assumption | (refine gt_upI ?_; (repeat (first | refine In_up ?_ | refine In_nw ?_)); apply In_of; assumption) | refine gt_rd (by first | assumption | (apply Ne.symm; assumption) | (exact hj _ _ (by omega) (by omega) (by omega)) | omega) ?_ | exact gt_nw (by assumption) | refine gt_odr (by first | assumption | (apply Ne.symm; assumption) | omega) ?_)
      · assumption
      rw [z1, e1]
      refine Ev.dup2 dX6_fills_46 rfl rfl ?_
      apply Ev.iald dX6_fills_47
      · repeat (first | assumption | (refine gt_upI ?_; (repeat (first | refine In_up ?_ | refine In_nw ?_)); apply In_of; assumption) | refine gt_rd (by first | assumption | (apply Ne.symm; assumption) | (exact hj _ _ (by omega) (by omega) (by omega)) | omega) ?_ | exact gt_nw (by assumption) | refine gt_odr (by first | assumption | (apply Ne.symm; assumption) | omega) ?_)
      · assumption
      rw [z2]
      refine Ev.ild4 dX6_fills_48 ?_
      refine Ev.iadd dX6_fills_50 ?_
      apply Ev.iast dX6_fills_51
      · repeat (first | assumption | (refine gt_upI ?_; (repeat (first | refine In_up ?_ | refine In_nw ?_)); apply In_of; assumption) | refine gt_rd (by first | assumption | (apply Ne.symm; assumption) | (exact hj _ _ (by omega) (by omega) (by omega)) | omega) ?_ | exact gt_nw (by assumption) | refine gt_odr (by first | assumption | (apply Ne.symm; assumption) | omega) ?_)
      · assumption
      rw [z2]
      have hW3 := hW2.s34 hj (f := upd fl q.1 (fl q.1 + mn x (ptf (X 1) (X 23) q.1 (nI q.2))))
      rw [ux_u] at hW3
      have hF3 : Fr (mdl a) M0 (up M' (a 34) (ia 0 41 (upd fl q.1 (fl q.1 + mn x (ptf (X 1) (X 23) q.1 (nI q.2)))))) := hF2.pt (by simp [mdl])
      refine Ev.ild2 dX6_fills_52 ?_
      refine Ev.ild4 dX6_fills_53 ?_
      refine Ev.isub dX6_fills_55 ?_
      refine Ev.ist2 dX6_fills_56 rfl rfl ?_
      apply Ev.iinc3 dX6_fills_57 rfl rfl
      · first | exact nI_inc _ | rfl
      refine Ev.goto (tgt := 16) dX6_fills_60 (by decide) ?_
      have := ih (pre ++ [q]) (x - mn x (ptf (X 1) (X 23) q.1 (nI q.2))) _ _ (some (.int (mn x (ptf (X 1) (X 23) q.1 (nI q.2))))) (by rw [hl]; simp) (by rw [hf]; rfl) hW3 hF3
      rw [List.length_append, List.length_singleton] at this
      exact this
  refine LL l [] _ (X 34) _ _ rfl rfl ?_ hF1
  have eX : ux (ux (ux X 31 so) 32 sm) 34 (X 34) = ux (ux X 31 so) 32 sm := by
    funext j
    by_cases h : j = 34
    · subst h
      rw [ux_s]
      rfl
    · rw [ux_n h]
  rw [eX]
  exact hW1
end MOH
