/-! the reference lays slices -/
theorem pig : ∀ (N : Nat) (l : List Nat), l.Nodup → (∀ x ∈ l, x < N) → l.length ≤ N
  | 0, l, _, h => by
    cases l with
    | nil => exact Nat.le_refl _
    | cons x t => exact absurd (h x List.mem_cons_self) (by omega)
  | N + 1, l, hd, h => by
    by_cases hm : N ∈ l
    · have h2 := pig N (l.erase N) (hd.erase N) (fun x hx => by
        have h3 := (hd.mem_erase_iff).mp hx
        have := h x h3.2
        omega)
      have h4 := List.length_erase_of_mem hm
      have : 0 < l.length := List.length_pos_of_mem hm
      omega
    · have h2 := pig N l hd (fun x hx => by
        have := h x hx
        have : x ≠ N := fun q => hm (q ▸ hx)
        omega)
      omega
theorem ux_c {X : Nat → Nat → Int32} {j k : Nat} {f g : Nat → Int32} (h : j ≠ k) : ux (ux X j f) k g = ux (ux X k g) j f := by
  funext i
  simp only [ux]
  by_cases h1 : i = j
  · subst h1
    simp [h]
  · by_cases h2 : i = k
    · subst h2
      simp [h1]
    · simp [h1, h2]
/-- a slice that counts: of this side, willing, of some size -/
def val (m ct my : Nat → Int32) (sd p : Int32) (o : Nat) (pt : Int32) : Prop := m (8 * o + 0) = sd ∧ (ct o ≠ 0 ∧ wl m o p) ∧ 0 < ptf m my o pt
/-- the best of those looked at -/
def bst (A : Nat → Nat → Prop) (rk : Nat → Nat → Int32) (E : Nat → Nat → Prop) (bo bp : Int32) : Prop :=
  (bo = -1 ∧ ∀ o t, E o t → ¬ A o t) ∨ ∃ o t, bo = nI o ∧ bp = nI t ∧ o < 41 ∧ t < 2 ∧ A o t ∧ E o t ∧ ∀ o' t', E o' t' → A o' t' → rk o t ≤ rk o' t'
theorem bst.mono {A : Nat → Nat → Prop} {rk : Nat → Nat → Int32} {E E' : Nat → Nat → Prop} {bo bp : Int32} (h : bst A rk E bo bp) (he : ∀ o t, E o t ↔ E' o t) : bst A rk E' bo bp := by
  rcases h with ⟨h1, h2⟩ | ⟨o, t, h1, h2, h3, h4, h5, h6, h7⟩
  · exact Or.inl ⟨h1, fun o t q => h2 o t ((he o t).mpr q)⟩
  · exact Or.inr ⟨o, t, h1, h2, h3, h4, h5, (he o t).mp h6, fun o' t' q => h7 o' t' ((he o' t').mpr q)⟩
abbrev ekj (k j : Nat) : Nat → Nat → Prop := fun o t => o < k ∧ t < 2 ∨ o = k ∧ t < j
theorem ekj_s {k j o t : Nat} (h : ekj k (j + 1) o t) : ekj k j o t ∨ o = k ∧ t = j := by
  rcases h with h | h
  · exact Or.inl (Or.inl h)
  · by_cases q : t = j
    · exact Or.inr ⟨h.1, q⟩
    · exact Or.inl (Or.inr ⟨h.1, by omega⟩)
section BST
variable {A : Nat → Nat → Prop} {rk : Nat → Nat → Int32} {k j : Nat} {bo bp : Int32}
theorem ekj_i {o t : Nat} (h : ekj k j o t) : ekj k (j + 1) o t := h.elim Or.inl (fun q => Or.inr ⟨q.1, by omega⟩)
theorem bst.no (h : bst A rk (ekj k j) bo bp) (hA : ¬ A k j) : bst A rk (ekj k (j + 1)) bo bp := by
  rcases h with ⟨h1, h2⟩ | ⟨o, t, h1, h2, h3, h4, h5, h6, h7⟩
  · refine Or.inl ⟨h1, fun o t q => ?_⟩
    rcases ekj_s q with q | ⟨rfl, rfl⟩
    · exact h2 o t q
    · exact hA
  · refine Or.inr ⟨o, t, h1, h2, h3, h4, h5, ekj_i h6, fun o' t' q qa => ?_⟩
    rcases ekj_s q with q | ⟨rfl, rfl⟩
    · exact h7 o' t' q qa
    · exact absurd qa hA
theorem bst.nw1 (h2 : ∀ o t, ekj k j o t → ¬ A o t) (hA : A k j) (hk : k < 41) (ht : j < 2) : bst A rk (ekj k (j + 1)) (nI k) (nI j) := by
  refine Or.inr ⟨k, j, rfl, rfl, hk, ht, hA, Or.inr ⟨rfl, by omega⟩, fun o' t' q qa => ?_⟩
  rcases ekj_s q with q | ⟨rfl, rfl⟩
  · exact absurd qa (h2 o' t' q)
  · exact Int32.le_refl _
theorem bst.nw2 {o t : Nat} (h7 : ∀ o' t', ekj k j o' t' → A o' t' → rk o t ≤ rk o' t') (hA : A k j) (hk : k < 41) (ht : j < 2) (hl : rk k j < rk o t) : bst A rk (ekj k (j + 1)) (nI k) (nI j) := by
  refine Or.inr ⟨k, j, rfl, rfl, hk, ht, hA, Or.inr ⟨rfl, by omega⟩, fun o' t' q qa => ?_⟩
  rcases ekj_s q with q | ⟨rfl, rfl⟩
  · exact Int32.le_of_lt (Int32.lt_of_lt_of_le hl (h7 o' t' q qa))
  · exact Int32.le_refl _
theorem bst.old {o t : Nat} (h3 : o < 41) (h4 : t < 2) (h5 : A o t) (h6 : ekj k j o t) (h7 : ∀ o' t', ekj k j o' t' → A o' t' → rk o t ≤ rk o' t') (hl : rk o t ≤ rk k j) : bst A rk (ekj k (j + 1)) (nI o) (nI t) := by
  refine Or.inr ⟨o, t, rfl, rfl, h3, h4, h5, ekj_i h6, fun o' t' q qa => ?_⟩
  rcases ekj_s q with q | ⟨rfl, rfl⟩
  · exact h7 o' t' q qa
  · exact hl
end BST
section MOF
variable {G : GP} {M0 M : Wd} {a : Nat → Nat} {v : Nat → Int32} {L : Int64} {X : Nat → Nat → Int32} {n : Nat} {sd p beh : Int32}
set_option maxRecDepth 20000 in
theorem m_srch1 {Q : Option Value → Wd → Prop} {bo bp : Int32} {a9 : Option Value} {k j : Nat} (hW : MX a v L X M) (hk : k < 41) (hjj : j < 2)
    (hb : bst (fun o t => val (X 1) (X 22) (X 23) sd p o (nI t) ∧ beh < rkf (X 1) o (nI t)) (fun o t => rkf (X 1) o (nI t)) (ekj k j) bo bp)
    (kk : ∀ (bo bp : Int32) (a9 : Option Value), bst (fun o t => val (X 1) (X 22) (X 23) sd p o (nI t) ∧ beh < rkf (X 1) o (nI t)) (fun o t => rkf (X 1) o (nI t)) (ekj k (j + 1)) bo bp → Ev G mX6_laysSlices 134 [some (.ref (a 0)), some (.int sd), some (.int p), some (.int beh), some (.int 1), some (.int bo), some (.int bp), some (.int (nI k)), some (.int (nI j)), a9] [] M 0 0 Q) :
    Ev G mX6_laysSlices 46 [some (.ref (a 0)), some (.int sd), some (.int p), some (.int beh), some (.int 1), some (.int bo), some (.int bp), some (.int (nI k)), some (.int (nI j)), a9] [] M 0 0 Q := by
  have h0 := hW.1
  have h1 := hW.g1
  have h22 := hW.g22
  have J0 : ¬ (val (X 1) (X 22) (X 23) sd p k (nI j) ∧ beh < rkf (X 1) k (nI j)) → Ev G mX6_laysSlices 95 [some (.ref (a 0)), some (.int sd), some (.int p), some (.int beh), some (.int 1), some (.int bo), some (.int bp), some (.int (nI k)), some (.int (nI j)), a9] [.int 0] M 0 0 Q := by
    intro hA
    refine Ev.ist9 dX6_laysSlices_95 rfl rfl ?_
    refine Ev.ild9 dX6_laysSlices_97 ?_
    refine Ev.if_eq (tgt := 134) dX6_laysSlices_99 (by decide) (fun c => kk _ _ _ (hb.no hA)) (fun c => absurd rfl c)
  have J1 : (val (X 1) (X 22) (X 23) sd p k (nI j) ∧ beh < rkf (X 1) k (nI j)) → Ev G mX6_laysSlices 95 [some (.ref (a 0)), some (.int sd), some (.int p), some (.int beh), some (.int 1), some (.int bo), some (.int bp), some (.int (nI k)), some (.int (nI j)), a9] [.int 1] M 0 0 Q := by
    intro hA
    refine Ev.ist9 dX6_laysSlices_95 rfl rfl ?_
    refine Ev.ild9 dX6_laysSlices_97 ?_
    refine Ev.if_eq (tgt := 134) dX6_laysSlices_99 (by decide) (fun c => absurd c (by decide)) (fun c => ?_)
    rcases hb with ⟨b1, b2⟩ | ⟨o, t, b1, b2, b3, b4, b5, b6, b7⟩
    · subst b1
      refine Ev.ild5 dX6_laysSlices_102 ?_
      refine Ev.if_lt (tgt := 126) dX6_laysSlices_104 (by decide) (fun c => ?_) (fun c => absurd (by decide) c)
      refine Ev.ild7 dX6_laysSlices_126 ?_
      refine Ev.ist5 dX6_laysSlices_128 rfl rfl ?_
      refine Ev.ild8 dX6_laysSlices_130 ?_
      refine Ev.ist6 dX6_laysSlices_132 rfl rfl ?_
      exact kk _ _ _ (bst.nw1 b2 hA hk hjj)
    · subst b1; subst b2
      refine Ev.ild5 dX6_laysSlices_102 ?_
      refine Ev.if_lt (tgt := 126) dX6_laysSlices_104 (by decide) (fun c => absurd c (nI_pos (by omega))) (fun c => ?_)
      refine Ev.ald0 dX6_laysSlices_107 ?_
      refine Ev.ild7 dX6_laysSlices_108 ?_
      refine Ev.ild8 dX6_laysSlices_110 ?_
      refine Ev.cvI (Yc := mX6_rank) (ci := 6) dX6_laysSlices_112 lX6_251 vX6_rank rfl (m_rank k rfl hk hW) ?_ rfl rfl rfl rfl ?_
      · apply Exists.intro; repeat (first | assumption | (refine gt_upI ?_; (repeat (first | refine In_up ?_ | refine In_nw ?_)); apply In_of; assumption) | refine gt_rd (by first | assumption | (apply Ne.symm; assumption) | (exact hj _ _ (by omega) (by omega) (by omega)) | omega) ?_ | exact gt_nw (by assumption) | refine gt_odr (by first | assumption | (apply Ne.symm; assumption) | omega) ?_)
      rintro y M' ⟨hy, rfl⟩
      subst hy
      refine Ev.ald0 dX6_laysSlices_115 ?_
      refine Ev.ild5 dX6_laysSlices_116 ?_
      refine Ev.ild6 dX6_laysSlices_118 ?_
      refine Ev.cvI (Yc := mX6_rank) (ci := 6) dX6_laysSlices_120 lX6_251 vX6_rank rfl (m_rank o rfl b3 hW) ?_ rfl rfl rfl rfl ?_
      · apply Exists.intro; repeat (first | assumption | (refine gt_upI ?_; (repeat (first | refine In_up ?_ | refine In_nw ?_)); apply In_of; assumption) | refine gt_rd (by first | assumption | (apply Ne.symm; assumption) | (exact hj _ _ (by omega) (by omega) (by omega)) | omega) ?_ | exact gt_nw (by assumption) | refine gt_odr (by first | assumption | (apply Ne.symm; assumption) | omega) ?_)
      rintro y M' ⟨hy, rfl⟩
      subst hy
      refine Ev.icmp_ge (tgt := 134) dX6_laysSlices_123 (by decide) (fun c123 => ?_) (fun c123 => ?_)
      · exact kk _ _ _ (bst.old b3 b4 b5 b6 b7 c123)
      · refine Ev.ild7 dX6_laysSlices_126 ?_
        refine Ev.ist5 dX6_laysSlices_128 rfl rfl ?_
        refine Ev.ild8 dX6_laysSlices_130 ?_
        refine Ev.ist6 dX6_laysSlices_132 rfl rfl ?_
        exact kk _ _ _ (bst.nw2 b7 hA hk hjj (Int32.not_le.mp c123))
  refine Ev.ald0 dX6_laysSlices_46 ?_
  refine Ev.ild7 dX6_laysSlices_47 ?_
  refine Ev.iconst (v := 0) dX6_laysSlices_49 (by decide) ?_
  refine Ev.cvI (Yc := mX6_of) (ci := 6) dX6_laysSlices_50 lX6_201 vX6_of rfl (m_of k 0 rfl rfl h0 h1 (by omega)) ?_ rfl rfl rfl rfl ?_
  · apply Exists.intro; repeat (first | assumption | (refine gt_upI ?_; (repeat (first | refine In_up ?_ | refine In_nw ?_)); apply In_of; assumption) | refine gt_rd (by first | assumption | (apply Ne.symm; assumption) | (exact hj _ _ (by omega) (by omega) (by omega)) | omega) ?_ | exact gt_nw (by assumption) | refine gt_odr (by first | assumption | (apply Ne.symm; assumption) | omega) ?_)
  rintro y M' ⟨hy, rfl⟩
  subst hy
  refine Ev.ild1 dX6_laysSlices_53 ?_
  refine Ev.icmp_ne (tgt := 94) dX6_laysSlices_54 (by decide) (fun c54 => ?_) (fun c54 => ?_)
  · refine Ev.iconst (v := 0) dX6_laysSlices_94 (by decide) ?_
    exact J0 (fun q => c54 q.1.1)
  · refine Ev.ald0 dX6_laysSlices_57 ?_
    refine Ev.ild7 dX6_laysSlices_58 ?_
    refine Ev.ild2 dX6_laysSlices_60 ?_
    refine Ev.cvI (Yc := mX6_isWilling) (ci := 6) dX6_laysSlices_61 lX6_245 vX6_isWilling rfl (m_isWilling k rfl h0 h1 h22 hk) ?_ rfl rfl rfl rfl ?_
    · apply Exists.intro; repeat (first | assumption | (refine gt_upI ?_; (repeat (first | refine In_up ?_ | refine In_nw ?_)); apply In_of; assumption) | refine gt_rd (by first | assumption | (apply Ne.symm; assumption) | (exact hj _ _ (by omega) (by omega) (by omega)) | omega) ?_ | exact gt_nw (by assumption) | refine gt_odr (by first | assumption | (apply Ne.symm; assumption) | omega) ?_)
    rintro y2 M' ⟨hy2, rfl⟩
    refine Ev.if_eq (tgt := 94) dX6_laysSlices_64 (by decide) (fun c64 => ?_) (fun c64 => ?_)
    · refine Ev.iconst (v := 0) dX6_laysSlices_94 (by decide) ?_
      exact J0 (fun q => v01_f hy2 c64 q.1.2.1)
    · refine Ev.ald0 dX6_laysSlices_67 ?_
      refine Ev.ild7 dX6_laysSlices_68 ?_
      refine Ev.ild8 dX6_laysSlices_70 ?_
      refine Ev.cvI (Yc := mX6_partOf) (ci := 6) dX6_laysSlices_72 lX6_248 vX6_partOf rfl (m_partOf k rfl hk hW) ?_ rfl rfl rfl rfl ?_
      · apply Exists.intro; repeat (first | assumption | (refine gt_upI ?_; (repeat (first | refine In_up ?_ | refine In_nw ?_)); apply In_of; assumption) | refine gt_rd (by first | assumption | (apply Ne.symm; assumption) | (exact hj _ _ (by omega) (by omega) (by omega)) | omega) ?_ | exact gt_nw (by assumption) | refine gt_odr (by first | assumption | (apply Ne.symm; assumption) | omega) ?_)
      rintro y3 M' ⟨hy3, rfl⟩
      subst hy3
      refine Ev.if_le (tgt := 94) dX6_laysSlices_75 (by decide) (fun c75 => ?_) (fun c75 => ?_)
      · refine Ev.iconst (v := 0) dX6_laysSlices_94 (by decide) ?_
        exact J0 (fun q => absurd q.1.2.2 (Int32.not_lt.mpr c75))
      · refine Ev.ald0 dX6_laysSlices_78 ?_
        refine Ev.ild7 dX6_laysSlices_79 ?_
        refine Ev.ild8 dX6_laysSlices_81 ?_
        refine Ev.cvI (Yc := mX6_rank) (ci := 6) dX6_laysSlices_83 lX6_251 vX6_rank rfl (m_rank k rfl hk hW) ?_ rfl rfl rfl rfl ?_
        · apply Exists.intro; repeat (first | assumption | (refine gt_upI ?_; (repeat (first | refine In_up ?_ | refine In_nw ?_)); apply In_of; assumption) | refine gt_rd (by first | assumption | (apply Ne.symm; assumption) | (exact hj _ _ (by omega) (by omega) (by omega)) | omega) ?_ | exact gt_nw (by assumption) | refine gt_odr (by first | assumption | (apply Ne.symm; assumption) | omega) ?_)
        rintro y4 M' ⟨hy4, rfl⟩
        subst hy4
        refine Ev.ild3 dX6_laysSlices_86 ?_
        refine Ev.icmp_le (tgt := 94) dX6_laysSlices_87 (by decide) (fun c87 => ?_) (fun c87 => ?_)
        · refine Ev.iconst (v := 0) dX6_laysSlices_94 (by decide) ?_
          exact J0 (fun q => absurd q.2 (Int32.not_lt.mpr c87))
        · refine Ev.iconst (v := 1) dX6_laysSlices_90 (by decide) ?_
          refine Ev.goto (tgt := 95) dX6_laysSlices_91 (by decide) ?_
          exact J1 ⟨⟨c54, v01_t hy2 c64, Int32.not_le.mp c75⟩, Int32.not_le.mp c87⟩
set_option maxRecDepth 20000 in
theorem m_srch2 {Q : Option Value → Wd → Prop} {a5 a6 a7 a8 a9 : Option Value} (hW : MX a v L X M) (hn : X 1 328 = nI n) (hn2 : n ≤ 41)
    (kk : ∀ (bo bp : Int32) (a7 a8 a9 : Option Value), bst (fun o t => val (X 1) (X 22) (X 23) sd p o (nI t) ∧ beh < rkf (X 1) o (nI t)) (fun o t => rkf (X 1) o (nI t)) (fun o t => o < n ∧ t < 2) bo bp → Ev G mX6_laysSlices 146 [some (.ref (a 0)), some (.int sd), some (.int p), some (.int beh), some (.int 1), some (.int bo), some (.int bp), a7, a8, a9] [] M 0 0 Q) :
    Ev G mX6_laysSlices 15 [some (.ref (a 0)), some (.int sd), some (.int p), some (.int beh), some (.int 1), a5, a6, a7, a8, a9] [] M 0 0 Q := by
  have h0 := hW.1
  have h1 := hW.g1
  have e8 := lit_in 328 1189 (by omega) (by omega)
  have b8 : vp_in (328 : Int32) 1189 := e8.1
  have z8 : (328 : Int32).toNatClampNeg = 328 := e8.2
  have LL : ∀ (d k : Nat) (bo bp : Int32) (a8 a9 : Option Value), k + d = n → bst (fun o t => val (X 1) (X 22) (X 23) sd p o (nI t) ∧ beh < rkf (X 1) o (nI t)) (fun o t => rkf (X 1) o (nI t)) (ekj k 0) bo bp → Ev G mX6_laysSlices 24 [some (.ref (a 0)), some (.int sd), some (.int p), some (.int beh), some (.int 1), some (.int bo), some (.int bp), some (.int (nI k)), a8, a9] [] M 0 0 Q := by
    intro d
    induction d with
    | zero =>
      intro k bo bp a8 a9 hk hb
      refine Ev.ild7 dX6_laysSlices_24 ?_
      refine Ev.ald0 dX6_laysSlices_26 ?_
      apply Ev.getf dX6_laysSlices_27 fX6_13
      · repeat (first | assumption | (refine gt_upI ?_; (repeat (first | refine In_up ?_ | refine In_nw ?_)); apply In_of; assumption) | refine gt_rd (by first | assumption | (apply Ne.symm; assumption) | (exact hj _ _ (by omega) (by omega) (by omega)) | omega) ?_ | exact gt_nw (by assumption) | refine gt_odr (by first | assumption | (apply Ne.symm; assumption) | omega) ?_)
      · first | rfl | assumption
      refine Ev.sipush (v := 328) dX6_laysSlices_30 (by decide) ?_
      apply Ev.iald dX6_laysSlices_33
      · repeat (first | assumption | (refine gt_upI ?_; (repeat (first | refine In_up ?_ | refine In_nw ?_)); apply In_of; assumption) | refine gt_rd (by first | assumption | (apply Ne.symm; assumption) | (exact hj _ _ (by omega) (by omega) (by omega)) | omega) ?_ | exact gt_nw (by assumption) | refine gt_odr (by first | assumption | (apply Ne.symm; assumption) | omega) ?_)
      · assumption
      rw [z8, hn]
      refine Ev.icmp_ge (tgt := 146) dX6_laysSlices_34 (by decide) (fun c9 => ?_) (fun c9 => absurd (nI_le (by omega) (by omega)) c9)
      exact kk _ _ _ _ _ (hb.mono (fun o t => ⟨fun q => q.elim (fun q => ⟨by omega, q.2⟩) (fun q => absurd q.2 (by omega)), fun q => Or.inl ⟨by omega, q.2⟩⟩))
    | succ d ih =>
      intro k bo bp a8 a9 hk hb
      refine Ev.ild7 dX6_laysSlices_24 ?_
      refine Ev.ald0 dX6_laysSlices_26 ?_
      apply Ev.getf dX6_laysSlices_27 fX6_13
      · repeat (first | assumption | (refine gt_upI ?_; (repeat (first | refine In_up ?_ | refine In_nw ?_)); apply In_of; assumption) | refine gt_rd (by first | assumption | (apply Ne.symm; assumption) | (exact hj _ _ (by omega) (by omega) (by omega)) | omega) ?_ | exact gt_nw (by assumption) | refine gt_odr (by first | assumption | (apply Ne.symm; assumption) | omega) ?_)
      · first | rfl | assumption
      refine Ev.sipush (v := 328) dX6_laysSlices_30 (by decide) ?_
      apply Ev.iald dX6_laysSlices_33
      · repeat (first | assumption | (refine gt_upI ?_; (repeat (first | refine In_up ?_ | refine In_nw ?_)); apply In_of; assumption) | refine gt_rd (by first | assumption | (apply Ne.symm; assumption) | (exact hj _ _ (by omega) (by omega) (by omega)) | omega) ?_ | exact gt_nw (by assumption) | refine gt_odr (by first | assumption | (apply Ne.symm; assumption) | omega) ?_)
      · assumption
      rw [z8, hn]
      refine Ev.icmp_ge (tgt := 146) dX6_laysSlices_34 (by decide) (fun c9 => absurd c9 (nI_ge (by omega) (by omega))) (fun c9 => ?_)
      refine Ev.iconst (v := 0) dX6_laysSlices_37 (by decide) ?_
      refine Ev.ist8 dX6_laysSlices_38 rfl rfl ?_
      refine Ev.ild8 dX6_laysSlices_40 ?_
      refine Ev.iconst (v := 2) dX6_laysSlices_42 (by decide) ?_
      refine Ev.icmp_ge (tgt := 140) dX6_laysSlices_43 (by decide) (fun c9 => absurd c9 (by decide)) (fun c9 => ?_)
      refine m_srch1 (j := 0) hW (by omega) (by omega) hb (fun bo1 bp1 a91 hb1 => ?_)
      apply Ev.iinc8 dX6_laysSlices_134 rfl rfl
      · first | exact nI_inc _ | rfl
      refine Ev.goto (tgt := 40) dX6_laysSlices_137 (by decide) ?_
      refine Ev.ild8 dX6_laysSlices_40 ?_
      refine Ev.iconst (v := 2) dX6_laysSlices_42 (by decide) ?_
      refine Ev.icmp_ge (tgt := 140) dX6_laysSlices_43 (by decide) (fun c9 => absurd c9 (by decide)) (fun c9 => ?_)
      refine m_srch1 (j := 1) hW (by omega) (by omega) hb1 (fun bo2 bp2 a92 hb2 => ?_)
      apply Ev.iinc8 dX6_laysSlices_134 rfl rfl
      · first | exact nI_inc _ | rfl
      refine Ev.goto (tgt := 40) dX6_laysSlices_137 (by decide) ?_
      refine Ev.ild8 dX6_laysSlices_40 ?_
      refine Ev.iconst (v := 2) dX6_laysSlices_42 (by decide) ?_
      refine Ev.icmp_ge (tgt := 140) dX6_laysSlices_43 (by decide) (fun c9 => ?_) (fun c9 => absurd (by decide) c9)
      apply Ev.iinc7 dX6_laysSlices_140 rfl rfl
      · first | exact nI_inc _ | rfl
      refine Ev.goto (tgt := 24) dX6_laysSlices_143 (by decide) ?_
      refine ih (k + 1) _ _ _ _ (by omega) (hb2.mono (fun o t => ⟨fun q => ?_, fun q => ?_⟩))
      · rcases q with q | q
        · exact Or.inl ⟨by omega, q.2⟩
        · exact Or.inl ⟨by omega, by omega⟩
      · rcases q with q | q
        · by_cases h : o < k
          · exact Or.inl ⟨h, q.2⟩
          · exact Or.inr ⟨by omega, q.2⟩
        · exact absurd q.2 (by omega)
  refine Ev.iconst (v := -1) dX6_laysSlices_15 (by decide) ?_
  refine Ev.ist5 dX6_laysSlices_16 rfl rfl ?_
  refine Ev.iconst (v := 0) dX6_laysSlices_18 (by decide) ?_
  refine Ev.ist6 dX6_laysSlices_19 rfl rfl ?_
  refine Ev.iconst (v := 0) dX6_laysSlices_21 (by decide) ?_
  refine Ev.ist7 dX6_laysSlices_22 rfl rfl ?_
  exact LL n 0 _ _ _ _ (by omega) (Or.inl ⟨rfl, fun o t q => q.elim (fun q => absurd q.1 (by omega)) (fun q => absurd q.2 (by omega))⟩)
/-- the list of slices -/
def SLs (m ct my : Nat → Int32) (sd p : Int32) (n : Nat) (l : List (Nat × Nat)) : Prop :=
  (∀ q ∈ l, q.1 < n ∧ q.2 < 2 ∧ val m ct my sd p q.1 (nI q.2)) ∧ (∀ o t, o < n → t < 2 → val m ct my sd p o (nI t) → (o, t) ∈ l) ∧ l.Pairwise (fun q r => rkf m q.1 (nI q.2) < rkf m r.1 (nI r.2))
/-- ranks of slices are at least 0, and of two slices not one -/
def RKo (m ct my : Nat → Int32) (sd p : Int32) (n : Nat) : Prop := (∀ o t, o < n → t < 2 → val m ct my sd p o (nI t) → -1 < rkf m o (nI t)) ∧ ∀ o t o' t', o < n → t < 2 → o' < n → t' < 2 → val m ct my sd p o (nI t) → val m ct my sd p o' (nI t') → rkf m o (nI t) = rkf m o' (nI t') → o = o' ∧ t = t'
def SLr (m my so sm : Nat → Int32) (l : List (Nat × Nat)) : Prop := ∀ (i : Nat) (q : Nat × Nat), l[i]? = some q → so i = nI q.1 ∧ sm i = ptf m my q.1 (nI q.2)
theorem sl_len {m : Nat → Int32} {n : Nat} {l : List (Nat × Nat)} (h1 : ∀ q ∈ l, q.1 < n ∧ q.2 < 2) (h3 : l.Pairwise (fun q r => rkf m q.1 (nI q.2) < rkf m r.1 (nI r.2))) : l.length ≤ 2 * n := by
  have := pig (2 * n) (l.map (fun q => 2 * q.1 + q.2)) ?_ ?_
  · simpa using this
  · rw [List.Nodup, List.pairwise_map]
    refine h3.imp_of_mem ?_
    intro q r hq hr hlt e
    have e1 := h1 q hq
    have e2 := h1 r hr
    have : q.1 = r.1 ∧ q.2 = r.2 := by omega
    rw [this.1, this.2] at hlt
    exact Int32.lt_irrefl hlt
  · intro x hx
    obtain ⟨q, hq, rfl⟩ := List.mem_map.mp hx
    have := h1 q hq
    omega
set_option maxRecDepth 20000 in
theorem m_laysSlices (hj : InjM a) (hW : MX a v L X M) (hF : Fr (mdl a) M0 M) (hn : X 1 328 = nI n) (hn2 : n ≤ 41) (hr : RKo (X 1) (X 22) (X 23) sd p n) :
    CtV G mX6_laysSlices [.ref (a 0), .int sd, .int p] M 0 0 (fun M' => ∃ (l : List (Nat × Nat)) (so sm : Nat → Int32), SLs (X 1) (X 22) (X 23) sd p n l ∧ SLr (X 1) (X 23) so sm l ∧ MX a (upd v 33 (nI l.length)) L (ux (ux X 31 so) 32 sm) M' ∧ Fr (mdl a) M0 M') := by
  have LL : ∀ (d : Nat) (beh : Int32) (l : List (Nat × Nat)) (so sm : Nat → Int32) (M1 : Wd) (a5 a6 a7 a8 a9 : Option Value), 2 * n < l.length + d → (∀ q ∈ l, q.1 < n ∧ q.2 < 2 ∧ val (X 1) (X 22) (X 23) sd p q.1 (nI q.2) ∧ rkf (X 1) q.1 (nI q.2) ≤ beh) → (∀ o t, o < n → t < 2 → val (X 1) (X 22) (X 23) sd p o (nI t) → rkf (X 1) o (nI t) ≤ beh → (o, t) ∈ l) → l.Pairwise (fun q r => rkf (X 1) q.1 (nI q.2) < rkf (X 1) r.1 (nI r.2)) → SLr (X 1) (X 23) so sm l → MX a (upd v 33 (nI l.length)) L (ux (ux X 31 so) 32 sm) M1 → Fr (mdl a) M0 M1 → Ev G mX6_laysSlices 10 [some (.ref (a 0)), some (.int sd), some (.int p), some (.int beh), some (.int 1), a5, a6, a7, a8, a9] [] M1 0 0 (fun u M' => u = none ∧ ∃ (l : List (Nat × Nat)) (so sm : Nat → Int32), SLs (X 1) (X 22) (X 23) sd p n l ∧ SLr (X 1) (X 23) so sm l ∧ MX a (upd v 33 (nI l.length)) L (ux (ux X 31 so) 32 sm) M' ∧ Fr (mdl a) M0 M') := by
    intro d
    induction d with
    | zero =>
      intro beh l so sm M1 a5 a6 a7 a8 a9 hd i1 i2 i3 i4 hW hF
      have := sl_len (fun q hq => ⟨(i1 q hq).1, (i1 q hq).2.1⟩) i3
      omega
    | succ d ih =>
      intro beh l so sm M1 a5 a6 a7 a8 a9 hd i1 i2 i3 i4 hW hF
      refine Ev.ild4 dX6_laysSlices_10 ?_
      refine Ev.if_eq (tgt := 213) dX6_laysSlices_12 (by decide) (fun c => absurd c (by decide)) (fun c => ?_)
      refine m_srch2 (n := n) (X := ux (ux X 31 so) 32 sm) hW hn hn2 (fun bo bp a7 a8 a9 hb => ?_)
      have hb2 : bst (fun o t => val (X 1) (X 22) (X 23) sd p o (nI t) ∧ beh < rkf (X 1) o (nI t)) (fun o t => rkf (X 1) o (nI t)) (fun o t => o < n ∧ t < 2) bo bp := hb
      rcases hb2 with ⟨b1, b2⟩ | ⟨o, t, b1, b2, b3, b4, b5, b6, b7⟩
      · subst b1
        refine Ev.ild5 dX6_laysSlices_146 ?_
        refine Ev.if_lt (tgt := 155) dX6_laysSlices_148 (by decide) (fun c => ?_) (fun c => absurd (by decide) c)
        refine Ev.iconst (v := 0) dX6_laysSlices_155 (by decide) ?_
        refine Ev.ist4 dX6_laysSlices_156 rfl rfl ?_
        refine Ev.ild4 dX6_laysSlices_158 ?_
        refine Ev.if_eq (tgt := 210) dX6_laysSlices_160 (by decide) (fun c => ?_) (fun c => absurd rfl c)
        refine Ev.goto (tgt := 10) dX6_laysSlices_210 (by decide) ?_
        refine Ev.ild4 dX6_laysSlices_10 ?_
        refine Ev.if_eq (tgt := 213) dX6_laysSlices_12 (by decide) (fun c => ?_) (fun c => absurd rfl c)
        refine Ev.vret dX6_laysSlices_213 rfl ?_
        refine ⟨rfl, l, so, sm, ⟨fun q hq => ⟨(i1 q hq).1, (i1 q hq).2.1, (i1 q hq).2.2.1⟩, fun o t ho ht hv => ?_, i3⟩, i4, hW, hF⟩
        exact i2 o t ho ht hv (Int32.not_lt.mp (fun q => b2 o t ⟨ho, ht⟩ ⟨hv, q⟩))
      · subst b1; subst b2
        have hmem : ∀ q ∈ l ++ [(o, t)], q.1 < n ∧ q.2 < 2 ∧ val (X 1) (X 22) (X 23) sd p q.1 (nI q.2) ∧ rkf (X 1) q.1 (nI q.2) ≤ rkf (X 1) o (nI t) := by
          intro q hq
          rcases List.mem_append.mp hq with hq | hq
          · have := i1 q hq
            exact ⟨this.1, this.2.1, this.2.2.1, Int32.le_of_lt (Int32.lt_of_le_of_lt this.2.2.2 b5.2)⟩
          · have := List.mem_singleton.mp hq
            subst this
            exact ⟨b6.1, b6.2, b5.1, Int32.le_refl _⟩
        have hpw : (l ++ [(o, t)]).Pairwise (fun q r => rkf (X 1) q.1 (nI q.2) < rkf (X 1) r.1 (nI r.2)) := by
          refine List.pairwise_append.mpr ⟨i3, List.pairwise_singleton _ _, fun q hq r hr => ?_⟩
          have := List.mem_singleton.mp hr
          subst this
          exact Int32.lt_of_le_of_lt (i1 q hq).2.2.2 b5.2
        have hlen := sl_len (fun q hq => ⟨(hmem q hq).1, (hmem q hq).2.1⟩) hpw
        rw [List.length_append, List.length_singleton] at hlen
        have hcomp : ∀ o' t', o' < n → t' < 2 → val (X 1) (X 22) (X 23) sd p o' (nI t') → rkf (X 1) o' (nI t') ≤ rkf (X 1) o (nI t) → (o', t') ∈ l ++ [(o, t)] := by
          intro o' t' ho ht hv hle
          by_cases hq : rkf (X 1) o' (nI t') ≤ beh
          · exact List.mem_append_left _ (i2 o' t' ho ht hv hq)
          · have := b7 o' t' ⟨ho, ht⟩ ⟨hv, Int32.not_le.mp hq⟩
            have e := hr.2 o' t' o t ho ht b6.1 b6.2 hv b5.1 (Int32.le_antisymm hle this)
            rw [e.1, e.2]
            exact List.mem_append_right _ (List.mem_singleton.mpr rfl)
        have e := lit_in l.length 82 (by omega) (by omega)
        have bb : vp_in (upd v 33 (nI l.length) 33) 82 := e.1
        have ee : (upd v 33 (nI l.length) 33).toNatClampNeg = l.length := e.2
        have hS : SLr (X 1) (X 23) (upd so l.length (nI o)) (upd sm l.length (ptf (X 1) (X 23) o (nI t))) (l ++ [(o, t)]) := by
          intro i q hq
          by_cases hi : i < l.length
          · rw [List.getElem?_append_left hi] at hq
            rw [pk_un (Nat.ne_of_lt hi), pk_un (Nat.ne_of_lt hi)]
            exact i4 i q hq
          · by_cases hi2 : i = l.length
            · subst hi2
              rw [List.getElem?_append_right (Nat.le_refl _), Nat.sub_self] at hq
              have : (o, t) = q := Option.some.inj hq
              subst this
              exact ⟨pk_us, pk_us⟩
            · rw [List.getElem?_append_right (by omega), List.getElem?_eq_none (by simp; omega)] at hq
              cases hq
        have h0 := hW.1
        have hW1 := hW.s31 hj (f := upd so l.length (nI o))
        rw [ux_c (j := 32) (k := 31) (by decide), ux_u] at hW1
        have hF1 : Fr (mdl a) M0 (up M1 (a 31) (ia 0 82 (upd so l.length (nI o)))) := hF.pt (by simp [mdl])
        have g31 := hW.g31
        have bo3 : o < 41 := b3
        refine Ev.ild5 dX6_laysSlices_146 ?_
        refine Ev.if_lt (tgt := 155) dX6_laysSlices_148 (by decide) (fun c => absurd c (nI_pos (by omega))) (fun c => ?_)
        refine Ev.iconst (v := 1) dX6_laysSlices_151 (by decide) ?_
        refine Ev.goto (tgt := 156) dX6_laysSlices_152 (by decide) ?_
        refine Ev.ist4 dX6_laysSlices_156 rfl rfl ?_
        refine Ev.ild4 dX6_laysSlices_158 ?_
        refine Ev.if_eq (tgt := 210) dX6_laysSlices_160 (by decide) (fun c => absurd c (by decide)) (fun c => ?_)
        refine Ev.ald0 dX6_laysSlices_163 ?_
        refine Ev.ild5 dX6_laysSlices_164 ?_
        refine Ev.ild6 dX6_laysSlices_166 ?_
        refine Ev.cvI (Yc := mX6_rank) (ci := 6) dX6_laysSlices_168 lX6_251 vX6_rank rfl (m_rank o rfl b3 hW) ?_ rfl rfl rfl rfl ?_
        · apply Exists.intro; repeat (first | assumption | (refine gt_upI ?_; (repeat (first | refine In_up ?_ | refine In_nw ?_)); apply In_of; assumption) | refine gt_rd (by first | assumption | (apply Ne.symm; assumption) | (exact hj _ _ (by omega) (by omega) (by omega)) | omega) ?_ | exact gt_nw (by assumption) | refine gt_odr (by first | assumption | (apply Ne.symm; assumption) | omega) ?_)
        rintro y M' ⟨hy, rfl⟩
        replace hy : y = rkf (X 1) o (nI t) := hy
        subst hy
        refine Ev.ist3 dX6_laysSlices_171 rfl rfl ?_
        refine Ev.ald0 dX6_laysSlices_172 ?_
        apply Ev.getf dX6_laysSlices_173 fX6_49
        · repeat (first | assumption | (refine gt_upI ?_; (repeat (first | refine In_up ?_ | refine In_nw ?_)); apply In_of; assumption) | refine gt_rd (by first | assumption | (apply Ne.symm; assumption) | (exact hj _ _ (by omega) (by omega) (by omega)) | omega) ?_ | exact gt_nw (by assumption) | refine gt_odr (by first | assumption | (apply Ne.symm; assumption) | omega) ?_)
        · first | rfl | assumption
        refine Ev.ald0 dX6_laysSlices_176 ?_
        apply Ev.getf dX6_laysSlices_177 fX6_242
        · repeat (first | assumption | (refine gt_upI ?_; (repeat (first | refine In_up ?_ | refine In_nw ?_)); apply In_of; assumption) | refine gt_rd (by first | assumption | (apply Ne.symm; assumption) | (exact hj _ _ (by omega) (by omega) (by omega)) | omega) ?_ | exact gt_nw (by assumption) | refine gt_odr (by first | assumption | (apply Ne.symm; assumption) | omega) ?_)
        · first | rfl | assumption
        refine Ev.ild5 dX6_laysSlices_180 ?_
        apply Ev.iast dX6_laysSlices_182
        · repeat (first | assumption | (refine gt_upI ?_; (repeat (first | refine In_up ?_ | refine In_nw ?_)); apply In_of; assumption) | refine gt_rd (by first | assumption | (apply Ne.symm; assumption) | (exact hj _ _ (by omega) (by omega) (by omega)) | omega) ?_ | exact gt_nw (by assumption) | refine gt_odr (by first | assumption | (apply Ne.symm; assumption) | omega) ?_)
        · assumption
        rw [ee]
        change Ev G mX6_laysSlices _ _ _ (up M' (a 31) (ia 0 82 (upd so l.length (nI o)))) 0 0 _
        generalize up M' (a 31) (ia 0 82 (upd so l.length (nI o))) = M2 at hW1 hF1 ⊢
        have h0 := hW1.1
        have g32 := hW1.g32
        refine Ev.ald0 dX6_laysSlices_183 ?_
        apply Ev.getf dX6_laysSlices_184 fX6_52
        · repeat (first | assumption | (refine gt_upI ?_; (repeat (first | refine In_up ?_ | refine In_nw ?_)); apply In_of; assumption) | refine gt_rd (by first | assumption | (apply Ne.symm; assumption) | (exact hj _ _ (by omega) (by omega) (by omega)) | omega) ?_ | exact gt_nw (by assumption) | refine gt_odr (by first | assumption | (apply Ne.symm; assumption) | omega) ?_)
        · first | rfl | assumption
        refine Ev.ald0 dX6_laysSlices_187 ?_
        apply Ev.getf dX6_laysSlices_188 fX6_242
        · repeat (first | assumption | (refine gt_upI ?_; (repeat (first | refine In_up ?_ | refine In_nw ?_)); apply In_of; assumption) | refine gt_rd (by first | assumption | (apply Ne.symm; assumption) | (exact hj _ _ (by omega) (by omega) (by omega)) | omega) ?_ | exact gt_nw (by assumption) | refine gt_odr (by first | assumption | (apply Ne.symm; assumption) | omega) ?_)
        · first | rfl | assumption
        refine Ev.ald0 dX6_laysSlices_191 ?_
        refine Ev.ild5 dX6_laysSlices_192 ?_
        refine Ev.ild6 dX6_laysSlices_194 ?_
        refine Ev.cvI (Yc := mX6_partOf) (ci := 6) dX6_laysSlices_196 lX6_248 vX6_partOf rfl (m_partOf o rfl b3 hW1) ?_ rfl rfl rfl rfl ?_
        · apply Exists.intro; repeat (first | assumption | (refine gt_upI ?_; (repeat (first | refine In_up ?_ | refine In_nw ?_)); apply In_of; assumption) | refine gt_rd (by first | assumption | (apply Ne.symm; assumption) | (exact hj _ _ (by omega) (by omega) (by omega)) | omega) ?_ | exact gt_nw (by assumption) | refine gt_odr (by first | assumption | (apply Ne.symm; assumption) | omega) ?_)
        rintro y M' ⟨hy, rfl⟩
        replace hy : y = ptf (X 1) (X 23) o (nI t) := hy
        subst hy
        have hW2 := hW1.s32 hj (f := upd sm l.length (ptf (X 1) (X 23) o (nI t)))
        rw [ux_u] at hW2
        have hF2 : Fr (mdl a) M0 (up M' (a 32) (ia 0 82 (upd sm l.length (ptf (X 1) (X 23) o (nI t))))) := hF1.pt (by simp [mdl])
        apply Ev.iast dX6_laysSlices_199
        · repeat (first | assumption | (refine gt_upI ?_; (repeat (first | refine In_up ?_ | refine In_nw ?_)); apply In_of; assumption) | refine gt_rd (by first | assumption | (apply Ne.symm; assumption) | (exact hj _ _ (by omega) (by omega) (by omega)) | omega) ?_ | exact gt_nw (by assumption) | refine gt_odr (by first | assumption | (apply Ne.symm; assumption) | omega) ?_)
        · assumption
        rw [ee]
        change Ev G mX6_laysSlices _ _ _ (up M' (a 32) (ia 0 82 (upd sm l.length (ptf (X 1) (X 23) o (nI t))))) 0 0 _
        generalize up M' (a 32) (ia 0 82 (upd sm l.length (ptf (X 1) (X 23) o (nI t)))) = M3 at hW2 hF2 ⊢
        have h0 := hW2.1
        have hW3 := hW2.sv hj (w := upd (upd v 33 (nI l.length)) 33 (nI l.length + 1)) (K := L)
        have ew : upd (upd v 33 (nI l.length)) 33 (nI l.length + 1) = upd v 33 (nI (l ++ [(o, t)]).length) := by
          rw [List.length_append, List.length_singleton, nI_1]
          funext i
          by_cases hi : i = 33
          · subst hi; rw [pk_us, pk_us]
          · rw [pk_un hi, pk_un hi, pk_un hi]
        rw [ew] at hW3
        have hF3 : Fr (mdl a) M0 (up M3 (a 0) (mo (upd v 33 (nI (l ++ [(o, t)]).length)) L a)) := hF2.pt (by simp [mdl])
        refine Ev.ald0 dX6_laysSlices_200 ?_
        refine Ev.dup dX6_laysSlices_201 rfl ?_
        apply Ev.getf dX6_laysSlices_202 fX6_242
        · repeat (first | assumption | (refine gt_upI ?_; (repeat (first | refine In_up ?_ | refine In_nw ?_)); apply In_of; assumption) | refine gt_rd (by first | assumption | (apply Ne.symm; assumption) | (exact hj _ _ (by omega) (by omega) (by omega)) | omega) ?_ | exact gt_nw (by assumption) | refine gt_odr (by first | assumption | (apply Ne.symm; assumption) | omega) ?_)
        · first | rfl | assumption
        refine Ev.iconst (v := 1) dX6_laysSlices_205 (by decide) ?_
        refine Ev.iadd dX6_laysSlices_206 ?_
        apply Ev.put dX6_laysSlices_207 fX6_242
        · repeat (first | assumption | (refine gt_upI ?_; (repeat (first | refine In_up ?_ | refine In_nw ?_)); apply In_of; assumption) | refine gt_rd (by first | assumption | (apply Ne.symm; assumption) | (exact hj _ _ (by omega) (by omega) (by omega)) | omega) ?_ | exact gt_nw (by assumption) | refine gt_odr (by first | assumption | (apply Ne.symm; assumption) | omega) ?_)
        · rfl
        · rfl
        · rfl
        refine Ev.goto (tgt := 10) dX6_laysSlices_210 (by decide) ?_
        change Ev G mX6_laysSlices _ _ _ (up M3 (a 0) (mo (upd (upd v 33 (nI l.length)) 33 (nI l.length + 1)) L a)) 0 0 _
        rw [ew]
        exact ih _ (l ++ [(o, t)]) _ _ _ _ _ _ _ _ (by rw [List.length_append, List.length_singleton]; omega) hmem hcomp hpw hS hW3 hF3
  have h0 := hW.1
  refine Ct.of (ls := [some (.ref (a 0)), some (.int sd), some (.int p), none, none, none, none, none, none, none]) (by decide) (by decide) rfl rfl rfl ?_
  have hW1 := hW.sv hj (w := upd v 33 0) (K := L)
  have hF1 : Fr (mdl a) M0 (up M (a 0) (mo (upd v 33 0) L a)) := hF.pt (by simp [mdl])
  refine Ev.ald0 dX6_laysSlices_0 ?_
  refine Ev.iconst (v := 0) dX6_laysSlices_1 (by decide) ?_
  apply Ev.put dX6_laysSlices_2 fX6_242
  · repeat (first | assumption | (refine gt_upI ?_; (repeat (first | refine In_up ?_ | refine In_nw ?_)); apply In_of; assumption) | refine gt_rd (by first | assumption | (apply Ne.symm; assumption) | (exact hj _ _ (by omega) (by omega) (by omega)) | omega) ?_ | exact gt_nw (by assumption) | refine gt_odr (by first | assumption | (apply Ne.symm; assumption) | omega) ?_)
  · rfl
  · rfl
  · rfl
  refine Ev.iconst (v := -1) dX6_laysSlices_5 (by decide) ?_
  refine Ev.ist3 dX6_laysSlices_6 rfl rfl ?_
  refine Ev.iconst (v := 1) dX6_laysSlices_7 (by decide) ?_
  refine Ev.ist4 dX6_laysSlices_8 rfl rfl ?_
  change Ev G mX6_laysSlices _ _ _ (up M (a 0) (mo (upd v 33 0) L a)) 0 0 _
  refine LL (2 * n + 1) (-1) [] (X 31) (X 32) _ _ _ _ _ _ (by simp) (fun q hq => absurd hq List.not_mem_nil) (fun o t ho ht hv hle => absurd (hr.1 o t ho ht hv) (Int32.not_lt.mpr hle)) List.Pairwise.nil (fun i q hq => by cases hq) ?_ hF1
  have eX : ux (ux X 31 (X 31)) 32 (X 32) = X := by
    funext j
    simp only [ux]
    by_cases h : j = 32 <;> by_cases h2 : j = 31 <;> simp [h, h2]
  rw [eX]
  exact hW1
end MOF
