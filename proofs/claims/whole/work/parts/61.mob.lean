/-! the reference's world as a whole: its ints v, its letters L, its rows X by their field's number -/
abbrev mtb : List (Nat × Nat × Nat) := [(1, 0, 1189), (2, 0, 14268), (4, 0, 32), (7, 1, 800), (17, 0, 320), (22, 2, 41), (23, 0, 41), (24, 0, 1001), (25, 0, 1001), (26, 0, 1001), (27, 0, 1001), (31, 0, 82), (32, 0, 82), (34, 0, 41), (35, 2, 41), (39, 0, 82), (40, 0, 82)]
def ux (X : Nat → Nat → Int32) (k : Nat) (f : Nat → Int32) : Nat → Nat → Int32 := fun j => if j = k then f else X j
theorem ux_s {X : Nat → Nat → Int32} {k : Nat} {f : Nat → Int32} : ux X k f k = f := if_pos rfl
theorem ux_n {X : Nat → Nat → Int32} {k j : Nat} {f : Nat → Int32} (h : j ≠ k) : ux X k f j = X j := if_neg h
theorem ux_u {X : Nat → Nat → Int32} {k : Nat} {f g : Nat → Int32} : ux (ux X k f) k g = ux X k g := by
  funext j
  by_cases h : j = k
  · rw [h, ux_s, ux_s]
  · rw [ux_n h, ux_n h, ux_n h]
def MX (a : Nat → Nat) (v : Nat → Int32) (L : Int64) (X : Nat → Nat → Int32) (M : Wd) : Prop := gt M (a 0) = some (mo v L a) ∧ ∀ q ∈ mtb, gt M (a q.1) = some (ia q.2.1 q.2.2 (X q.1))
abbrev mdl (a : Nat → Nat) : List Nat := [a 0, a 1, a 2, a 4, a 7, a 17, a 22, a 23, a 24, a 25, a 26, a 27, a 31, a 32, a 34, a 35, a 39, a 40]
theorem mtb_ok : ∀ q ∈ mtb, 0 < q.1 ∧ q.1 < 41 := by decide
theorem mtb_in : ∀ q ∈ mtb, ∀ a : Nat → Nat, a q.1 ∈ mdl a := by
  intro q hq a
  simp only [mtb, List.mem_cons, List.not_mem_nil, or_false] at hq
  rcases hq with rfl | rfl | rfl | rfl | rfl | rfl | rfl | rfl | rfl | rfl | rfl | rfl | rfl | rfl | rfl | rfl | rfl <;> simp [mdl]
theorem mtb_nd : ∀ p ∈ mtb, ∀ q ∈ mtb, p.1 = q.1 → p = q := by decide
theorem MX.st {a : Nat → Nat} {v : Nat → Int32} {L : Int64} {X : Nat → Nat → Int32} {M : Wd} {f : Nat → Int32} (hj : InjM a) (h : MX a v L X M) (q : Nat × Nat × Nat) (hq : q ∈ mtb) : MX a v L (ux X q.1 f) (up M (a q.1) (ia q.2.1 q.2.2 f)) := by
  refine ⟨gt_rd (hj _ _ (by omega) (mtb_ok q hq).2 (Nat.ne_of_lt (mtb_ok q hq).1)) h.1, fun p hp => ?_⟩
  by_cases e : p.1 = q.1
  · have := mtb_nd p hp q hq e
    subst this
    rw [ux_s]
    exact gt_up (h.2 p hp)
  · rw [ux_n e]
    exact gt_rd (hj _ _ (mtb_ok p hp).2 (mtb_ok q hq).2 e) (h.2 p hp)
theorem MX.sv {a : Nat → Nat} {v w : Nat → Int32} {L K : Int64} {X : Nat → Nat → Int32} {M : Wd} (hj : InjM a) (h : MX a v L X M) : MX a w K X (up M (a 0) (mo w K a)) :=
  ⟨gt_up h.1, fun p hp => gt_rd (hj _ _ (mtb_ok p hp).2 (by omega) (Nat.ne_of_gt (mtb_ok p hp).1)) (h.2 p hp)⟩

section MWG
variable {a : Nat → Nat} {v : Nat → Int32} {L : Int64} {X : Nat → Nat → Int32} {M : Wd} {f : Nat → Int32}
theorem MX.g1 (h : MX a v L X M) : gt M (a 1) = some (ia 0 1189 (X 1)) := h.2 (1, 0, 1189) (by decide)
theorem MX.s1 (h : MX a v L X M) (hj : InjM a) : MX a v L (ux X 1 f) (up M (a 1) (ia 0 1189 f)) := MX.st hj h (1, 0, 1189) (by decide)
theorem MX.g2 (h : MX a v L X M) : gt M (a 2) = some (ia 0 14268 (X 2)) := h.2 (2, 0, 14268) (by decide)
theorem MX.s2 (h : MX a v L X M) (hj : InjM a) : MX a v L (ux X 2 f) (up M (a 2) (ia 0 14268 f)) := MX.st hj h (2, 0, 14268) (by decide)
theorem MX.g4 (h : MX a v L X M) : gt M (a 4) = some (ia 0 32 (X 4)) := h.2 (4, 0, 32) (by decide)
theorem MX.s4 (h : MX a v L X M) (hj : InjM a) : MX a v L (ux X 4 f) (up M (a 4) (ia 0 32 f)) := MX.st hj h (4, 0, 32) (by decide)
theorem MX.g7 (h : MX a v L X M) : gt M (a 7) = some (ia 1 800 (X 7)) := h.2 (7, 1, 800) (by decide)
theorem MX.s7 (h : MX a v L X M) (hj : InjM a) : MX a v L (ux X 7 f) (up M (a 7) (ia 1 800 f)) := MX.st hj h (7, 1, 800) (by decide)
theorem MX.g17 (h : MX a v L X M) : gt M (a 17) = some (ia 0 320 (X 17)) := h.2 (17, 0, 320) (by decide)
theorem MX.s17 (h : MX a v L X M) (hj : InjM a) : MX a v L (ux X 17 f) (up M (a 17) (ia 0 320 f)) := MX.st hj h (17, 0, 320) (by decide)
theorem MX.g22 (h : MX a v L X M) : gt M (a 22) = some (ia 2 41 (X 22)) := h.2 (22, 2, 41) (by decide)
theorem MX.s22 (h : MX a v L X M) (hj : InjM a) : MX a v L (ux X 22 f) (up M (a 22) (ia 2 41 f)) := MX.st hj h (22, 2, 41) (by decide)
theorem MX.g23 (h : MX a v L X M) : gt M (a 23) = some (ia 0 41 (X 23)) := h.2 (23, 0, 41) (by decide)
theorem MX.s23 (h : MX a v L X M) (hj : InjM a) : MX a v L (ux X 23 f) (up M (a 23) (ia 0 41 f)) := MX.st hj h (23, 0, 41) (by decide)
theorem MX.g24 (h : MX a v L X M) : gt M (a 24) = some (ia 0 1001 (X 24)) := h.2 (24, 0, 1001) (by decide)
theorem MX.s24 (h : MX a v L X M) (hj : InjM a) : MX a v L (ux X 24 f) (up M (a 24) (ia 0 1001 f)) := MX.st hj h (24, 0, 1001) (by decide)
theorem MX.g25 (h : MX a v L X M) : gt M (a 25) = some (ia 0 1001 (X 25)) := h.2 (25, 0, 1001) (by decide)
theorem MX.s25 (h : MX a v L X M) (hj : InjM a) : MX a v L (ux X 25 f) (up M (a 25) (ia 0 1001 f)) := MX.st hj h (25, 0, 1001) (by decide)
theorem MX.g26 (h : MX a v L X M) : gt M (a 26) = some (ia 0 1001 (X 26)) := h.2 (26, 0, 1001) (by decide)
theorem MX.s26 (h : MX a v L X M) (hj : InjM a) : MX a v L (ux X 26 f) (up M (a 26) (ia 0 1001 f)) := MX.st hj h (26, 0, 1001) (by decide)
theorem MX.g27 (h : MX a v L X M) : gt M (a 27) = some (ia 0 1001 (X 27)) := h.2 (27, 0, 1001) (by decide)
theorem MX.s27 (h : MX a v L X M) (hj : InjM a) : MX a v L (ux X 27 f) (up M (a 27) (ia 0 1001 f)) := MX.st hj h (27, 0, 1001) (by decide)
theorem MX.g31 (h : MX a v L X M) : gt M (a 31) = some (ia 0 82 (X 31)) := h.2 (31, 0, 82) (by decide)
theorem MX.s31 (h : MX a v L X M) (hj : InjM a) : MX a v L (ux X 31 f) (up M (a 31) (ia 0 82 f)) := MX.st hj h (31, 0, 82) (by decide)
theorem MX.g32 (h : MX a v L X M) : gt M (a 32) = some (ia 0 82 (X 32)) := h.2 (32, 0, 82) (by decide)
theorem MX.s32 (h : MX a v L X M) (hj : InjM a) : MX a v L (ux X 32 f) (up M (a 32) (ia 0 82 f)) := MX.st hj h (32, 0, 82) (by decide)
theorem MX.g34 (h : MX a v L X M) : gt M (a 34) = some (ia 0 41 (X 34)) := h.2 (34, 0, 41) (by decide)
theorem MX.s34 (h : MX a v L X M) (hj : InjM a) : MX a v L (ux X 34 f) (up M (a 34) (ia 0 41 f)) := MX.st hj h (34, 0, 41) (by decide)
theorem MX.g35 (h : MX a v L X M) : gt M (a 35) = some (ia 2 41 (X 35)) := h.2 (35, 2, 41) (by decide)
theorem MX.s35 (h : MX a v L X M) (hj : InjM a) : MX a v L (ux X 35 f) (up M (a 35) (ia 2 41 f)) := MX.st hj h (35, 2, 41) (by decide)
theorem MX.g39 (h : MX a v L X M) : gt M (a 39) = some (ia 0 82 (X 39)) := h.2 (39, 0, 82) (by decide)
theorem MX.s39 (h : MX a v L X M) (hj : InjM a) : MX a v L (ux X 39 f) (up M (a 39) (ia 0 82 f)) := MX.st hj h (39, 0, 82) (by decide)
theorem MX.g40 (h : MX a v L X M) : gt M (a 40) = some (ia 0 82 (X 40)) := h.2 (40, 0, 82) (by decide)
theorem MX.s40 (h : MX a v L X M) (hj : InjM a) : MX a v L (ux X 40 f) (up M (a 40) (ia 0 82 f)) := MX.st hj h (40, 0, 82) (by decide)
end MWG
def rkf (m : Nat → Int32) (k : Nat) (pt : Int32) : Int32 := (((if m (8 * k + 1) = 4 then 2 else if m (8 * k + 1) = 0 then 0 else 1) * 1000 + (if m (8 * k + 1) = 0 then 0 else if m (8 * k + 0) = 0 then 999 - m (8 * k + 3) else m (8 * k + 3))) * 2 + (if m (8 * k + 1) = 2 ∨ pt = 1 then 1 else 0)) * 64 + nI k
def ptf (m my : Nat → Int32) (k : Nat) (pt : Int32) : Int32 := if m (8 * k + 1) = 3 then (if pt = 0 then mn (m (8 * k + 4)) (my k) else my k - mn (m (8 * k + 4)) (my k)) else (if pt = 0 then my k else 0)
noncomputable def cav (m c : Nat → Int32) : Nat → (Nat → Int32)
  | 0 => c
  | k + 1 => upd (cav m c k) k (if m (8 * k + 7) = 1 then 0 else 1)
noncomputable def cmy (m c : Nat → Int32) : Nat → (Nat → Int32)
  | 0 => c
  | k + 1 => upd (cmy m c k) k (m (8 * k + 2))
noncomputable def unh (m ct fl : Nat → Int32) : Nat → Int32
  | 0 => -1
  | k + 1 => if ct k ≠ 0 ∧ 0 < fl k ∧ fl k < m (8 * k + 5) then nI k else unh m ct fl k
theorem unh_f {m ct fl : Nat → Int32} {k : Nat} (h : ¬ (ct k ≠ 0 ∧ 0 < fl k ∧ fl k < m (8 * k + 5))) : unh m ct fl k = unh m ct fl (k + 1) := (if_neg h).symm
theorem unh_t {m ct fl : Nat → Int32} {k : Nat} (h : ct k ≠ 0 ∧ 0 < fl k ∧ fl k < m (8 * k + 5)) : nI k = unh m ct fl (k + 1) := (if_pos h).symm
section MOB
variable {G : GP} {M0 M : Wd} {a : Nat → Nat} {v : Nat → Int32} {L : Int64} {X : Nat → Nat → Int32} {n : Nat}
set_option maxRecDepth 20000 in
theorem m_rank {o pt : Int32} (k : Nat) (ho : o = nI k) (hk : k < 41) (hW : MX a v L X M) : CtI G mX6_rank [.ref (a 0), .int o, .int pt] M 0 0 (fun x M' => x = rkf (X 1) k pt ∧ M' = M) := by
  have h0 := hW.1
  have h1 := hW.g1
  subst ho
  have J3 : ∀ x y z : Int32, x = (if X 1 (8 * k + 1) = 0 then 0 else if X 1 (8 * k + 0) = 0 then 999 - X 1 (8 * k + 3) else X 1 (8 * k + 3)) → y = (if X 1 (8 * k + 1) = 4 then 2 else if X 1 (8 * k + 1) = 0 then 0 else 1) → z = (if X 1 (8 * k + 1) = 2 ∨ pt = 1 then 1 else 0) → Ev G mX6_rank 80 [some (.ref (a 0)), some (.int (nI k)), some (.int pt), some (.int (X 1 (8 * k + 1))), some (.int x), some (.int y), none] [.int z] M 0 0 (fun v M' => ∃ x, v = some (.int x) ∧ x = rkf (X 1) k pt ∧ M' = M) := by
    intro x y z hx hy hz
    refine Ev.ist6 dX6_rank_80 rfl rfl ?_
    refine Ev.ild5 dX6_rank_82 ?_
    refine Ev.sipush (v := 1000) dX6_rank_84 (by decide) ?_
    refine Ev.imul dX6_rank_87 ?_
    refine Ev.ild4 dX6_rank_88 ?_
    refine Ev.iadd dX6_rank_90 ?_
    refine Ev.iconst (v := 2) dX6_rank_91 (by decide) ?_
    refine Ev.imul dX6_rank_92 ?_
    refine Ev.ild6 dX6_rank_93 ?_
    refine Ev.iadd dX6_rank_95 ?_
    refine Ev.bipush (v := 64) dX6_rank_96 (by decide) ?_
    refine Ev.imul dX6_rank_98 ?_
    refine Ev.ild1 dX6_rank_99 ?_
    refine Ev.iadd dX6_rank_100 ?_
    refine Ev.iret dX6_rank_101 rfl rfl ?_
    exact ⟨_, rfl, by rw [rkf, ← hx, ← hy, ← hz], rfl⟩
  have J2 : ∀ x y : Int32, x = (if X 1 (8 * k + 1) = 0 then 0 else if X 1 (8 * k + 0) = 0 then 999 - X 1 (8 * k + 3) else X 1 (8 * k + 3)) → y = (if X 1 (8 * k + 1) = 4 then 2 else if X 1 (8 * k + 1) = 0 then 0 else 1) → Ev G mX6_rank 63 [some (.ref (a 0)), some (.int (nI k)), some (.int pt), some (.int (X 1 (8 * k + 1))), some (.int x), none, none] [.int y] M 0 0 (fun v M' => ∃ x, v = some (.int x) ∧ x = rkf (X 1) k pt ∧ M' = M) := by
    intro x y hx hy
    refine Ev.ist5 dX6_rank_63 rfl rfl ?_
    refine Ev.ild3 dX6_rank_65 ?_
    refine Ev.iconst (v := 2) dX6_rank_66 (by decide) ?_
    refine Ev.icmp_eq (tgt := 75) dX6_rank_67 (by decide) (fun c67 => ?_) (fun c67 => ?_)
    · refine Ev.iconst (v := 1) dX6_rank_75 (by decide) ?_
      refine Ev.goto (tgt := 80) dX6_rank_76 (by decide) ?_
      first | exact J3 _ _ _ hx hy (if_pos (Or.inl c67)).symm | exact J3 _ _ _ hx hy (if_neg (fun q => q.elim c67 c72)).symm | exact J3 _ _ _ hx hy (if_pos (Or.inr c72)).symm
    · refine Ev.ild2 dX6_rank_70 ?_
      refine Ev.iconst (v := 1) dX6_rank_71 (by decide) ?_
      refine Ev.icmp_ne (tgt := 79) dX6_rank_72 (by decide) (fun c72 => ?_) (fun c72 => ?_)
      · refine Ev.iconst (v := 0) dX6_rank_79 (by decide) ?_
        first | exact J3 _ _ _ hx hy (if_pos (Or.inl c67)).symm | exact J3 _ _ _ hx hy (if_neg (fun q => q.elim c67 c72)).symm | exact J3 _ _ _ hx hy (if_pos (Or.inr c72)).symm
      · refine Ev.iconst (v := 1) dX6_rank_75 (by decide) ?_
        refine Ev.goto (tgt := 80) dX6_rank_76 (by decide) ?_
        first | exact J3 _ _ _ hx hy (if_pos (Or.inl c67)).symm | exact J3 _ _ _ hx hy (if_neg (fun q => q.elim c67 c72)).symm | exact J3 _ _ _ hx hy (if_pos (Or.inr c72)).symm
  have J1 : ∀ x : Int32, x = (if X 1 (8 * k + 1) = 0 then 0 else if X 1 (8 * k + 0) = 0 then 999 - X 1 (8 * k + 3) else X 1 (8 * k + 3)) → Ev G mX6_rank 43 [some (.ref (a 0)), some (.int (nI k)), some (.int pt), some (.int (X 1 (8 * k + 1))), none, none, none] [.int x] M 0 0 (fun v M' => ∃ x, v = some (.int x) ∧ x = rkf (X 1) k pt ∧ M' = M) := by
    intro x hx
    refine Ev.ist4 dX6_rank_43 rfl rfl ?_
    refine Ev.ild3 dX6_rank_45 ?_
    refine Ev.iconst (v := 4) dX6_rank_46 (by decide) ?_
    refine Ev.icmp_ne (tgt := 54) dX6_rank_47 (by decide) (fun c47 => ?_) (fun c47 => ?_)
    · refine Ev.ild3 dX6_rank_54 ?_
      refine Ev.if_ne (tgt := 62) dX6_rank_55 (by decide) (fun c55 => ?_) (fun c55 => ?_)
      · refine Ev.iconst (v := 1) dX6_rank_62 (by decide) ?_
        first | exact J2 _ _ hx ((if_neg c47).trans (if_neg c55)).symm | exact J2 _ _ hx ((if_neg c47).trans (if_pos c55)).symm | exact J2 _ _ hx (if_pos c47).symm
      · refine Ev.iconst (v := 0) dX6_rank_58 (by decide) ?_
        refine Ev.goto (tgt := 63) dX6_rank_59 (by decide) ?_
        first | exact J2 _ _ hx ((if_neg c47).trans (if_neg c55)).symm | exact J2 _ _ hx ((if_neg c47).trans (if_pos c55)).symm | exact J2 _ _ hx (if_pos c47).symm
    · refine Ev.iconst (v := 2) dX6_rank_50 (by decide) ?_
      refine Ev.goto (tgt := 63) dX6_rank_51 (by decide) ?_
      first | exact J2 _ _ hx ((if_neg c47).trans (if_neg c55)).symm | exact J2 _ _ hx ((if_neg c47).trans (if_pos c55)).symm | exact J2 _ _ hx (if_pos c47).symm
  refine Ct.of (ls := [some (.ref (a 0)), some (.int (nI k)), some (.int pt), none, none, none, none]) (by decide) (by decide) rfl rfl rfl ?_
  refine Ev.ald0 dX6_rank_0 ?_
  refine Ev.ild1 dX6_rank_1 ?_
  refine Ev.iconst (v := 1) dX6_rank_2 (by decide) ?_
  refine Ev.cvI (Yc := mX6_of) (ci := 6) dX6_rank_3 lX6_201 vX6_of rfl (m_of k 1 rfl rfl h0 h1 (by omega)) ?_ rfl rfl rfl rfl ?_
  · apply Exists.intro; repeat (first | assumption | (refine gt_upI ?_; (repeat (first | refine In_up ?_ | refine In_nw ?_)); apply In_of; assumption) | refine gt_rd (by first | assumption | (apply Ne.symm; assumption) | (exact hj _ _ (by omega) (by omega) (by omega)) | omega) ?_ | exact gt_nw (by assumption) | refine gt_odr (by first | assumption | (apply Ne.symm; assumption) | omega) ?_)
  rintro x M' ⟨hx, rfl⟩
  subst hx
  refine Ev.ist3 dX6_rank_6 rfl rfl ?_
  refine Ev.ild3 dX6_rank_7 ?_
  refine Ev.if_ne (tgt := 15) dX6_rank_8 (by decide) (fun c8 => ?_) (fun c8 => ?_)
  · refine Ev.ald0 dX6_rank_15 ?_
    refine Ev.ild1 dX6_rank_16 ?_
    refine Ev.iconst (v := 0) dX6_rank_17 (by decide) ?_
    refine Ev.cvI (Yc := mX6_of) (ci := 6) dX6_rank_18 lX6_201 vX6_of rfl (m_of k 0 rfl rfl h0 h1 (by omega)) ?_ rfl rfl rfl rfl ?_
    · apply Exists.intro; repeat (first | assumption | (refine gt_upI ?_; (repeat (first | refine In_up ?_ | refine In_nw ?_)); apply In_of; assumption) | refine gt_rd (by first | assumption | (apply Ne.symm; assumption) | (exact hj _ _ (by omega) (by omega) (by omega)) | omega) ?_ | exact gt_nw (by assumption) | refine gt_odr (by first | assumption | (apply Ne.symm; assumption) | omega) ?_)
    rintro x M' ⟨hx, rfl⟩
    subst hx
    refine Ev.if_ne (tgt := 37) dX6_rank_21 (by decide) (fun c21 => ?_) (fun c21 => ?_)
    · refine Ev.ald0 dX6_rank_37 ?_
      refine Ev.ild1 dX6_rank_38 ?_
      refine Ev.iconst (v := 3) dX6_rank_39 (by decide) ?_
      refine Ev.cvI (Yc := mX6_of) (ci := 6) dX6_rank_40 lX6_201 vX6_of rfl (m_of k 3 rfl rfl h0 h1 (by omega)) ?_ rfl rfl rfl rfl ?_
      · apply Exists.intro; repeat (first | assumption | (refine gt_upI ?_; (repeat (first | refine In_up ?_ | refine In_nw ?_)); apply In_of; assumption) | refine gt_rd (by first | assumption | (apply Ne.symm; assumption) | (exact hj _ _ (by omega) (by omega) (by omega)) | omega) ?_ | exact gt_nw (by assumption) | refine gt_odr (by first | assumption | (apply Ne.symm; assumption) | omega) ?_)
      rintro x M' ⟨hx, rfl⟩
      subst hx
      first | exact J1 _ (if_pos c8).symm | exact J1 _ ((if_neg c8).trans (if_neg c21)).symm | exact J1 _ ((if_neg c8).trans (if_pos c21)).symm
    · refine Ev.sipush (v := 999) dX6_rank_24 (by decide) ?_
      refine Ev.ald0 dX6_rank_27 ?_
      refine Ev.ild1 dX6_rank_28 ?_
      refine Ev.iconst (v := 3) dX6_rank_29 (by decide) ?_
      refine Ev.cvI (Yc := mX6_of) (ci := 6) dX6_rank_30 lX6_201 vX6_of rfl (m_of k 3 rfl rfl h0 h1 (by omega)) ?_ rfl rfl rfl rfl ?_
      · apply Exists.intro; repeat (first | assumption | (refine gt_upI ?_; (repeat (first | refine In_up ?_ | refine In_nw ?_)); apply In_of; assumption) | refine gt_rd (by first | assumption | (apply Ne.symm; assumption) | (exact hj _ _ (by omega) (by omega) (by omega)) | omega) ?_ | exact gt_nw (by assumption) | refine gt_odr (by first | assumption | (apply Ne.symm; assumption) | omega) ?_)
      rintro x M' ⟨hx, rfl⟩
      subst hx
      refine Ev.isub dX6_rank_33 ?_
      refine Ev.goto (tgt := 43) dX6_rank_34 (by decide) ?_
      first | exact J1 _ (if_pos c8).symm | exact J1 _ ((if_neg c8).trans (if_neg c21)).symm | exact J1 _ ((if_neg c8).trans (if_pos c21)).symm
  · refine Ev.iconst (v := 0) dX6_rank_11 (by decide) ?_
    refine Ev.goto (tgt := 43) dX6_rank_12 (by decide) ?_
    first | exact J1 _ (if_pos c8).symm | exact J1 _ ((if_neg c8).trans (if_neg c21)).symm | exact J1 _ ((if_neg c8).trans (if_pos c21)).symm
set_option maxRecDepth 20000 in
theorem m_partOf {o pt : Int32} (k : Nat) (ho : o = nI k) (hk : k < 41) (hW : MX a v L X M) : CtI G mX6_partOf [.ref (a 0), .int o, .int pt] M 0 0 (fun x M' => x = ptf (X 1) (X 23) k pt ∧ M' = M) := by
  have h0 := hW.1
  have h1 := hW.g1
  have h23 := hW.g23
  subst ho
  have e := lit_in k 41 hk (by omega)
  have b := e.1
  have e2 := e.2
  refine Ct.of (ls := [some (.ref (a 0)), some (.int (nI k)), some (.int pt), none]) (by decide) (by decide) rfl rfl rfl ?_
  refine Ev.ald0 dX6_partOf_0 ?_
  refine Ev.ild1 dX6_partOf_1 ?_
  refine Ev.iconst (v := 1) dX6_partOf_2 (by decide) ?_
  refine Ev.cvI (Yc := mX6_of) (ci := 6) dX6_partOf_3 lX6_201 vX6_of rfl (m_of k 1 rfl rfl h0 h1 (by omega)) ?_ rfl rfl rfl rfl ?_
  · apply Exists.intro; repeat (first | assumption | (refine gt_upI ?_; (repeat (first | refine In_up ?_ | refine In_nw ?_)); apply In_of; assumption) | refine gt_rd (by first | assumption | (apply Ne.symm; assumption) | (exact hj _ _ (by omega) (by omega) (by omega)) | omega) ?_ | exact gt_nw (by assumption) | refine gt_odr (by first | assumption | (apply Ne.symm; assumption) | omega) ?_)
  rintro x M' ⟨hx, rfl⟩
  subst hx
  refine Ev.iconst (v := 3) dX6_partOf_6 (by decide) ?_
  refine Ev.icmp_eq (tgt := 25) dX6_partOf_7 (by decide) (fun c7 => ?_) (fun c7 => ?_)
  · refine Ev.ald0 dX6_partOf_25 ?_
    refine Ev.ild1 dX6_partOf_26 ?_
    refine Ev.iconst (v := 4) dX6_partOf_27 (by decide) ?_
    refine Ev.cvI (Yc := mX6_of) (ci := 6) dX6_partOf_28 lX6_201 vX6_of rfl (m_of k 4 rfl rfl h0 h1 (by omega)) ?_ rfl rfl rfl rfl ?_
    · apply Exists.intro; repeat (first | assumption | (refine gt_upI ?_; (repeat (first | refine In_up ?_ | refine In_nw ?_)); apply In_of; assumption) | refine gt_rd (by first | assumption | (apply Ne.symm; assumption) | (exact hj _ _ (by omega) (by omega) (by omega)) | omega) ?_ | exact gt_nw (by assumption) | refine gt_odr (by first | assumption | (apply Ne.symm; assumption) | omega) ?_)
    rintro x M' ⟨hx, rfl⟩
    subst hx
    refine Ev.ald0 dX6_partOf_31 ?_
    apply Ev.getf dX6_partOf_32 fX6_34
    · repeat (first | assumption | (refine gt_upI ?_; (repeat (first | refine In_up ?_ | refine In_nw ?_)); apply In_of; assumption) | refine gt_rd (by first | assumption | (apply Ne.symm; assumption) | (exact hj _ _ (by omega) (by omega) (by omega)) | omega) ?_ | exact gt_nw (by assumption) | refine gt_odr (by first | assumption | (apply Ne.symm; assumption) | omega) ?_)
    · first | rfl | assumption
    refine Ev.ild1 dX6_partOf_35 ?_
    apply Ev.iald dX6_partOf_36
    · repeat (first | assumption | (refine gt_upI ?_; (repeat (first | refine In_up ?_ | refine In_nw ?_)); apply In_of; assumption) | refine gt_rd (by first | assumption | (apply Ne.symm; assumption) | (exact hj _ _ (by omega) (by omega) (by omega)) | omega) ?_ | exact gt_nw (by assumption) | refine gt_odr (by first | assumption | (apply Ne.symm; assumption) | omega) ?_)
    · assumption
    rw [e2]
    refine Ev.csI (Yc := mX6_lesser) dX6_partOf_37 lX6_211 vX6_lesser rfl m_lesser rfl rfl rfl ?_
    rintro y M' ⟨hy, rfl⟩
    subst hy
    refine Ev.ist3 dX6_partOf_40 rfl rfl ?_
    refine Ev.ild2 dX6_partOf_41 ?_
    refine Ev.if_ne (tgt := 49) dX6_partOf_42 (by decide) (fun c42 => ?_) (fun c42 => ?_)
    · refine Ev.ald0 dX6_partOf_49 ?_
      apply Ev.getf dX6_partOf_50 fX6_34
      · repeat (first | assumption | (refine gt_upI ?_; (repeat (first | refine In_up ?_ | refine In_nw ?_)); apply In_of; assumption) | refine gt_rd (by first | assumption | (apply Ne.symm; assumption) | (exact hj _ _ (by omega) (by omega) (by omega)) | omega) ?_ | exact gt_nw (by assumption) | refine gt_odr (by first | assumption | (apply Ne.symm; assumption) | omega) ?_)
      · first | rfl | assumption
      refine Ev.ild1 dX6_partOf_53 ?_
      apply Ev.iald dX6_partOf_54
      · repeat (first | assumption | (refine gt_upI ?_; (repeat (first | refine In_up ?_ | refine In_nw ?_)); apply In_of; assumption) | refine gt_rd (by first | assumption | (apply Ne.symm; assumption) | (exact hj _ _ (by omega) (by omega) (by omega)) | omega) ?_ | exact gt_nw (by assumption) | refine gt_odr (by first | assumption | (apply Ne.symm; assumption) | omega) ?_)
      · assumption
      rw [e2]
      refine Ev.ild3 dX6_partOf_55 ?_
      refine Ev.isub dX6_partOf_56 ?_
      refine Ev.iret dX6_partOf_57 rfl rfl ?_
      first | exact ⟨_, rfl, ((if_pos c7).trans (if_neg c42)).symm, rfl⟩ | exact ⟨_, rfl, ((if_pos c7).trans (if_pos c42)).symm, rfl⟩ | exact ⟨_, rfl, ((if_neg c7).trans (if_neg c11)).symm, rfl⟩ | exact ⟨_, rfl, ((if_neg c7).trans (if_pos c11)).symm, rfl⟩
    · refine Ev.ild3 dX6_partOf_45 ?_
      refine Ev.goto (tgt := 57) dX6_partOf_46 (by decide) ?_
      refine Ev.iret dX6_partOf_57 rfl rfl ?_
      first | exact ⟨_, rfl, ((if_pos c7).trans (if_neg c42)).symm, rfl⟩ | exact ⟨_, rfl, ((if_pos c7).trans (if_pos c42)).symm, rfl⟩ | exact ⟨_, rfl, ((if_neg c7).trans (if_neg c11)).symm, rfl⟩ | exact ⟨_, rfl, ((if_neg c7).trans (if_pos c11)).symm, rfl⟩
  · refine Ev.ild2 dX6_partOf_10 ?_
    refine Ev.if_ne (tgt := 23) dX6_partOf_11 (by decide) (fun c11 => ?_) (fun c11 => ?_)
    · refine Ev.iconst (v := 0) dX6_partOf_23 (by decide) ?_
      refine Ev.iret dX6_partOf_24 rfl rfl ?_
      first | exact ⟨_, rfl, ((if_pos c7).trans (if_neg c42)).symm, rfl⟩ | exact ⟨_, rfl, ((if_pos c7).trans (if_pos c42)).symm, rfl⟩ | exact ⟨_, rfl, ((if_neg c7).trans (if_neg c11)).symm, rfl⟩ | exact ⟨_, rfl, ((if_neg c7).trans (if_pos c11)).symm, rfl⟩
    · refine Ev.ald0 dX6_partOf_14 ?_
      apply Ev.getf dX6_partOf_15 fX6_34
      · repeat (first | assumption | (refine gt_upI ?_; (repeat (first | refine In_up ?_ | refine In_nw ?_)); apply In_of; assumption) | refine gt_rd (by first | assumption | (apply Ne.symm; assumption) | (exact hj _ _ (by omega) (by omega) (by omega)) | omega) ?_ | exact gt_nw (by assumption) | refine gt_odr (by first | assumption | (apply Ne.symm; assumption) | omega) ?_)
      · first | rfl | assumption
      refine Ev.ild1 dX6_partOf_18 ?_
      apply Ev.iald dX6_partOf_19
      · repeat (first | assumption | (refine gt_upI ?_; (repeat (first | refine In_up ?_ | refine In_nw ?_)); apply In_of; assumption) | refine gt_rd (by first | assumption | (apply Ne.symm; assumption) | (exact hj _ _ (by omega) (by omega) (by omega)) | omega) ?_ | exact gt_nw (by assumption) | refine gt_odr (by first | assumption | (apply Ne.symm; assumption) | omega) ?_)
      · assumption
      rw [e2]
      refine Ev.goto (tgt := 24) dX6_partOf_20 (by decide) ?_
      refine Ev.iret dX6_partOf_24 rfl rfl ?_
      first | exact ⟨_, rfl, ((if_pos c7).trans (if_neg c42)).symm, rfl⟩ | exact ⟨_, rfl, ((if_pos c7).trans (if_pos c42)).symm, rfl⟩ | exact ⟨_, rfl, ((if_neg c7).trans (if_neg c11)).symm, rfl⟩ | exact ⟨_, rfl, ((if_neg c7).trans (if_pos c11)).symm, rfl⟩
set_option maxRecDepth 20000 in
theorem m_countsAll (hj : InjM a) (hW : MX a v L X M) (hF : Fr (mdl a) M0 M) (hn : X 1 328 = nI n) (hn2 : n ≤ 41) : CtV G mX6_countsAll [.ref (a 0)] M 0 0 (fun M' => MX a v L (ux (ux X 22 (cav (X 1) (X 22) n)) 23 (cmy (X 1) (X 23) n)) M' ∧ Fr (mdl a) M0 M') := by
  have e8 := lit_in 328 1189 (by omega) (by omega)
  have b8 : vp_in (328 : Int32) 1189 := e8.1
  have z8 : (328 : Int32).toNatClampNeg = 328 := e8.2
  have LL : ∀ d k M1, k + d = n → MX a v L (ux (ux X 22 (cav (X 1) (X 22) k)) 23 (cmy (X 1) (X 23) k)) M1 → Fr (mdl a) M0 M1 → Ev G mX6_countsAll 2 [some (.ref (a 0)), some (.int (nI k))] [] M1 0 0 (fun u M' => u = none ∧ MX a v L (ux (ux X 22 (cav (X 1) (X 22) n)) 23 (cmy (X 1) (X 23) n)) M' ∧ Fr (mdl a) M0 M') := by
    intro d
    induction d with
    | zero =>
      intro k M1 hk hW hF
      have h0 := hW.1
      have h1 : gt M1 (a 1) = some (ia 0 1189 (X 1)) := hW.g1
      refine Ev.ild1 dX6_countsAll_2 ?_
      refine Ev.ald0 dX6_countsAll_3 ?_
      apply Ev.getf dX6_countsAll_4 fX6_13
      · repeat (first | assumption | (refine gt_upI ?_; (repeat (first | refine In_up ?_ | refine In_nw ?_)); apply In_of; assumption) | refine gt_rd (by first | assumption | (apply Ne.symm; assumption) | (exact hj _ _ (by omega) (by omega) (by omega)) | omega) ?_ | exact gt_nw (by assumption) | refine gt_odr (by first | assumption | (apply Ne.symm; assumption) | omega) ?_)
      · first | rfl | assumption
      refine Ev.sipush (v := 328) dX6_countsAll_7 (by decide) ?_
      apply Ev.iald dX6_countsAll_10
      · repeat (first | assumption | (refine gt_upI ?_; (repeat (first | refine In_up ?_ | refine In_nw ?_)); apply In_of; assumption) | refine gt_rd (by first | assumption | (apply Ne.symm; assumption) | (exact hj _ _ (by omega) (by omega) (by omega)) | omega) ?_ | exact gt_nw (by assumption) | refine gt_odr (by first | assumption | (apply Ne.symm; assumption) | omega) ?_)
      · assumption
      rw [z8, hn]
      refine Ev.icmp_ge (tgt := 51) dX6_countsAll_11 (by decide) (fun c9 => ?_) (fun c9 => absurd (nI_le (by omega) (by omega)) c9)
      refine Ev.vret dX6_countsAll_51 rfl ?_
      exact ⟨rfl, by rw [show n = k by omega]; exact hW, hF⟩
    | succ d ih =>
      intro k M1 hk hW hF
      have h0 := hW.1
      have h1 : gt M1 (a 1) = some (ia 0 1189 (X 1)) := hW.g1
      have h22 : gt M1 (a 22) = some (ia 2 41 (cav (X 1) (X 22) k)) := hW.g22
      have h23 : gt M1 (a 23) = some (ia 0 41 (cmy (X 1) (X 23) k)) := hW.g23
      have e := lit_in k 41 (by omega) (by omega)
      have bk := e.1
      have ek := e.2
      refine Ev.ild1 dX6_countsAll_2 ?_
      refine Ev.ald0 dX6_countsAll_3 ?_
      apply Ev.getf dX6_countsAll_4 fX6_13
      · repeat (first | assumption | (refine gt_upI ?_; (repeat (first | refine In_up ?_ | refine In_nw ?_)); apply In_of; assumption) | refine gt_rd (by first | assumption | (apply Ne.symm; assumption) | (exact hj _ _ (by omega) (by omega) (by omega)) | omega) ?_ | exact gt_nw (by assumption) | refine gt_odr (by first | assumption | (apply Ne.symm; assumption) | omega) ?_)
      · first | rfl | assumption
      refine Ev.sipush (v := 328) dX6_countsAll_7 (by decide) ?_
      apply Ev.iald dX6_countsAll_10
      · repeat (first | assumption | (refine gt_upI ?_; (repeat (first | refine In_up ?_ | refine In_nw ?_)); apply In_of; assumption) | refine gt_rd (by first | assumption | (apply Ne.symm; assumption) | (exact hj _ _ (by omega) (by omega) (by omega)) | omega) ?_ | exact gt_nw (by assumption) | refine gt_odr (by first | assumption | (apply Ne.symm; assumption) | omega) ?_)
      · assumption
      rw [z8, hn]
      refine Ev.icmp_ge (tgt := 51) dX6_countsAll_11 (by decide) (fun c9 => absurd c9 (nI_ge (by omega) (by omega))) (fun c9 => ?_)
      have J : ∀ x : Int32, x = (if X 1 (8 * k + 7) = 1 then 0 else 1) → Ev G mX6_countsAll 32 [some (.ref (a 0)), some (.int (nI k))] [.int x, .int (nI k), .ref (a 22)] M1 0 0 (fun u M' => u = none ∧ MX a v L (ux (ux X 22 (cav (X 1) (X 22) n)) 23 (cmy (X 1) (X 23) n)) M' ∧ Fr (mdl a) M0 M') := by
        intro x hx
        have hb : vp_nar .boolean x = x := by rw [hx]; split <;> rfl
        apply Ev.zast dX6_countsAll_32 h22 bk
        rw [hb, ek]
        have hW2 := hW.s22 hj (f := upd (cav (X 1) (X 22) k) k x)
        have hF2 : Fr (mdl a) M0 (up M1 (a 22) (ia 2 41 (upd (cav (X 1) (X 22) k) k x))) := hF.pt (by simp [mdl])
        generalize up M1 (a 22) (ia 2 41 (upd (cav (X 1) (X 22) k) k x)) = M2 at hW2 hF2
        have g0 := hW2.1
        have g1 : gt M2 (a 1) = some (ia 0 1189 (X 1)) := hW2.g1
        have g23 : gt M2 (a 23) = some (ia 0 41 (cmy (X 1) (X 23) k)) := hW2.g23
        refine Ev.ald0 dX6_countsAll_33 ?_
        apply Ev.getf dX6_countsAll_34 fX6_34
        · repeat (first | assumption | (refine gt_upI ?_; (repeat (first | refine In_up ?_ | refine In_nw ?_)); apply In_of; assumption) | refine gt_rd (by first | assumption | (apply Ne.symm; assumption) | (exact hj _ _ (by omega) (by omega) (by omega)) | omega) ?_ | exact gt_nw (by assumption) | refine gt_odr (by first | assumption | (apply Ne.symm; assumption) | omega) ?_)
        · first | rfl | assumption
        refine Ev.ild1 dX6_countsAll_37 ?_
        refine Ev.ald0 dX6_countsAll_38 ?_
        refine Ev.ild1 dX6_countsAll_39 ?_
        refine Ev.iconst (v := 2) dX6_countsAll_40 (by decide) ?_
        refine Ev.cvI (Yc := mX6_of) (ci := 6) dX6_countsAll_41 lX6_201 vX6_of rfl (m_of k 2 rfl rfl g0 g1 (by omega)) ?_ rfl rfl rfl rfl ?_
        · apply Exists.intro; repeat (first | assumption | (refine gt_upI ?_; (repeat (first | refine In_up ?_ | refine In_nw ?_)); apply In_of; assumption) | refine gt_rd (by first | assumption | (apply Ne.symm; assumption) | (exact hj _ _ (by omega) (by omega) (by omega)) | omega) ?_ | exact gt_nw (by assumption) | refine gt_odr (by first | assumption | (apply Ne.symm; assumption) | omega) ?_)
        rintro y M' ⟨hy, rfl⟩
        subst hy
        apply Ev.iast dX6_countsAll_44 g23 bk
        rw [ek]
        have hW3 := hW2.s23 hj (f := upd (cmy (X 1) (X 23) k) k (X 1 (8 * k + 2)))
        have hF3 : Fr (mdl a) M0 (up M' (a 23) (ia 0 41 (upd (cmy (X 1) (X 23) k) k (X 1 (8 * k + 2))))) := hF2.pt (by simp [mdl])
        apply Ev.iinc1 dX6_countsAll_45 rfl rfl
        · first | exact nI_inc _ | rfl
        refine Ev.goto (tgt := 2) dX6_countsAll_48 (by decide) ?_
        refine ih (k + 1) _ (by omega) ?_ hF3
        have eX : ux (ux (ux (ux X 22 (cav (X 1) (X 22) k)) 23 (cmy (X 1) (X 23) k)) 22 (upd (cav (X 1) (X 22) k) k x)) 23 (upd (cmy (X 1) (X 23) k) k (X 1 (8 * k + 2))) = ux (ux X 22 (cav (X 1) (X 22) (k + 1))) 23 (cmy (X 1) (X 23) (k + 1)) := by
          rw [cav, cmy, ← hx]
          funext j
          by_cases h1 : j = 23
          · rw [h1, ux_s, ux_s]
          · rw [ux_n h1, ux_n h1]
            by_cases h2 : j = 22
            · rw [h2, ux_s, ux_s]
            · rw [ux_n h2, ux_n h2, ux_n h1, ux_n h2]
        rw [← eX]
        exact hW3
      refine Ev.ald0 dX6_countsAll_14 ?_
      apply Ev.getf dX6_countsAll_15 fX6_30
      · repeat (first | assumption | (refine gt_upI ?_; (repeat (first | refine In_up ?_ | refine In_nw ?_)); apply In_of; assumption) | refine gt_rd (by first | assumption | (apply Ne.symm; assumption) | (exact hj _ _ (by omega) (by omega) (by omega)) | omega) ?_ | exact gt_nw (by assumption) | refine gt_odr (by first | assumption | (apply Ne.symm; assumption) | omega) ?_)
      · first | rfl | assumption
      refine Ev.ild1 dX6_countsAll_18 ?_
      refine Ev.ald0 dX6_countsAll_19 ?_
      refine Ev.ild1 dX6_countsAll_20 ?_
      refine Ev.cvI (Yc := mX6_isGone) (ci := 6) dX6_countsAll_21 lX6_205 vX6_isGone rfl (m_isGone k rfl h0 h1 (by omega)) ?_ rfl rfl rfl rfl ?_
      · apply Exists.intro; repeat (first | assumption | (refine gt_upI ?_; (repeat (first | refine In_up ?_ | refine In_nw ?_)); apply In_of; assumption) | refine gt_rd (by first | assumption | (apply Ne.symm; assumption) | (exact hj _ _ (by omega) (by omega) (by omega)) | omega) ?_ | exact gt_nw (by assumption) | refine gt_odr (by first | assumption | (apply Ne.symm; assumption) | omega) ?_)
      rintro y M' ⟨hy, rfl⟩
      refine Ev.if_ne (tgt := 31) dX6_countsAll_24 (by decide) (fun c24 => ?_) (fun c24 => ?_)
      · refine Ev.iconst (v := 0) dX6_countsAll_31 (by decide) ?_
        first | exact J 0 (if_pos (v01_t hy c24)).symm | exact J 1 (if_neg (v01_f hy c24)).symm
      · refine Ev.iconst (v := 1) dX6_countsAll_27 (by decide) ?_
        refine Ev.goto (tgt := 32) dX6_countsAll_28 (by decide) ?_
        first | exact J 0 (if_pos (v01_t hy c24)).symm | exact J 1 (if_neg (v01_f hy c24)).symm
  refine Ct.of (ls := [some (.ref (a 0)), none]) (by decide) (by decide) rfl rfl rfl ?_
  refine Ev.iconst (v := 0) dX6_countsAll_0 (by decide) ?_
  refine Ev.ist1 dX6_countsAll_1 rfl rfl ?_
  refine LL n 0 _ (by omega) ?_ hF
  have eX : ux (ux X 22 (cav (X 1) (X 22) 0)) 23 (cmy (X 1) (X 23) 0) = X := by
    funext j
    by_cases h1 : j = 23
    · rw [h1, ux_s]; rfl
    · rw [ux_n h1]
      by_cases h2 : j = 22
      · rw [h2, ux_s]; rfl
      · rw [ux_n h2]
  rw [eX]
  exact hW
set_option maxRecDepth 20000 in
theorem m_unhappy (hW : MX a v L X M) (hn : X 1 328 = nI n) (hn2 : n ≤ 41) : CtI G mX6_unhappy [.ref (a 0)] M 0 0 (fun x M' => x = unh (X 1) (X 22) (X 34) n ∧ M' = M) := by
  have e8 := lit_in 328 1189 (by omega) (by omega)
  have b8 : vp_in (328 : Int32) 1189 := e8.1
  have z8 : (328 : Int32).toNatClampNeg = 328 := e8.2
  have h0 := hW.1
  have h1 := hW.g1
  have h22 := hW.g22
  have h34 := hW.g34
  have LL : ∀ d k, k + d = n → Ev G mX6_unhappy 4 [some (.ref (a 0)), some (.int (unh (X 1) (X 22) (X 34) k)), some (.int (nI k))] [] M 0 0 (fun u M' => ∃ x, u = some (.int x) ∧ x = unh (X 1) (X 22) (X 34) n ∧ M' = M) := by
    intro d
    induction d with
    | zero =>
      intro k hk
      refine Ev.ild2 dX6_unhappy_4 ?_
      refine Ev.ald0 dX6_unhappy_5 ?_
      apply Ev.getf dX6_unhappy_6 fX6_13
      · repeat (first | assumption | (refine gt_upI ?_; (repeat (first | refine In_up ?_ | refine In_nw ?_)); apply In_of; assumption) | refine gt_rd (by first | assumption | (apply Ne.symm; assumption) | (exact hj _ _ (by omega) (by omega) (by omega)) | omega) ?_ | exact gt_nw (by assumption) | refine gt_odr (by first | assumption | (apply Ne.symm; assumption) | omega) ?_)
      · first | rfl | assumption
      refine Ev.sipush (v := 328) dX6_unhappy_9 (by decide) ?_
      apply Ev.iald dX6_unhappy_12
      · repeat (first | assumption | (refine gt_upI ?_; (repeat (first | refine In_up ?_ | refine In_nw ?_)); apply In_of; assumption) | refine gt_rd (by first | assumption | (apply Ne.symm; assumption) | (exact hj _ _ (by omega) (by omega) (by omega)) | omega) ?_ | exact gt_nw (by assumption) | refine gt_odr (by first | assumption | (apply Ne.symm; assumption) | omega) ?_)
      · assumption
      rw [z8, hn]
      refine Ev.icmp_ge (tgt := 61) dX6_unhappy_13 (by decide) (fun c9 => ?_) (fun c9 => absurd (nI_le (by omega) (by omega)) c9)
      refine Ev.ild1 dX6_unhappy_61 ?_
      refine Ev.iret dX6_unhappy_62 rfl rfl ?_
      exact ⟨_, rfl, by rw [show n = k by omega], rfl⟩
    | succ d ih =>
      intro k hk
      have e := lit_in k 41 (by omega) (by omega)
      have bk := e.1
      have ek := e.2
      refine Ev.ild2 dX6_unhappy_4 ?_
      refine Ev.ald0 dX6_unhappy_5 ?_
      apply Ev.getf dX6_unhappy_6 fX6_13
      · repeat (first | assumption | (refine gt_upI ?_; (repeat (first | refine In_up ?_ | refine In_nw ?_)); apply In_of; assumption) | refine gt_rd (by first | assumption | (apply Ne.symm; assumption) | (exact hj _ _ (by omega) (by omega) (by omega)) | omega) ?_ | exact gt_nw (by assumption) | refine gt_odr (by first | assumption | (apply Ne.symm; assumption) | omega) ?_)
      · first | rfl | assumption
      refine Ev.sipush (v := 328) dX6_unhappy_9 (by decide) ?_
      apply Ev.iald dX6_unhappy_12
      · repeat (first | assumption | (refine gt_upI ?_; (repeat (first | refine In_up ?_ | refine In_nw ?_)); apply In_of; assumption) | refine gt_rd (by first | assumption | (apply Ne.symm; assumption) | (exact hj _ _ (by omega) (by omega) (by omega)) | omega) ?_ | exact gt_nw (by assumption) | refine gt_odr (by first | assumption | (apply Ne.symm; assumption) | omega) ?_)
      · assumption
      rw [z8, hn]
      refine Ev.icmp_ge (tgt := 61) dX6_unhappy_13 (by decide) (fun c9 => absurd c9 (nI_ge (by omega) (by omega))) (fun c9 => ?_)
      refine Ev.ald0 dX6_unhappy_16 ?_
      apply Ev.getf dX6_unhappy_17 fX6_30
      · repeat (first | assumption | (refine gt_upI ?_; (repeat (first | refine In_up ?_ | refine In_nw ?_)); apply In_of; assumption) | refine gt_rd (by first | assumption | (apply Ne.symm; assumption) | (exact hj _ _ (by omega) (by omega) (by omega)) | omega) ?_ | exact gt_nw (by assumption) | refine gt_odr (by first | assumption | (apply Ne.symm; assumption) | omega) ?_)
      · first | rfl | assumption
      refine Ev.ild2 dX6_unhappy_20 ?_
      apply Ev.zald dX6_unhappy_21
      · repeat (first | assumption | (refine gt_upI ?_; (repeat (first | refine In_up ?_ | refine In_nw ?_)); apply In_of; assumption) | refine gt_rd (by first | assumption | (apply Ne.symm; assumption) | (exact hj _ _ (by omega) (by omega) (by omega)) | omega) ?_ | exact gt_nw (by assumption) | refine gt_odr (by first | assumption | (apply Ne.symm; assumption) | omega) ?_)
      · assumption
      rw [ek]
      refine Ev.if_eq (tgt := 53) dX6_unhappy_22 (by decide) (fun c22 => ?_) (fun c22 => ?_)
      · refine Ev.ild1 dX6_unhappy_53 ?_
        refine Ev.ist1 dX6_unhappy_54 rfl rfl ?_
        apply Ev.iinc2 dX6_unhappy_55 rfl rfl
        · first | exact nI_inc _ | rfl
        refine Ev.goto (tgt := 4) dX6_unhappy_58 (by decide) ?_
        exact Ev.cg (congrArg (fun z : Int32 => [some (Value.ref (a 0)), some (Value.int z), some (Value.int (nI (k + 1)))]) (unh_f (fun q => q.1 c22))) (ih (k + 1) (by omega))
      · refine Ev.ald0 dX6_unhappy_25 ?_
        apply Ev.getf dX6_unhappy_26 fX6_55
        · repeat (first | assumption | (refine gt_upI ?_; (repeat (first | refine In_up ?_ | refine In_nw ?_)); apply In_of; assumption) | refine gt_rd (by first | assumption | (apply Ne.symm; assumption) | (exact hj _ _ (by omega) (by omega) (by omega)) | omega) ?_ | exact gt_nw (by assumption) | refine gt_odr (by first | assumption | (apply Ne.symm; assumption) | omega) ?_)
        · first | rfl | assumption
        refine Ev.ild2 dX6_unhappy_29 ?_
        apply Ev.iald dX6_unhappy_30
        · repeat (first | assumption | (refine gt_upI ?_; (repeat (first | refine In_up ?_ | refine In_nw ?_)); apply In_of; assumption) | refine gt_rd (by first | assumption | (apply Ne.symm; assumption) | (exact hj _ _ (by omega) (by omega) (by omega)) | omega) ?_ | exact gt_nw (by assumption) | refine gt_odr (by first | assumption | (apply Ne.symm; assumption) | omega) ?_)
        · assumption
        rw [ek]
        refine Ev.if_le (tgt := 53) dX6_unhappy_31 (by decide) (fun c31 => ?_) (fun c31 => ?_)
        · refine Ev.ild1 dX6_unhappy_53 ?_
          refine Ev.ist1 dX6_unhappy_54 rfl rfl ?_
          apply Ev.iinc2 dX6_unhappy_55 rfl rfl
          · first | exact nI_inc _ | rfl
          refine Ev.goto (tgt := 4) dX6_unhappy_58 (by decide) ?_
          exact Ev.cg (congrArg (fun z : Int32 => [some (Value.ref (a 0)), some (Value.int z), some (Value.int (nI (k + 1)))]) (unh_f (fun q => absurd q.2.1 (Int32.not_lt.mpr c31)))) (ih (k + 1) (by omega))
        · refine Ev.ald0 dX6_unhappy_34 ?_
          apply Ev.getf dX6_unhappy_35 fX6_55
          · repeat (first | assumption | (refine gt_upI ?_; (repeat (first | refine In_up ?_ | refine In_nw ?_)); apply In_of; assumption) | refine gt_rd (by first | assumption | (apply Ne.symm; assumption) | (exact hj _ _ (by omega) (by omega) (by omega)) | omega) ?_ | exact gt_nw (by assumption) | refine gt_odr (by first | assumption | (apply Ne.symm; assumption) | omega) ?_)
          · first | rfl | assumption
          refine Ev.ild2 dX6_unhappy_38 ?_
          apply Ev.iald dX6_unhappy_39
          · repeat (first | assumption | (refine gt_upI ?_; (repeat (first | refine In_up ?_ | refine In_nw ?_)); apply In_of; assumption) | refine gt_rd (by first | assumption | (apply Ne.symm; assumption) | (exact hj _ _ (by omega) (by omega) (by omega)) | omega) ?_ | exact gt_nw (by assumption) | refine gt_odr (by first | assumption | (apply Ne.symm; assumption) | omega) ?_)
          · assumption
          rw [ek]
          refine Ev.ald0 dX6_unhappy_40 ?_
          refine Ev.ild2 dX6_unhappy_41 ?_
          refine Ev.iconst (v := 5) dX6_unhappy_42 (by decide) ?_
          refine Ev.cvI (Yc := mX6_of) (ci := 6) dX6_unhappy_43 lX6_201 vX6_of rfl (m_of k 5 rfl rfl h0 h1 (by omega)) ?_ rfl rfl rfl rfl ?_
          · apply Exists.intro; repeat (first | assumption | (refine gt_upI ?_; (repeat (first | refine In_up ?_ | refine In_nw ?_)); apply In_of; assumption) | refine gt_rd (by first | assumption | (apply Ne.symm; assumption) | (exact hj _ _ (by omega) (by omega) (by omega)) | omega) ?_ | exact gt_nw (by assumption) | refine gt_odr (by first | assumption | (apply Ne.symm; assumption) | omega) ?_)
          rintro y M' ⟨hy, rfl⟩
          subst hy
          refine Ev.icmp_ge (tgt := 53) dX6_unhappy_46 (by decide) (fun c46 => ?_) (fun c46 => ?_)
          · refine Ev.ild1 dX6_unhappy_53 ?_
            refine Ev.ist1 dX6_unhappy_54 rfl rfl ?_
            apply Ev.iinc2 dX6_unhappy_55 rfl rfl
            · first | exact nI_inc _ | rfl
            refine Ev.goto (tgt := 4) dX6_unhappy_58 (by decide) ?_
            exact Ev.cg (congrArg (fun z : Int32 => [some (Value.ref (a 0)), some (Value.int z), some (Value.int (nI (k + 1)))]) (unh_f (fun q => absurd q.2.2 (Int32.not_lt.mpr c46)))) (ih (k + 1) (by omega))
          · refine Ev.ild2 dX6_unhappy_49 ?_
            refine Ev.goto (tgt := 54) dX6_unhappy_50 (by decide) ?_
            refine Ev.ist1 dX6_unhappy_54 rfl rfl ?_
            apply Ev.iinc2 dX6_unhappy_55 rfl rfl
            · first | exact nI_inc _ | rfl
            refine Ev.goto (tgt := 4) dX6_unhappy_58 (by decide) ?_
            exact Ev.cg (congrArg (fun z : Int32 => [some (Value.ref (a 0)), some (Value.int z), some (Value.int (nI (k + 1)))]) (unh_t ⟨c22, Int32.not_le.mp c31, Int32.not_le.mp c46⟩)) (ih (k + 1) (by omega))
  refine Ct.of (ls := [some (.ref (a 0)), none, none]) (by decide) (by decide) rfl rfl rfl ?_
  refine Ev.iconst (v := -1) dX6_unhappy_0 (by decide) ?_
  refine Ev.ist1 dX6_unhappy_1 rfl rfl ?_
  refine Ev.iconst (v := 0) dX6_unhappy_2 (by decide) ?_
  refine Ev.ist2 dX6_unhappy_3 rfl rfl ?_
  exact LL n 0 (by omega)
end MOB
