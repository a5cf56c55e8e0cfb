/-! the class reads an order -/
def hrv (s : Ps) : Int32 := if 0 < s.2.2.2.1 then 1 else 0
def hcv (s : Ps) : Int32 := if 0 < s.2.2.2.2.1 then 1 else 0
def rfv (s : Ps) : Int32 := if 0 < s.2.2.2.1 then nI s.2.2.2.1 else 100
def lov (s : Ps) : Int32 := if 0 < s.2.2.2.2.1 then nI s.2.2.2.2.1 else 1
def hiv (s : Ps) : Int32 := if 0 < s.2.2.2.2.1 then nI s.2.2.2.2.2 else 999
/-- all is well: the token at p, the book as s tells -/
def OnP (a b h r w n : Nat) (c : Nat → Nat) (M X : Wd) (s : Ps) (p : Nat) (v : Int32) : Prop := Fr [a, h, r] M X ∧ p ≤ n ∧ Vp c n p v ∧ gt X a = some (tk b c n p v 0 (hrv s) (hcv s)) ∧ s.2.2.1 ≤ 40 ∧ ∃ f2 : Nat → Int32, gt X h = some (bk r w s.2.2.1 0 (rfv s) (lov s) (hiv s)) ∧ gt X r = some (ia 0 328 f2) ∧ Ar s.2.2.1 f2 s.2.1
/-- a fault was met -/
def BdP (a b h r w n : Nat) (c : Nat → Nat) (M X : Wd) (F : Nat) : Prop := F ≠ 0 ∧ F < 100000 ∧ Fr [a, h, r] M X ∧ ∃ (p : Nat) (v hr hc : Int32), p ≤ n ∧ gt X a = some (tk b c n p v F hr hc) ∧ ∃ (N : Nat) (ph rf lo hi : Int32) (f2 : Nat → Int32), gt X h = some (bk r w N ph rf lo hi) ∧ gt X r = some (ia 0 328 f2)
def Rsl (a b h r w n : Nat) (c : Nat → Nat) (M : Wd) (q : Nat ⊕ Ps) (X : Wd) : Prop := match q with
  | .inl F => BdP a b h r w n c M X F
  | .inr s => ∃ v, OnP a b h r w n c M X s s.1 v
/-- cells are apart, the tape is what it is -/
def HCt (a b h r n : Nat) (c : Nat → Nat) (t : Nat → Int32) (M : Wd) : Prop := (a ≠ b ∧ h ≠ a ∧ r ≠ a ∧ h ≠ r ∧ b ≠ h ∧ b ≠ r) ∧ n ≤ 800 ∧ gt M b = some (ia 1 800 t) ∧ Bt t n c
theorem nmb_fW {c : Nat → Nat} {n p lo hi : Nat} {v : Int32} (hv : Vp c n p v) (hn : n ≤ 800) (hp : p ≤ n) (hlo : lo ≤ 9999) (hhi : hi ≤ 9999) : (∃ w, nmb c n p lo hi = .inr (w, tkE c n p) ∧ fW c n p 0 v (nI lo) (nI hi) = 0 ∧ v = nI w ∧ xtE c n p = tkE c n p ∧ lo ≤ w ∧ w ≤ hi) ∨ ∃ g, nmb c n p lo hi = .inl g ∧ fW c n p 0 v (nI lo) (nI hi) = g ∧ g ≠ 0 ∧ g < 100000 := by
  have hA1 := tkA_le (c := c) hp
  rw [nmb, fW, if_pos rfl]
  by_cases t2 : tkT c n p = 2
  · have hV := tkV_lt t2
    have hv2 := hv t2
    rw [if_pos t2, if_pos t2]
    have e : (nI lo ≤ v ∧ v ≤ nI hi) ↔ (lo ≤ tkV c n p ∧ tkV c n p ≤ hi) := by rw [hv2, nI_leI (by omega) (by omega), nI_leI (by omega) (by omega)]
    by_cases k : lo ≤ tkV c n p ∧ tkV c n p ≤ hi
    · rw [if_pos k, if_pos (e.mpr k)]
      exact Or.inl ⟨tkV c n p, rfl, rfl, hv2, xtE_E (by omega), k.1, k.2⟩
    · rw [if_neg k, if_neg (fun z => k (e.mp z))]
      exact Or.inr ⟨_, rfl, rfl, by omega, by omega⟩
  · rw [if_neg t2, if_neg t2]
    exact Or.inr ⟨_, rfl, rfl, by omega, by omega⟩
section ROD
variable {G : GP} {M X : Wd} {a b h r w n F p : Nat} {c : Nat → Nat} {t : Nat → Int32} {s : Ps} {v : Int32}
theorem HCt.gb (H : HCt a b h r n c t M) (hF : Fr [a, h, r] M X) : gt X b = some (ia 1 800 t) := by
  obtain ⟨⟨e1, e2, e3, e4, e5, e6⟩, -, h1, -⟩ := H
  exact hF.rd (by simp [e5, e6, Ne.symm e1]) h1
theorem HCt.nh (H : HCt a b h r n c t M) : h ≠ a := H.1.2.1
theorem HCt.nr (H : HCt a b h r n c t M) : r ≠ a := H.1.2.2.1
/-- in a bad state the token moves, the fault stays -/
theorem BdP.mv (H : HCt a b h r n c t M) (hB : BdP a b h r w n c M X F) {p' : Nat} {v' hr' hc' : Int32} (hp' : p' ≤ n) : BdP a b h r w n c M (up X a (tk b c n p' v' F hr' hc')) F := by
  obtain ⟨b1, b2, hF, p, v, hr, hc, hp, hA, N, ph, rf, lo, hi, f2, g1, g2⟩ := hB
  exact ⟨b1, b2, hF.pt (by simp), p', v', hr', hc', hp', gt_up hA, N, ph, rf, lo, hi, f2, gt_rd H.nh g1, gt_rd H.nr g2⟩
/-- from a good state to a bad one -/
theorem OnP.bad (H : HCt a b h r n c t M) (hO : OnP a b h r w n c M X s p v) {p' F : Nat} {v' hr' hc' : Int32} (hp' : p' ≤ n) (h1 : F ≠ 0) (h2 : F < 100000) : BdP a b h r w n c M (up X a (tk b c n p' v' F hr' hc')) F := by
  obtain ⟨hF, hp, hv, hA, hN, f2, g1, g2, -⟩ := hO
  exact ⟨h1, h2, hF.pt (by simp), p', v', hr', hc', hp', gt_up hA, _, _, _, _, _, f2, gt_rd H.nh g1, gt_rd H.nr g2⟩
theorem OnP.mv (H : HCt a b h r n c t M) (hO : OnP a b h r w n c M X s p v) {p' : Nat} {v' : Int32} (hp' : p' ≤ n) (hv' : Vp c n p' v') : OnP a b h r w n c M (up X a (tk b c n p' v' 0 (hrv s) (hcv s))) s p' v' := by
  obtain ⟨hF, hp, hv, hA, hN, f2, g1, g2, g3⟩ := hO
  exact ⟨hF.pt (by simp), hp', hv', gt_up hA, hN, f2, gt_rd H.nh g1, gt_rd H.nr g2, g3⟩
abbrev ro9 (a h : Nat) (x2 x3 x4 x5 x6 x7 x8 : Option Value) : List (Option Value) := [some (.ref a), some (.ref h), x2, x3, x4, x5, x6, x7, x8]
abbrev QB (a b h r w n : Nat) (c : Nat → Nat) (M : Wd) (F : Nat) : Option Value → Wd → Prop := fun u M' => u = none ∧ BdP a b h r w n c M M' F
set_option maxRecDepth 20000 in
theorem o_b150 {x2 x3 x4 x5 x6 x7 x8 : Option Value} (hB : BdP a b h r w n c M X F) : Ev G mX4_readOrder 150 (ro9 a h x2 x3 x4 x5 x6 x7 x8) [] X 0 0 (QB a b h r w n c M F) := by
  have hB0 := hB
  obtain ⟨b1, b2, hF, p, v, hr, hc, hp, hA, -⟩ := hB
  refine Ev.ald0 dX4_readOrder_150 ?_
  apply Ev.getf dX4_readOrder_151 fX4_34
  · repeat (first | assumption | (refine gt_upI ?_; (repeat (first | exact In_of (gt_nw (by assumption)) | (apply In_of; assumption) | refine In_up ?_ | refine In_nw ?_)); done) | refine gt_rd (by first | assumption | (apply Ne.symm; assumption) | (exact hj _ _ (by omega) (by omega) (by omega)) | omega) ?_ | exact gt_nw (by assumption) | refine gt_odr (by first | assumption | (apply Ne.symm; assumption) | omega) ?_)
  · first | rfl | assumption
  refine Ev.if_ne (tgt := 174) dX4_readOrder_154 (by decide) (fun _ => ?_) (fun c9 => absurd ((nI_eq (b := 0) (by omega) (by omega)).mp c9) b1)
  refine Ev.vret dX4_readOrder_174 rfl ?_
  exact ⟨rfl, hB0⟩
set_option maxRecDepth 20000 in
theorem o_b119 {x2 x3 x4 x5 x6 x8 : Option Value} {y7 : Int32} (H : HCt a b h r n c t M) (hB : BdP a b h r w n c M X F) : Ev G mX4_readOrder 119 (ro9 a h x2 x3 x4 x5 x6 (some (.int y7)) x8) [] X 0 0 (QB a b h r w n c M F) := by
  have hB0 := hB
  obtain ⟨b1, b2, hF, p, v, hr, hc, hp, hA, -⟩ := hB
  have hn := H.2.1
  have hT := H.2.2.2
  have hb := H.gb hF
  refine Ev.ald0 dX4_readOrder_119 ?_
  refine Ev.ldcs 11 (by decide) rfl dX4_readOrder_120 ?_
  refine Ev.cvI (Yc := mX4_is) (ci := 4) dX4_readOrder_122 lX4_63 vX4_is rfl (t_is tw_by hA hb hn hp hT) ?_ rfl rfl rfl rfl ?_
  · apply Exists.intro; repeat (first | assumption | (refine gt_upI ?_; (repeat (first | exact In_of (gt_nw (by assumption)) | (apply In_of; assumption) | refine In_up ?_ | refine In_nw ?_)); done) | refine gt_rd (by first | assumption | (apply Ne.symm; assumption) | (exact hj _ _ (by omega) (by omega) (by omega)) | omega) ?_ | exact gt_nw (by assumption) | refine gt_odr (by first | assumption | (apply Ne.symm; assumption) | omega) ?_)
  rintro y M1 ⟨hy, rfl⟩
  refine Ev.if_eq (tgt := 147) dX4_readOrder_125 (by decide) (fun c125 => ?_) (fun c125 => ?_)
  · refine Ev.iconst (v := 0) dX4_readOrder_147 (by decide) ?_
    refine Ev.ist8 dX4_readOrder_148 rfl rfl ?_
    exact o_b150 hB0
  · refine Ev.ald0 dX4_readOrder_128 ?_
    refine Ev.ldcs 11 (by decide) rfl dX4_readOrder_129 ?_
    refine Ev.cvI (Yc := mX4_passes) (ci := 4) dX4_readOrder_131 lX4_103 vX4_passes rfl (t_passes tw_by hA hb H.1.1 hn hp hT b2) ?_ rfl rfl rfl rfl ?_
    · apply Exists.intro; repeat (first | assumption | (refine gt_upI ?_; (repeat (first | exact In_of (gt_nw (by assumption)) | (apply In_of; assumption) | refine In_up ?_ | refine In_nw ?_)); done) | refine gt_rd (by first | assumption | (apply Ne.symm; assumption) | (exact hj _ _ (by omega) (by omega) (by omega)) | omega) ?_ | exact gt_nw (by assumption) | refine gt_odr (by first | assumption | (apply Ne.symm; assumption) | omega) ?_)
    rintro y2 M2 hy2
    have hE1 := tkE_le (c := c) hp
    rcases hy2 with ⟨-, rfl, v', hv', rfl⟩ | ⟨-, rfl, rfl⟩
    · have hB2 := hB0.mv (v' := v') (hr' := hr) (hc' := hc) H hE1.2
      obtain ⟨-, -, hF2, -⟩ := hB2
      refine Ev.if_eq (tgt := 147) dX4_readOrder_134 (by decide) (fun c9 => absurd c9 (by decide)) (fun _ => ?_)
      refine Ev.ald0 dX4_readOrder_137 ?_
      refine Ev.iconst (v := 0) dX4_readOrder_138 (by decide) ?_
      refine Ev.bipush (v := 7) dX4_readOrder_139 (by decide) ?_
      refine Ev.cvI (Yc := mX4_readWhole) (ci := 4) dX4_readOrder_141 lX4_86 vX4_readWhole rfl (t_readWhole (gt_up hA) (H.gb hF2) H.1.1 hn hE1.2 hT b2) ?_ rfl rfl rfl rfl ?_
      · apply Exists.intro; repeat (first | assumption | (refine gt_upI ?_; (repeat (first | exact In_of (gt_nw (by assumption)) | (apply In_of; assumption) | refine In_up ?_ | refine In_nw ?_)); done) | refine gt_rd (by first | assumption | (apply Ne.symm; assumption) | (exact hj _ _ (by omega) (by omega) (by omega)) | omega) ?_ | exact gt_nw (by assumption) | refine gt_odr (by first | assumption | (apply Ne.symm; assumption) | omega) ?_)
      rintro y3 M3 ⟨-, v3, -, rfl⟩
      rw [up_up, fW, if_neg b1]
      refine Ev.goto (tgt := 148) dX4_readOrder_144 (by decide) ?_
      refine Ev.ist8 dX4_readOrder_148 rfl rfl ?_
      exact o_b150 (hB0.mv H (xtE_le hE1.2).2)
    · rw [if_neg b1]
      refine Ev.if_eq (tgt := 147) dX4_readOrder_134 (by decide) (fun _ => ?_) (fun c9 => absurd rfl c9)
      refine Ev.iconst (v := 0) dX4_readOrder_147 (by decide) ?_
      refine Ev.ist8 dX4_readOrder_148 rfl rfl ?_
      exact o_b150 (hB0.mv H hp)
set_option maxRecDepth 20000 in
theorem o_b88 {x2 x3 x5 x7 x8 : Option Value} {y4 y6 : Int32} (H : HCt a b h r n c t M) (hB : BdP a b h r w n c M X F) : Ev G mX4_readOrder 88 (ro9 a h x2 x3 (some (.int y4)) x5 (some (.int y6)) x7 x8) [] X 0 0 (QB a b h r w n c M F) := by
  have hB0 := hB
  obtain ⟨b1, b2, hF, p, v, hr, hc, hp, hA, -⟩ := hB
  have hn := H.2.1
  have hT := H.2.2.2
  have hb := H.gb hF
  refine Ev.ald0 dX4_readOrder_88 ?_
  refine Ev.ldcs 10 (by decide) rfl dX4_readOrder_89 ?_
  refine Ev.cvI (Yc := mX4_is) (ci := 4) dX4_readOrder_91 lX4_63 vX4_is rfl (t_is tw_le hA hb hn hp hT) ?_ rfl rfl rfl rfl ?_
  · apply Exists.intro; repeat (first | assumption | (refine gt_upI ?_; (repeat (first | exact In_of (gt_nw (by assumption)) | (apply In_of; assumption) | refine In_up ?_ | refine In_nw ?_)); done) | refine gt_rd (by first | assumption | (apply Ne.symm; assumption) | (exact hj _ _ (by omega) (by omega) (by omega)) | omega) ?_ | exact gt_nw (by assumption) | refine gt_odr (by first | assumption | (apply Ne.symm; assumption) | omega) ?_)
  rintro y M1 ⟨hy, rfl⟩
  refine Ev.if_eq (tgt := 116) dX4_readOrder_94 (by decide) (fun c94 => ?_) (fun c94 => ?_)
  · refine Ev.iconst (v := 0) dX4_readOrder_116 (by decide) ?_
    refine Ev.ist7 dX4_readOrder_117 rfl rfl ?_
    exact o_b119 H hB0
  · refine Ev.ald0 dX4_readOrder_97 ?_
    refine Ev.ldcs 10 (by decide) rfl dX4_readOrder_98 ?_
    refine Ev.cvI (Yc := mX4_passes) (ci := 4) dX4_readOrder_100 lX4_103 vX4_passes rfl (t_passes tw_le hA hb H.1.1 hn hp hT b2) ?_ rfl rfl rfl rfl ?_
    · apply Exists.intro; repeat (first | assumption | (refine gt_upI ?_; (repeat (first | exact In_of (gt_nw (by assumption)) | (apply In_of; assumption) | refine In_up ?_ | refine In_nw ?_)); done) | refine gt_rd (by first | assumption | (apply Ne.symm; assumption) | (exact hj _ _ (by omega) (by omega) (by omega)) | omega) ?_ | exact gt_nw (by assumption) | refine gt_odr (by first | assumption | (apply Ne.symm; assumption) | omega) ?_)
    rintro y2 M2 hy2
    have hE1 := tkE_le (c := c) hp
    rcases hy2 with ⟨-, rfl, v', hv', rfl⟩ | ⟨-, rfl, rfl⟩
    · have hB2 := hB0.mv (v' := v') (hr' := hr) (hc' := hc) H hE1.2
      obtain ⟨-, -, hF2, -⟩ := hB2
      refine Ev.if_eq (tgt := 116) dX4_readOrder_103 (by decide) (fun c9 => absurd c9 (by decide)) (fun _ => ?_)
      refine Ev.ald0 dX4_readOrder_106 ?_
      refine Ev.iconst (v := 0) dX4_readOrder_107 (by decide) ?_
      refine Ev.ild4 dX4_readOrder_108 ?_
      refine Ev.cvI (Yc := mX4_readWhole) (ci := 4) dX4_readOrder_110 lX4_86 vX4_readWhole rfl (t_readWhole (gt_up hA) (H.gb hF2) H.1.1 hn hE1.2 hT b2) ?_ rfl rfl rfl rfl ?_
      · apply Exists.intro; repeat (first | assumption | (refine gt_upI ?_; (repeat (first | exact In_of (gt_nw (by assumption)) | (apply In_of; assumption) | refine In_up ?_ | refine In_nw ?_)); done) | refine gt_rd (by first | assumption | (apply Ne.symm; assumption) | (exact hj _ _ (by omega) (by omega) (by omega)) | omega) ?_ | exact gt_nw (by assumption) | refine gt_odr (by first | assumption | (apply Ne.symm; assumption) | omega) ?_)
      rintro y3 M3 ⟨-, v3, -, rfl⟩
      rw [up_up, fW, if_neg b1]
      refine Ev.goto (tgt := 117) dX4_readOrder_113 (by decide) ?_
      refine Ev.ist7 dX4_readOrder_117 rfl rfl ?_
      exact o_b119 H (hB0.mv H (xtE_le hE1.2).2)
    · rw [if_neg b1]
      refine Ev.if_eq (tgt := 116) dX4_readOrder_103 (by decide) (fun _ => ?_) (fun c9 => absurd rfl c9)
      refine Ev.iconst (v := 0) dX4_readOrder_116 (by decide) ?_
      refine Ev.ist7 dX4_readOrder_117 rfl rfl ?_
      exact o_b119 H (hB0.mv H hp)
set_option maxRecDepth 20000 in
theorem o_b61 {x2 x6 x7 x8 : Option Value} {y3 y4 y5 : Int32} (H : HCt a b h r n c t M) (hB : BdP a b h r w n c M X F) : Ev G mX4_readOrder 61 (ro9 a h x2 (some (.int y3)) (some (.int y4)) (some (.int y5)) x6 x7 x8) [] X 0 0 (QB a b h r w n c M F) := by
  have hB0 := hB
  obtain ⟨b1, b2, hF, p, v, hr, hc, hp, hA, -⟩ := hB
  have hn := H.2.1
  have hT := H.2.2.2
  have hb := H.gb hF
  refine Ev.ild3 dX4_readOrder_61 ?_
  refine Ev.iconst (v := 3) dX4_readOrder_62 (by decide) ?_
  refine Ev.icmp_ne (tgt := 85) dX4_readOrder_63 (by decide) (fun c63 => ?_) (fun c63 => ?_)
  · refine Ev.iconst (v := 0) dX4_readOrder_85 (by decide) ?_
    refine Ev.ist6 dX4_readOrder_86 rfl rfl ?_
    exact o_b88 H hB0
  · refine Ev.ald0 dX4_readOrder_66 ?_
    refine Ev.ldcs 9 (by decide) rfl dX4_readOrder_67 ?_
    refine Ev.cvI (Yc := mX4_passes) (ci := 4) dX4_readOrder_69 lX4_103 vX4_passes rfl (t_passes tw_sh hA hb H.1.1 hn hp hT b2) ?_ rfl rfl rfl rfl ?_
    · apply Exists.intro; repeat (first | assumption | (refine gt_upI ?_; (repeat (first | exact In_of (gt_nw (by assumption)) | (apply In_of; assumption) | refine In_up ?_ | refine In_nw ?_)); done) | refine gt_rd (by first | assumption | (apply Ne.symm; assumption) | (exact hj _ _ (by omega) (by omega) (by omega)) | omega) ?_ | exact gt_nw (by assumption) | refine gt_odr (by first | assumption | (apply Ne.symm; assumption) | omega) ?_)
    rintro y2 M2 hy2
    have hE1 := tkE_le (c := c) hp
    rcases hy2 with ⟨-, rfl, v', hv', rfl⟩ | ⟨-, rfl, rfl⟩
    · have hB2 := hB0.mv (v' := v') (hr' := hr) (hc' := hc) H hE1.2
      obtain ⟨-, -, hF2, -⟩ := hB2
      refine Ev.if_eq (tgt := 85) dX4_readOrder_72 (by decide) (fun c9 => absurd c9 (by decide)) (fun _ => ?_)
      refine Ev.ald0 dX4_readOrder_75 ?_
      refine Ev.iconst (v := 1) dX4_readOrder_76 (by decide) ?_
      refine Ev.ild4 dX4_readOrder_77 ?_
      refine Ev.cvI (Yc := mX4_readWhole) (ci := 4) dX4_readOrder_79 lX4_86 vX4_readWhole rfl (t_readWhole (gt_up hA) (H.gb hF2) H.1.1 hn hE1.2 hT b2) ?_ rfl rfl rfl rfl ?_
      · apply Exists.intro; repeat (first | assumption | (refine gt_upI ?_; (repeat (first | exact In_of (gt_nw (by assumption)) | (apply In_of; assumption) | refine In_up ?_ | refine In_nw ?_)); done) | refine gt_rd (by first | assumption | (apply Ne.symm; assumption) | (exact hj _ _ (by omega) (by omega) (by omega)) | omega) ?_ | exact gt_nw (by assumption) | refine gt_odr (by first | assumption | (apply Ne.symm; assumption) | omega) ?_)
      rintro y5 M3 ⟨-, v3, -, rfl⟩
      rw [up_up, fW, if_neg b1]
      refine Ev.goto (tgt := 86) dX4_readOrder_82 (by decide) ?_
      refine Ev.ist6 dX4_readOrder_86 rfl rfl ?_
      exact o_b88 H (hB0.mv H (xtE_le hE1.2).2)
    · rw [if_neg b1]
      refine Ev.if_eq (tgt := 85) dX4_readOrder_72 (by decide) (fun _ => ?_) (fun c9 => absurd rfl c9)
      refine Ev.iconst (v := 0) dX4_readOrder_85 (by decide) ?_
      refine Ev.ist6 dX4_readOrder_86 rfl rfl ?_
      exact o_b88 H (hB0.mv H hp)
set_option maxRecDepth 20000 in
theorem o_b34 {x2 x5 x6 x7 x8 : Option Value} {y3 y4 : Int32} (H : HCt a b h r n c t M) (hB : BdP a b h r w n c M X F) : Ev G mX4_readOrder 34 (ro9 a h x2 (some (.int y3)) (some (.int y4)) x5 x6 x7 x8) [] X 0 0 (QB a b h r w n c M F) := by
  have hB0 := hB
  obtain ⟨b1, b2, hF, p, v, hr, hc, hp, hA, -⟩ := hB
  have hn := H.2.1
  have hT := H.2.2.2
  have hb := H.gb hF
  refine Ev.ild3 dX4_readOrder_34 ?_
  refine Ev.if_eq (tgt := 58) dX4_readOrder_35 (by decide) (fun c35 => ?_) (fun c35 => ?_)
  · refine Ev.iconst (v := 0) dX4_readOrder_58 (by decide) ?_
    refine Ev.ist5 dX4_readOrder_59 rfl rfl ?_
    exact o_b61 H hB0
  · refine Ev.ald0 dX4_readOrder_38 ?_
    refine Ev.ldcs 8 (by decide) rfl dX4_readOrder_39 ?_
    refine Ev.cvI (Yc := mX4_passes) (ci := 4) dX4_readOrder_41 lX4_103 vX4_passes rfl (t_passes tw_at hA hb H.1.1 hn hp hT b2) ?_ rfl rfl rfl rfl ?_
    · apply Exists.intro; repeat (first | assumption | (refine gt_upI ?_; (repeat (first | exact In_of (gt_nw (by assumption)) | (apply In_of; assumption) | refine In_up ?_ | refine In_nw ?_)); done) | refine gt_rd (by first | assumption | (apply Ne.symm; assumption) | (exact hj _ _ (by omega) (by omega) (by omega)) | omega) ?_ | exact gt_nw (by assumption) | refine gt_odr (by first | assumption | (apply Ne.symm; assumption) | omega) ?_)
    rintro y2 M2 hy2
    have hE1 := tkE_le (c := c) hp
    rcases hy2 with ⟨-, rfl, v', hv', rfl⟩ | ⟨-, rfl, rfl⟩
    · have hB2 := hB0.mv (v' := v') (hr' := hr) (hc' := hc) H hE1.2
      obtain ⟨-, -, hF2, -⟩ := hB2
      refine Ev.if_eq (tgt := 58) dX4_readOrder_44 (by decide) (fun c9 => absurd c9 (by decide)) (fun _ => ?_)
      refine Ev.ald0 dX4_readOrder_47 ?_
      refine Ev.iconst (v := 1) dX4_readOrder_48 (by decide) ?_
      refine Ev.sipush (v := 999) dX4_readOrder_49 (by decide) ?_
      refine Ev.cvI (Yc := mX4_readWhole) (ci := 4) dX4_readOrder_52 lX4_86 vX4_readWhole rfl (t_readWhole (gt_up hA) (H.gb hF2) H.1.1 hn hE1.2 hT b2) ?_ rfl rfl rfl rfl ?_
      · apply Exists.intro; repeat (first | assumption | (refine gt_upI ?_; (repeat (first | exact In_of (gt_nw (by assumption)) | (apply In_of; assumption) | refine In_up ?_ | refine In_nw ?_)); done) | refine gt_rd (by first | assumption | (apply Ne.symm; assumption) | (exact hj _ _ (by omega) (by omega) (by omega)) | omega) ?_ | exact gt_nw (by assumption) | refine gt_odr (by first | assumption | (apply Ne.symm; assumption) | omega) ?_)
      rintro y5 M3 ⟨-, v3, -, rfl⟩
      rw [up_up, fW, if_neg b1]
      refine Ev.goto (tgt := 59) dX4_readOrder_55 (by decide) ?_
      refine Ev.ist5 dX4_readOrder_59 rfl rfl ?_
      exact o_b61 H (hB0.mv H (xtE_le hE1.2).2)
    · rw [if_neg b1]
      refine Ev.if_eq (tgt := 58) dX4_readOrder_44 (by decide) (fun _ => ?_) (fun c9 => absurd rfl c9)
      refine Ev.iconst (v := 0) dX4_readOrder_58 (by decide) ?_
      refine Ev.ist5 dX4_readOrder_59 rfl rfl ?_
      exact o_b61 H (hB0.mv H hp)
set_option maxRecDepth 20000 in
theorem o_b24 {x2 x4 x5 x6 x7 x8 : Option Value} {y3 : Int32} (H : HCt a b h r n c t M) (hB : BdP a b h r w n c M X F) : Ev G mX4_readOrder 24 (ro9 a h x2 (some (.int y3)) x4 x5 x6 x7 x8) [] X 0 0 (QB a b h r w n c M F) := by
  have hB0 := hB
  obtain ⟨b1, b2, hF, p, v, hr, hc, hp, hA, -⟩ := hB
  refine Ev.ald0 dX4_readOrder_24 ?_
  refine Ev.iconst (v := 1) dX4_readOrder_25 (by decide) ?_
  refine Ev.sipush (v := 9999) dX4_readOrder_26 (by decide) ?_
  refine Ev.cvI (Yc := mX4_readWhole) (ci := 4) dX4_readOrder_29 lX4_86 vX4_readWhole rfl (t_readWhole hA (H.gb hF) H.1.1 H.2.1 hp H.2.2.2 b2) ?_ rfl rfl rfl rfl ?_
  · apply Exists.intro; repeat (first | assumption | (refine gt_upI ?_; (repeat (first | exact In_of (gt_nw (by assumption)) | (apply In_of; assumption) | refine In_up ?_ | refine In_nw ?_)); done) | refine gt_rd (by first | assumption | (apply Ne.symm; assumption) | (exact hj _ _ (by omega) (by omega) (by omega)) | omega) ?_ | exact gt_nw (by assumption) | refine gt_odr (by first | assumption | (apply Ne.symm; assumption) | omega) ?_)
  rintro y5 M3 ⟨-, v3, -, rfl⟩
  rw [fW, if_neg b1]
  refine Ev.ist4 dX4_readOrder_32 rfl rfl ?_
  exact o_b34 H (hB0.mv H (xtE_le hp).2)
end ROD
