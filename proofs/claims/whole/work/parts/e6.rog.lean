/-! an order read as it should be -/
theorem ar_add8 {f g : Nat → Int32} {k : Nat} {a0 a1 a2 a3 a4 a5 a6 : Int32} (h : Ar k f g) : Ar (k + 1) (add8 f k a0 a1 a2 a3 a4 a5 a6) (add8 g k a0 a1 a2 a3 a4 a5 a6) := fun j hj => by
  by_cases c : j < 8 * k
  · rw [add8_lo (Or.inl c), add8_lo (Or.inl c)]
    exact h j c
  · obtain ⟨e0, e1, e2, e3, e4, e5, e6, e7⟩ := add8_at (f := f) (k := k) (a0 := a0) (a1 := a1) (a2 := a2) (a3 := a3) (a4 := a4) (a5 := a5) (a6 := a6)
    obtain ⟨d0, d1, d2, d3, d4, d5, d6, d7⟩ := add8_at (f := g) (k := k) (a0 := a0) (a1 := a1) (a2 := a2) (a3 := a3) (a4 := a4) (a5 := a5) (a6 := a6)
    have : j = 8 * k + 0 ∨ j = 8 * k + 1 ∨ j = 8 * k + 2 ∨ j = 8 * k + 3 ∨ j = 8 * k + 4 ∨ j = 8 * k + 5 ∨ j = 8 * k + 6 ∨ j = 8 * k + 7 := by omega
    rcases this with e | e | e | e | e | e | e | e <;> rw [e]
    · rw [e0, d0]
    · rw [e1, d1]
    · rw [e2, d2]
    · rw [e3, d3]
    · rw [e4, d4]
    · rw [e5, d5]
    · rw [e6, d6]
    · rw [e7, d7]
section ROG
variable {G : GP} {M X : Wd} {a b h r w n p : Nat} {c : Nat → Nat} {t : Nat → Int32} {s : Ps} {v : Int32} {sd kd qn pr sh le ow : Nat}
abbrev QR (a b h r w n : Nat) (c : Nat → Nat) (M : Wd) (q : Nat ⊕ Ps) : Option Value → Wd → Prop := fun u M' => u = none ∧ Rsl a b h r w n c M q M'
theorem qb_qr {F pc : Nat} {ls : List (Option Value)} {st : List Value} {Y : MI} (k : Ev G Y pc ls st X 0 0 (QB a b h r w n c M F)) {q : Nat ⊕ Ps} (hq : q = .inl F) : Ev G Y pc ls st X 0 0 (QR a b h r w n c M q) := by
  subst hq
  exact k.post (fun v M' z => z)
set_option maxRecDepth 20000 in
theorem o_g150 (H : HCt a b h r n c t M) (hO : OnP a b h r w n c M X s p v) (hN : s.2.2.1 < 40) : Ev G mX4_readOrder 150 (ro9 a h (some (.int (nI sd))) (some (.int (nI kd))) (some (.int (nI qn))) (some (.int (nI pr))) (some (.int (nI sh))) (some (.int (nI le))) (some (.int (nI ow)))) [] X 0 0 (QR a b h r w n c M (olF s p sd kd qn pr sh le ow)) := by
  obtain ⟨hF, hp, hv, hA, hN4, f2, g1, g2, g3⟩ := hO
  refine Ev.ald0 dX4_readOrder_150 ?_
  apply Ev.getf dX4_readOrder_151 fX4_34
  · repeat (first | assumption | (refine gt_upI ?_; (repeat (first | exact In_of (gt_nw (by assumption)) | (apply In_of; assumption) | refine In_up ?_ | refine In_nw ?_)); done) | refine gt_rd (by first | assumption | (apply Ne.symm; assumption) | (exact hj _ _ (by omega) (by omega) (by omega)) | omega) ?_ | exact gt_nw (by assumption) | refine gt_odr (by first | assumption | (apply Ne.symm; assumption) | omega) ?_)
  · first | rfl | assumption
  refine Ev.if_ne (tgt := 174) dX4_readOrder_154 (by decide) (fun c9 => absurd rfl c9) (fun _ => ?_)
  refine Ev.ald1 dX4_readOrder_157 ?_
  refine Ev.ild2 dX4_readOrder_158 ?_
  refine Ev.ild3 dX4_readOrder_159 ?_
  refine Ev.ild4 dX4_readOrder_160 ?_
  refine Ev.ild5 dX4_readOrder_162 ?_
  refine Ev.ild6 dX4_readOrder_164 ?_
  refine Ev.ild7 dX4_readOrder_166 ?_
  refine Ev.ild8 dX4_readOrder_168 ?_
  refine Ev.cvI (Yc := mX2_add) (ci := 2) dX4_readOrder_170 lX4_112 vX2_add rfl (c_add g1 g2 (by omega) H.1.2.2.2.1) ?_ rfl rfl rfl rfl ?_
  · apply Exists.intro; repeat (first | assumption | (refine gt_upI ?_; (repeat (first | exact In_of (gt_nw (by assumption)) | (apply In_of; assumption) | refine In_up ?_ | refine In_nw ?_)); done) | refine gt_rd (by first | assumption | (apply Ne.symm; assumption) | (exact hj _ _ (by omega) (by omega) (by omega)) | omega) ?_ | exact gt_nw (by assumption) | refine gt_odr (by first | assumption | (apply Ne.symm; assumption) | omega) ?_)
  rintro y M' ⟨-, rfl⟩
  refine Ev.pop dX4_readOrder_173 rfl ?_
  refine Ev.vret dX4_readOrder_174 rfl ?_
  refine ⟨rfl, v, (hF.pt (by simp)).pt (by simp), hp, hv, gt_rd H.nr.symm (gt_rd H.nh.symm hA), by show s.2.2.1 + 1 ≤ 40; omega, add8 f2 s.2.2.1 (nI sd) (nI kd) (nI qn) (nI pr) (nI sh) (nI le) (nI ow), gt_rd H.1.2.2.2.1 (gt_up g1), gt_up (gt_rd H.1.2.2.2.1.symm g2), ar_add8 g3⟩
set_option maxRecDepth 20000 in
theorem o_g119 {x8 : Option Value} (H : HCt a b h r n c t M) (hO : OnP a b h r w n c M X s p v) (hN : s.2.2.1 < 40) : Ev G mX4_readOrder 119 (ro9 a h (some (.int (nI sd))) (some (.int (nI kd))) (some (.int (nI qn))) (some (.int (nI pr))) (some (.int (nI sh))) (some (.int (nI le))) x8) [] X 0 0 (QR a b h r w n c M (ol5 c n s p sd kd qn pr sh le)) := by
  have hO0 := hO
  obtain ⟨hF, hp, hv, hA, hN4, f2, g1, g2, g3⟩ := hO
  have hn := H.2.1
  have hT := H.2.2.2
  have hb := H.gb hF
  refine Ev.ald0 dX4_readOrder_119 ?_
  refine Ev.ldcs 11 (by decide) rfl dX4_readOrder_120 ?_
  refine Ev.cvI (Yc := mX4_is) (ci := 4) dX4_readOrder_122 lX4_63 vX4_is rfl (t_is tw_by hA hb hn hp hT) ?_ rfl rfl rfl rfl ?_
  · apply Exists.intro; repeat (first | assumption | (refine gt_upI ?_; (repeat (first | exact In_of (gt_nw (by assumption)) | (apply In_of; assumption) | refine In_up ?_ | refine In_nw ?_)); done) | refine gt_rd (by first | assumption | (apply Ne.symm; assumption) | (exact hj _ _ (by omega) (by omega) (by omega)) | omega) ?_ | exact gt_nw (by assumption) | refine gt_odr (by first | assumption | (apply Ne.symm; assumption) | omega) ?_)
  rintro y M1 ⟨hy, rfl⟩
  refine Ev.if_eq (tgt := 147) dX4_readOrder_125 (by decide) (fun c125 => ?_) (fun c125 => ?_)
  · have f1 := if1_f hy c125
    rw [ol5, if_neg f1]
    refine Ev.iconst (v := 0) dX4_readOrder_147 (by decide) ?_
    refine Ev.ist8 dX4_readOrder_148 rfl rfl ?_
    exact o_g150 (ow := 0) H hO0 hN
  · have f1 := if1_t hy c125
    have hE1 := tkE_le (c := c) hp
    rw [ol5, if_pos f1]
    refine Ev.ald0 dX4_readOrder_128 ?_
    refine Ev.ldcs 11 (by decide) rfl dX4_readOrder_129 ?_
    refine Ev.cvI (Yc := mX4_passes) (ci := 4) dX4_readOrder_131 lX4_103 vX4_passes rfl (t_passes tw_by hA hb H.1.1 hn hp hT (by omega)) ?_ rfl rfl rfl rfl ?_
    · apply Exists.intro; repeat (first | assumption | (refine gt_upI ?_; (repeat (first | exact In_of (gt_nw (by assumption)) | (apply In_of; assumption) | refine In_up ?_ | refine In_nw ?_)); done) | refine gt_rd (by first | assumption | (apply Ne.symm; assumption) | (exact hj _ _ (by omega) (by omega) (by omega)) | omega) ?_ | exact gt_nw (by assumption) | refine gt_odr (by first | assumption | (apply Ne.symm; assumption) | omega) ?_)
    rintro y2 M2 hy2
    rcases hy2 with ⟨-, rfl, v', hv', rfl⟩ | ⟨z, -⟩
    · have hO2 := hO0.mv H hE1.2 hv'
      refine Ev.if_eq (tgt := 147) dX4_readOrder_134 (by decide) (fun c9 => absurd c9 (by decide)) (fun _ => ?_)
      refine Ev.ald0 dX4_readOrder_137 ?_
      refine Ev.iconst (v := 0) dX4_readOrder_138 (by decide) ?_
      refine Ev.bipush (v := 7) dX4_readOrder_139 (by decide) ?_
      refine Ev.cvI (Yc := mX4_readWhole) (ci := 4) dX4_readOrder_141 lX4_86 vX4_readWhole rfl (t_readWhole hO2.2.2.2.1 (H.gb hO2.1) H.1.1 hn hE1.2 hT (by omega)) ?_ rfl rfl rfl rfl ?_
      · apply Exists.intro; repeat (first | assumption | (refine gt_upI ?_; (repeat (first | exact In_of (gt_nw (by assumption)) | (apply In_of; assumption) | refine In_up ?_ | refine In_nw ?_)); done) | refine gt_rd (by first | assumption | (apply Ne.symm; assumption) | (exact hj _ _ (by omega) (by omega) (by omega)) | omega) ?_ | exact gt_nw (by assumption) | refine gt_odr (by first | assumption | (apply Ne.symm; assumption) | omega) ?_)
      rintro y3 M3 ⟨hy3, v3, hv3, rfl⟩
      rw [hy3]
      clear hy3 y3
      rcases nmb_fW hv' hn hE1.2 (lo := 0) (hi := 7) (by omega) (by omega) with ⟨x, n1, n2, n3, n4, -, -⟩ | ⟨g, n1, n2, n3, n4⟩
      · subst n3
        rw [n1]
        have n2' : fW c n (tkE c n p) 0 (nI x) 0 7 = 0 := n2
        rw [n4] at hv3 ⊢
        refine Ev.goto (tgt := 148) dX4_readOrder_144 (by decide) ?_
        refine Ev.ist8 dX4_readOrder_148 rfl rfl ?_
        rw [n2']
        exact o_g150 H (hO2.mv H (tkE_le hE1.2).2 hv3) hN
      · rw [n1]
        have n2' : fW c n (tkE c n p) 0 v' 0 7 = g := n2
        rw [n2']
        refine Ev.goto (tgt := 148) dX4_readOrder_144 (by decide) ?_
        refine Ev.ist8 dX4_readOrder_148 rfl rfl ?_
        exact qb_qr (o_b150 (hO2.bad H (xtE_le hE1.2).2 n3 n4)) rfl
    · exact absurd f1 z
set_option maxRecDepth 20000 in
theorem o_g88 {x7 x8 : Option Value} (hq : qn ≤ 9999) (H : HCt a b h r n c t M) (hO : OnP a b h r w n c M X s p v) (hN : s.2.2.1 < 40) : Ev G mX4_readOrder 88 (ro9 a h (some (.int (nI sd))) (some (.int (nI kd))) (some (.int (nI qn))) (some (.int (nI pr))) (some (.int (nI sh))) x7 x8) [] X 0 0 (QR a b h r w n c M (ol4 c n s p sd kd qn pr sh)) := by
  have hO0 := hO
  obtain ⟨hF, hp, hv, hA, hN4, f2, g1, g2, g3⟩ := hO
  have hn := H.2.1
  have hT := H.2.2.2
  have hb := H.gb hF
  refine Ev.ald0 dX4_readOrder_88 ?_
  refine Ev.ldcs 10 (by decide) rfl dX4_readOrder_89 ?_
  refine Ev.cvI (Yc := mX4_is) (ci := 4) dX4_readOrder_91 lX4_63 vX4_is rfl (t_is tw_le hA hb hn hp hT) ?_ rfl rfl rfl rfl ?_
  · apply Exists.intro; repeat (first | assumption | (refine gt_upI ?_; (repeat (first | exact In_of (gt_nw (by assumption)) | (apply In_of; assumption) | refine In_up ?_ | refine In_nw ?_)); done) | refine gt_rd (by first | assumption | (apply Ne.symm; assumption) | (exact hj _ _ (by omega) (by omega) (by omega)) | omega) ?_ | exact gt_nw (by assumption) | refine gt_odr (by first | assumption | (apply Ne.symm; assumption) | omega) ?_)
  rintro y M1 ⟨hy, rfl⟩
  refine Ev.if_eq (tgt := 116) dX4_readOrder_94 (by decide) (fun c94 => ?_) (fun c94 => ?_)
  · have f1 := if1_f hy c94
    rw [ol4, if_neg f1]
    refine Ev.iconst (v := 0) dX4_readOrder_116 (by decide) ?_
    refine Ev.ist7 dX4_readOrder_117 rfl rfl ?_
    exact o_g119 (le := 0) H hO0 hN
  · have f1 := if1_t hy c94
    have hE1 := tkE_le (c := c) hp
    rw [ol4, if_pos f1]
    refine Ev.ald0 dX4_readOrder_97 ?_
    refine Ev.ldcs 10 (by decide) rfl dX4_readOrder_98 ?_
    refine Ev.cvI (Yc := mX4_passes) (ci := 4) dX4_readOrder_100 lX4_103 vX4_passes rfl (t_passes tw_le hA hb H.1.1 hn hp hT (by omega)) ?_ rfl rfl rfl rfl ?_
    · apply Exists.intro; repeat (first | assumption | (refine gt_upI ?_; (repeat (first | exact In_of (gt_nw (by assumption)) | (apply In_of; assumption) | refine In_up ?_ | refine In_nw ?_)); done) | refine gt_rd (by first | assumption | (apply Ne.symm; assumption) | (exact hj _ _ (by omega) (by omega) (by omega)) | omega) ?_ | exact gt_nw (by assumption) | refine gt_odr (by first | assumption | (apply Ne.symm; assumption) | omega) ?_)
    rintro y2 M2 hy2
    rcases hy2 with ⟨-, rfl, v', hv', rfl⟩ | ⟨z, -⟩
    · have hO2 := hO0.mv H hE1.2 hv'
      refine Ev.if_eq (tgt := 116) dX4_readOrder_103 (by decide) (fun c9 => absurd c9 (by decide)) (fun _ => ?_)
      refine Ev.ald0 dX4_readOrder_106 ?_
      refine Ev.iconst (v := 0) dX4_readOrder_107 (by decide) ?_
      refine Ev.ild4 dX4_readOrder_108 ?_
      refine Ev.cvI (Yc := mX4_readWhole) (ci := 4) dX4_readOrder_110 lX4_86 vX4_readWhole rfl (t_readWhole hO2.2.2.2.1 (H.gb hO2.1) H.1.1 hn hE1.2 hT (by omega)) ?_ rfl rfl rfl rfl ?_
      · apply Exists.intro; repeat (first | assumption | (refine gt_upI ?_; (repeat (first | exact In_of (gt_nw (by assumption)) | (apply In_of; assumption) | refine In_up ?_ | refine In_nw ?_)); done) | refine gt_rd (by first | assumption | (apply Ne.symm; assumption) | (exact hj _ _ (by omega) (by omega) (by omega)) | omega) ?_ | exact gt_nw (by assumption) | refine gt_odr (by first | assumption | (apply Ne.symm; assumption) | omega) ?_)
      rintro y3 M3 ⟨hy3, v3, hv3, rfl⟩
      rw [hy3]
      clear hy3 y3
      rcases nmb_fW hv' hn hE1.2 (lo := 0) (hi := qn) (by omega) hq with ⟨x, n1, n2, n3, n4, -, -⟩ | ⟨g, n1, n2, n3, n4⟩
      · subst n3
        rw [n1]
        have n2' : fW c n (tkE c n p) 0 (nI x) 0 (nI qn) = 0 := n2
        rw [n4] at hv3 ⊢
        refine Ev.goto (tgt := 117) dX4_readOrder_113 (by decide) ?_
        refine Ev.ist7 dX4_readOrder_117 rfl rfl ?_
        rw [n2']
        exact o_g119 H (hO2.mv H (tkE_le hE1.2).2 hv3) hN
      · rw [n1]
        have n2' : fW c n (tkE c n p) 0 v' 0 (nI qn) = g := n2
        rw [n2']
        refine Ev.goto (tgt := 117) dX4_readOrder_113 (by decide) ?_
        refine Ev.ist7 dX4_readOrder_117 rfl rfl ?_
        exact qb_qr (o_b119 H (hO2.bad H (xtE_le hE1.2).2 n3 n4)) rfl
    · exact absurd f1 z
set_option maxRecDepth 20000 in
theorem o_g61 {x6 x7 x8 : Option Value} (hk : kd ≤ 4) (hq : qn ≤ 9999) (H : HCt a b h r n c t M) (hO : OnP a b h r w n c M X s p v) (hN : s.2.2.1 < 40) : Ev G mX4_readOrder 61 (ro9 a h (some (.int (nI sd))) (some (.int (nI kd))) (some (.int (nI qn))) (some (.int (nI pr))) x6 x7 x8) [] X 0 0 (QR a b h r w n c M (ol3 c n s p sd kd qn pr)) := by
  have hO0 := hO
  obtain ⟨hF, hp, hv, hA, hN4, f2, g1, g2, g3⟩ := hO
  have hn := H.2.1
  have hT := H.2.2.2
  have hb := H.gb hF
  have k3 : nI kd = 3 ↔ kd = 3 := nI_eq (b := 3) (by omega) (by omega)
  refine Ev.ild3 dX4_readOrder_61 ?_
  refine Ev.iconst (v := 3) dX4_readOrder_62 (by decide) ?_
  refine Ev.icmp_ne (tgt := 85) dX4_readOrder_63 (by decide) (fun c63 => ?_) (fun c63 => ?_)
  · rw [ol3, if_neg (fun z => c63 (k3.mpr z))]
    refine Ev.iconst (v := 0) dX4_readOrder_85 (by decide) ?_
    refine Ev.ist6 dX4_readOrder_86 rfl rfl ?_
    exact o_g88 (sh := 0) hq H hO0 hN
  · have c63' : nI kd = 3 := c63
    rw [ol3, if_pos (k3.mp c63')]
    have hE1 := tkE_le (c := c) hp
    refine Ev.ald0 dX4_readOrder_66 ?_
    refine Ev.ldcs 9 (by decide) rfl dX4_readOrder_67 ?_
    refine Ev.cvI (Yc := mX4_passes) (ci := 4) dX4_readOrder_69 lX4_103 vX4_passes rfl (t_passes tw_sh hA hb H.1.1 hn hp hT (by omega)) ?_ rfl rfl rfl rfl ?_
    · apply Exists.intro; repeat (first | assumption | (refine gt_upI ?_; (repeat (first | exact In_of (gt_nw (by assumption)) | (apply In_of; assumption) | refine In_up ?_ | refine In_nw ?_)); done) | refine gt_rd (by first | assumption | (apply Ne.symm; assumption) | (exact hj _ _ (by omega) (by omega) (by omega)) | omega) ?_ | exact gt_nw (by assumption) | refine gt_odr (by first | assumption | (apply Ne.symm; assumption) | omega) ?_)
    rintro y2 M2 hy2
    rcases hy2 with ⟨f1, rfl, v', hv', rfl⟩ | ⟨f1, rfl, rfl⟩
    · have hO2 := hO0.mv H hE1.2 hv'
      rw [wrd, if_pos f1]
      show Ev G _ _ _ _ _ _ _ (QR a b h r w n c M (ol3b c n s (tkE c n p) sd kd qn pr))
      rw [ol3b]
      refine Ev.if_eq (tgt := 85) dX4_readOrder_72 (by decide) (fun c9 => absurd c9 (by decide)) (fun _ => ?_)
      refine Ev.ald0 dX4_readOrder_75 ?_
      refine Ev.iconst (v := 1) dX4_readOrder_76 (by decide) ?_
      refine Ev.ild4 dX4_readOrder_77 ?_
      refine Ev.cvI (Yc := mX4_readWhole) (ci := 4) dX4_readOrder_79 lX4_86 vX4_readWhole rfl (t_readWhole hO2.2.2.2.1 (H.gb hO2.1) H.1.1 hn hE1.2 hT (by omega)) ?_ rfl rfl rfl rfl ?_
      · apply Exists.intro; repeat (first | assumption | (refine gt_upI ?_; (repeat (first | exact In_of (gt_nw (by assumption)) | (apply In_of; assumption) | refine In_up ?_ | refine In_nw ?_)); done) | refine gt_rd (by first | assumption | (apply Ne.symm; assumption) | (exact hj _ _ (by omega) (by omega) (by omega)) | omega) ?_ | exact gt_nw (by assumption) | refine gt_odr (by first | assumption | (apply Ne.symm; assumption) | omega) ?_)
      rintro y3 M3 ⟨hy3, v3, hv3, rfl⟩
      rw [hy3]
      clear hy3 y3
      rcases nmb_fW hv' hn hE1.2 (lo := 1) (hi := qn) (by omega) hq with ⟨x, n1, n2, n3, n4, -, -⟩ | ⟨g, n1, n2, n3, n4⟩
      · subst n3
        rw [n1]
        have n2' : fW c n (tkE c n p) 0 (nI x) 1 (nI qn) = 0 := n2
        rw [n4] at hv3 ⊢
        refine Ev.goto (tgt := 86) dX4_readOrder_82 (by decide) ?_
        refine Ev.ist6 dX4_readOrder_86 rfl rfl ?_
        rw [n2']
        exact o_g88 hq H (hO2.mv H (tkE_le hE1.2).2 hv3) hN
      · rw [n1]
        have n2' : fW c n (tkE c n p) 0 v' 1 (nI qn) = g := n2
        rw [n2']
        refine Ev.goto (tgt := 86) dX4_readOrder_82 (by decide) ?_
        refine Ev.ist6 dX4_readOrder_86 rfl rfl ?_
        exact qb_qr (o_b88 H (hO2.bad H (xtE_le hE1.2).2 n3 n4)) rfl
    · rw [wrd, if_neg f1, if_pos rfl]
      have hA1 := tkA_le (c := c) hp
      refine Ev.if_eq (tgt := 85) dX4_readOrder_72 (by decide) (fun _ => ?_) (fun c9 => absurd rfl c9)
      refine Ev.iconst (v := 0) dX4_readOrder_85 (by decide) ?_
      refine Ev.ist6 dX4_readOrder_86 rfl rfl ?_
      exact qb_qr (o_b88 H (hO0.bad H hp (by omega) (by omega))) rfl
set_option maxRecDepth 20000 in
theorem o_g34 {x5 x6 x7 x8 : Option Value} (hk : kd ≤ 4) (hq : qn ≤ 9999) (H : HCt a b h r n c t M) (hO : OnP a b h r w n c M X s p v) (hN : s.2.2.1 < 40) : Ev G mX4_readOrder 34 (ro9 a h (some (.int (nI sd))) (some (.int (nI kd))) (some (.int (nI qn))) x5 x6 x7 x8) [] X 0 0 (QR a b h r w n c M (ol2 c n s p sd kd qn)) := by
  have hO0 := hO
  obtain ⟨hF, hp, hv, hA, hN4, f2, g1, g2, g3⟩ := hO
  have hn := H.2.1
  have hT := H.2.2.2
  have hb := H.gb hF
  have k0 : nI kd = 0 ↔ kd = 0 := nI_eq (b := 0) (by omega) (by omega)
  refine Ev.ild3 dX4_readOrder_34 ?_
  refine Ev.if_eq (tgt := 58) dX4_readOrder_35 (by decide) (fun c35 => ?_) (fun c35 => ?_)
  · rw [ol2, if_pos (k0.mp c35)]
    refine Ev.iconst (v := 0) dX4_readOrder_58 (by decide) ?_
    refine Ev.ist5 dX4_readOrder_59 rfl rfl ?_
    exact o_g61 (pr := 0) hk hq H hO0 hN
  · rw [ol2, if_neg (fun z => c35 (k0.mpr z))]
    have hE1 := tkE_le (c := c) hp
    refine Ev.ald0 dX4_readOrder_38 ?_
    refine Ev.ldcs 8 (by decide) rfl dX4_readOrder_39 ?_
    refine Ev.cvI (Yc := mX4_passes) (ci := 4) dX4_readOrder_41 lX4_103 vX4_passes rfl (t_passes tw_at hA hb H.1.1 hn hp hT (by omega)) ?_ rfl rfl rfl rfl ?_
    · apply Exists.intro; repeat (first | assumption | (refine gt_upI ?_; (repeat (first | exact In_of (gt_nw (by assumption)) | (apply In_of; assumption) | refine In_up ?_ | refine In_nw ?_)); done) | refine gt_rd (by first | assumption | (apply Ne.symm; assumption) | (exact hj _ _ (by omega) (by omega) (by omega)) | omega) ?_ | exact gt_nw (by assumption) | refine gt_odr (by first | assumption | (apply Ne.symm; assumption) | omega) ?_)
    rintro y2 M2 hy2
    rcases hy2 with ⟨f1, rfl, v', hv', rfl⟩ | ⟨f1, rfl, rfl⟩
    · have hO2 := hO0.mv H hE1.2 hv'
      rw [wrd, if_pos f1]
      show Ev G _ _ _ _ _ _ _ (QR a b h r w n c M (ol2b c n s (tkE c n p) sd kd qn))
      rw [ol2b]
      refine Ev.if_eq (tgt := 58) dX4_readOrder_44 (by decide) (fun c9 => absurd c9 (by decide)) (fun _ => ?_)
      refine Ev.ald0 dX4_readOrder_47 ?_
      refine Ev.iconst (v := 1) dX4_readOrder_48 (by decide) ?_
      refine Ev.sipush (v := 999) dX4_readOrder_49 (by decide) ?_
      refine Ev.cvI (Yc := mX4_readWhole) (ci := 4) dX4_readOrder_52 lX4_86 vX4_readWhole rfl (t_readWhole hO2.2.2.2.1 (H.gb hO2.1) H.1.1 hn hE1.2 hT (by omega)) ?_ rfl rfl rfl rfl ?_
      · apply Exists.intro; repeat (first | assumption | (refine gt_upI ?_; (repeat (first | exact In_of (gt_nw (by assumption)) | (apply In_of; assumption) | refine In_up ?_ | refine In_nw ?_)); done) | refine gt_rd (by first | assumption | (apply Ne.symm; assumption) | (exact hj _ _ (by omega) (by omega) (by omega)) | omega) ?_ | exact gt_nw (by assumption) | refine gt_odr (by first | assumption | (apply Ne.symm; assumption) | omega) ?_)
      rintro y3 M3 ⟨hy3, v3, hv3, rfl⟩
      rw [hy3]
      clear hy3 y3
      rcases nmb_fW hv' hn hE1.2 (lo := 1) (hi := 999) (by omega) (by omega) with ⟨x, n1, n2, n3, n4, -, -⟩ | ⟨g, n1, n2, n3, n4⟩
      · subst n3
        rw [n1]
        have n2' : fW c n (tkE c n p) 0 (nI x) 1 999 = 0 := n2
        rw [n4] at hv3 ⊢
        refine Ev.goto (tgt := 59) dX4_readOrder_55 (by decide) ?_
        refine Ev.ist5 dX4_readOrder_59 rfl rfl ?_
        rw [n2']
        exact o_g61 hk hq H (hO2.mv H (tkE_le hE1.2).2 hv3) hN
      · rw [n1]
        have n2' : fW c n (tkE c n p) 0 v' 1 999 = g := n2
        rw [n2']
        refine Ev.goto (tgt := 59) dX4_readOrder_55 (by decide) ?_
        refine Ev.ist5 dX4_readOrder_59 rfl rfl ?_
        exact qb_qr (o_b61 H (hO2.bad H (xtE_le hE1.2).2 n3 n4)) rfl
    · rw [wrd, if_neg f1, if_pos rfl]
      have hA1 := tkA_le (c := c) hp
      refine Ev.if_eq (tgt := 58) dX4_readOrder_44 (by decide) (fun _ => ?_) (fun c9 => absurd rfl c9)
      refine Ev.iconst (v := 0) dX4_readOrder_58 (by decide) ?_
      refine Ev.ist5 dX4_readOrder_59 rfl rfl ?_
      exact qb_qr (o_b61 H (hO0.bad H hp (by omega) (by omega))) rfl
set_option maxRecDepth 20000 in
theorem t_readOrder (H : HCt a b h r n c t M) (hO : OnP a b h r w n c M X s s.1 v) (h4 : tkT c n s.1 ≠ 4) : CtV G mX4_readOrder [.ref a, .ref h, .int (nI sd)] X 0 0 (fun M' => Rsl a b h r w n c M (ol0 c n s sd) M') := by
  have hO0 := hO
  obtain ⟨hF, hp, hv, hA, hN4, f2, g1, g2, g3⟩ := hO
  have hn := H.2.1
  have hT := H.2.2.2
  have hb := H.gb hF
  have hA1 := tkA_le (c := c) hp
  have hE1 := tkE_le (c := c) hp
  have eE : xtE c n s.1 = tkE c n s.1 := xtE_E h4
  show Ct _ _ _ _ _ _ (QR a b h r w n c M (ol0 c n s sd))
  refine Ct.of (ls := [some (.ref a), some (.ref h), some (.int (nI sd)), none, none, none, none, none, none]) (by decide) (by decide) rfl rfl rfl ?_
  refine Ev.ald1 dX4_readOrder_0 ?_
  apply Ev.getf dX4_readOrder_1 fX4_83
  · repeat (first | assumption | (refine gt_upI ?_; (repeat (first | exact In_of (gt_nw (by assumption)) | (apply In_of; assumption) | refine In_up ?_ | refine In_nw ?_)); done) | refine gt_rd (by first | assumption | (apply Ne.symm; assumption) | (exact hj _ _ (by omega) (by omega) (by omega)) | omega) ?_ | exact gt_nw (by assumption) | refine gt_odr (by first | assumption | (apply Ne.symm; assumption) | omega) ?_)
  · first | rfl | assumption
  refine Ev.bipush (v := 40) dX4_readOrder_4 (by decide) ?_
  refine Ev.icmp_lt (tgt := 15) dX4_readOrder_6 (by decide) (fun c6 => ?_) (fun c6 => ?_)
  · have l6 : s.2.2.1 < 40 := (nI_ltI (b := 40) (by omega) (by omega)).mp c6
    rw [ol0, if_neg (by omega)]
    refine Ev.ald0 dX4_readOrder_15 ?_
    refine Ev.cvV (Yc := mX4_next) (ci := 4) dX4_readOrder_16 lX4_50 vX4_next rfl (t_next hA hb H.1.1 hn (xtE_le hp).2 hT) ?_ rfl rfl rfl rfl ?_
    · apply Exists.intro; repeat (first | assumption | (refine gt_upI ?_; (repeat (first | exact In_of (gt_nw (by assumption)) | (apply In_of; assumption) | refine In_up ?_ | refine In_nw ?_)); done) | refine gt_rd (by first | assumption | (apply Ne.symm; assumption) | (exact hj _ _ (by omega) (by omega) (by omega)) | omega) ?_ | exact gt_nw (by assumption) | refine gt_odr (by first | assumption | (apply Ne.symm; assumption) | omega) ?_)
    rintro M1 ⟨v1, hv1, rfl⟩
    rw [eE] at hv1 ⊢
    have hO1 := hO0.mv H hE1.2 hv1
    have hE2 := tkE_le (c := c) hE1.2
    refine Ev.ald0 dX4_readOrder_19 ?_
    refine Ev.cvI (Yc := mX4_readKind) (ci := 4) dX4_readOrder_20 lX4_97 vX4_readKind rfl (t_readKind hO1.2.2.2.1 (H.gb hO1.1) H.1.1 hn hE1.2 hT (by omega)) ?_ rfl rfl rfl rfl ?_
    · apply Exists.intro; repeat (first | assumption | (refine gt_upI ?_; (repeat (first | exact In_of (gt_nw (by assumption)) | (apply In_of; assumption) | refine In_up ?_ | refine In_nw ?_)); done) | refine gt_rd (by first | assumption | (apply Ne.symm; assumption) | (exact hj _ _ (by omega) (by omega) (by omega)) | omega) ?_ | exact gt_nw (by assumption) | refine gt_odr (by first | assumption | (apply Ne.symm; assumption) | omega) ?_)
    rintro y M2 hy
    rcases hy with ⟨kd, k1, k2, rfl, v2, hv2, rfl⟩ | ⟨k1, rfl, rfl⟩
    · rw [k1]
      show Ev G _ _ _ _ _ _ _ (QR a b h r w n c M (ol1 c n s (tkE c n (tkE c n s.1)) sd kd))
      rw [ol1]
      have hO2 := hO1.mv H hE2.2 hv2
      refine Ev.ist3 dX4_readOrder_23 rfl rfl ?_
      refine Ev.ald0 dX4_readOrder_24 ?_
      refine Ev.iconst (v := 1) dX4_readOrder_25 (by decide) ?_
      refine Ev.sipush (v := 9999) dX4_readOrder_26 (by decide) ?_
      refine Ev.cvI (Yc := mX4_readWhole) (ci := 4) dX4_readOrder_29 lX4_86 vX4_readWhole rfl (t_readWhole hO2.2.2.2.1 (H.gb hO2.1) H.1.1 hn hE2.2 hT (by omega)) ?_ rfl rfl rfl rfl ?_
      · apply Exists.intro; repeat (first | assumption | (refine gt_upI ?_; (repeat (first | exact In_of (gt_nw (by assumption)) | (apply In_of; assumption) | refine In_up ?_ | refine In_nw ?_)); done) | refine gt_rd (by first | assumption | (apply Ne.symm; assumption) | (exact hj _ _ (by omega) (by omega) (by omega)) | omega) ?_ | exact gt_nw (by assumption) | refine gt_odr (by first | assumption | (apply Ne.symm; assumption) | omega) ?_)
      rintro y3 M3 ⟨hy3, v3, hv3, rfl⟩
      rw [hy3]
      clear hy3 y3
      rcases nmb_fW hv2 hn hE2.2 (lo := 1) (hi := 9999) (by omega) (by omega) with ⟨x, n1, n2, n3, n4, -, n5⟩ | ⟨g, n1, n2, n3, n4⟩
      · subst n3
        rw [n1]
        have n2' : fW c n (tkE c n (tkE c n s.1)) 0 (nI x) 1 9999 = 0 := n2
        rw [n4] at hv3 ⊢
        refine Ev.ist4 dX4_readOrder_32 rfl rfl ?_
        rw [n2']
        exact o_g34 k2 n5 H (hO2.mv H (tkE_le hE2.2).2 hv3) l6
      · rw [n1]
        have n2' : fW c n (tkE c n (tkE c n s.1)) 0 v2 1 9999 = g := n2
        rw [n2']
        refine Ev.ist4 dX4_readOrder_32 rfl rfl ?_
        exact qb_qr (o_b34 H (hO2.bad H (xtE_le hE2.2).2 n3 n4)) rfl
    · rw [k1, if_pos rfl]
      have hA2 := tkA_le (c := c) hE1.2
      refine Ev.ist3 dX4_readOrder_23 rfl rfl ?_
      exact qb_qr (o_b24 H (hO1.bad H hE1.2 (by omega) (by omega))) rfl
  · have l6 : s.2.2.1 = 40 := by
      have : ¬ s.2.2.1 < 40 := fun z => c6 ((nI_ltI (b := 40) (by omega) (by omega)).mpr z)
      omega
    rw [ol0, if_pos l6]
    refine Ev.ald0 dX4_readOrder_9 ?_
    refine Ev.iconst (v := 4) dX4_readOrder_10 (by decide) ?_
    refine Ev.cvV (Yc := mX4_fail) (ci := 4) dX4_readOrder_11 lX4_57 vX4_fail rfl (t_fail 4 rfl (by omega) (by omega) hn hp (by omega) hA) ?_ rfl rfl rfl rfl ?_
    · apply Exists.intro; repeat (first | assumption | (refine gt_upI ?_; (repeat (first | exact In_of (gt_nw (by assumption)) | (apply In_of; assumption) | refine In_up ?_ | refine In_nw ?_)); done) | refine gt_rd (by first | assumption | (apply Ne.symm; assumption) | (exact hj _ _ (by omega) (by omega) (by omega)) | omega) ?_ | exact gt_nw (by assumption) | refine gt_odr (by first | assumption | (apply Ne.symm; assumption) | omega) ?_)
    rintro M1 rfl
    rw [if_pos rfl]
    refine Ev.vret dX4_readOrder_14 rfl ?_
    exact ⟨rfl, hO0.bad H hp (by omega) (by omega)⟩
end ROG
