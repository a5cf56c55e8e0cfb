/-! the law's cases that may throw -/
section LWB
variable {G : GP} {q a : Nat → Nat} {na o i k kr nr : Nat} {S : Sg} {M : Wd} {Q : Option Value → Wd → Prop}
set_option maxRecDepth 20000 in
theorem lc_curve (hst : G.1.stackTraces = false) (h : LI q na a o S S k M) (hi : i + 8 ≤ gL G) (hL : gL G ≤ 4096) (hk : k < 100000) (K : LK G q a o i k kr nr Q) : Ev G mL_law 580 [some (.ref (gb G)), some (.ref (q 0)), some (.ref (a 0)), some (.ref o), some (.int (nI i)), none, none] [] M (kr + 573) (nr + 3438) Q := by
  obtain ⟨f0, ho⟩ := h.2.2.2.1
  have hoq := h.2.2.2.2.1
  refine Ev.ald1 dL_law_580 ?_
  refine Ev.ald0 dL_law_581 ?_
  refine Ev.ild4 dL_law_582 ?_
  refine Ev.iconst (v := 1) dL_law_584 (by decide) ?_
  refine Ev.iadd dL_law_585 ?_
  refine Ev.scl (n := i + 1) dL_law_586 (sx 1) (by omega) hL ?_
  refine Ev.ald0 dL_law_587 ?_
  refine Ev.ild4 dL_law_588 ?_
  refine Ev.iconst (v := 2) dL_law_590 (by decide) ?_
  refine Ev.iadd dL_law_591 ?_
  refine Ev.scl (n := i + 2) dL_law_592 (sx 2) (by omega) hL ?_
  refine Ev.ald3 dL_law_593 ?_
  refine Ev.csH (Yc := mL_curve) (n := 4) dL_law_594 lL_82 hL_curve rfl (h_curve hst h.1 h.inv.1 ho hoq) rfl rfl rfl (by omega) (by omega) ?_
  rintro x M1 hQ9
  have hmid : ∃ (z : Int32) (q1 : Nat → Nat) (n1 : Nat), x = some (.int z) ∧ q1 0 = q 0 ∧ LI q1 n1 a o S S (k + 1) M1 ∧ (((1 ≤ gX G (i + 1) ∧ gX G (i + 1) ≤ 999) ∧ (0 ≤ gX G (i + 2) ∧ gX G (i + 2) ≤ 5)) ∧ z = 0 ∧ (∃ f, gt M1 o = some (la 1 f) ∧ f 0 = (an_curve S (gX G (i + 1)) (gX G (i + 2))).toInt64) ∨ ¬ ((1 ≤ gX G (i + 1) ∧ gX G (i + 1) ≤ 999) ∧ (0 ≤ gX G (i + 2) ∧ gX G (i + 2) ≤ 5)) ∧ z = 1) := by
    rcases hQ9 with ⟨ok, rfl, W1, hK, rfl⟩ | ⟨nok, rfl, hK⟩
    · obtain ⟨q1, n1, e1, h1⟩ := h.cls hK h.inv.up
      obtain ⟨f1, ho1⟩ := h1.2.2.2.1
      exact ⟨0, q1, n1, rfl, e1, h1.out, Or.inl ⟨ok, rfl, _, gt_up ho1, rfl⟩⟩
    · obtain ⟨q1, n1, e1, h1⟩ := h.cls hK h.inv.up
      exact ⟨1, q1, n1, rfl, e1, h1, Or.inr ⟨nok, rfl⟩⟩
  clear hQ9 ho
  obtain ⟨z, q1, n1, rfl, e1, h1, hz⟩ := hmid
  refine Ev.ist5 dL_law_597 rfl rfl ?_
  obtain ⟨v, L, X, hZ, hR⟩ := h1.mz
  refine Ev.ald2 dL_law_599 ?_
  refine Ev.ald0 dL_law_600 ?_
  refine Ev.ild4 dL_law_601 ?_
  refine Ev.iconst (v := 1) dL_law_603 (by decide) ?_
  refine Ev.iadd dL_law_604 ?_
  refine Ev.scl (n := i + 1) dL_law_605 (sx 1) (by omega) hL ?_
  refine Ev.ald0 dL_law_606 ?_
  refine Ev.ild4 dL_law_607 ?_
  refine Ev.iconst (v := 2) dL_law_609 (by decide) ?_
  refine Ev.iadd dL_law_610 ?_
  refine Ev.scl (n := i + 2) dL_law_611 (sx 2) (by omega) hL ?_
  refine Ev.cvI (Yc := mX6_curve) (n := 2) dL_law_612 lL_87 vX6_curve rfl (m_curve h.inv.1 hR hZ) ⟨_, hZ.2.1.1⟩ rfl rfl rfl rfl ?_
  rintro y M2 ⟨v', X', hZ', hR', hy⟩
  have h2 := h1.ref hZ' hR'
  have ho2 : ∀ f, gt M1 o = some (la 1 f) → gt M2 o = some (la 1 f) := fun f hf => hZ'.2.2 _ h1.2.2.2.2.2.1 _ hf
  refine Ev.ist6 dL_law_615 rfl rfl ?_
  refine Ev.ald2 dL_law_617 ?_
  refine Ev.cvI (Yc := mX6_thrown) (n := 0) dL_law_618 lL_88 vX6_thrown rfl (m_thrown hZ') ⟨_, hZ'.2.1.1⟩ rfl rfl rfl rfl ?_
  rintro w M3 ⟨rfl, rfl⟩
  refine Ev.ild5 dL_law_621 ?_
  rcases hz with ⟨ok, rfl, f, hf, hfx⟩ | ⟨nok, rfl⟩
  · rcases hy with ⟨-, v0, rfl⟩ | ⟨nok, -⟩
    · refine Ev.icmp_eq (tgt := 628) dL_law_623 (by decide) (fun _ => ?_) (fun c => absurd v0 c)
      refine Ev.ild5 dL_law_628 ?_
      refine Ev.if_ne (tgt := 645) dL_law_630 (by decide) (fun c => absurd rfl c) (fun _ => ?_)
      refine Ev.ald3 dL_law_633 ?_
      refine Ev.iconst (v := 0) dL_law_634 (by decide) ?_
      refine Ev.lald (n := 1) (x := 0) dL_law_635 (ho2 f hf) (nI_in (c := 0) (by decide) (by decide)) ?_
      refine Ev.ild6 dL_law_636 ?_
      refine Ev.i2l dL_law_638 ?_
      refine Ev.lcmp dL_law_639 ?_
      refine Ev.if_eq (tgt := 645) dL_law_640 (by decide) (fun _ => ?_) (fun c => absurd (by rw [show f (0 : Int32).toNatClampNeg = f 0 from rfl, hfx]; exact lc_0) c)
      refine Ev.goto (tgt := 1226) dL_law_645 (by decide) ?_
      exact Ev.fg2 ((K q1 n1 S _ e1 h2).more (by omega) (by omega))
    · exact absurd ok nok
  · rcases hy with ⟨ok, -⟩ | ⟨-, v0⟩
    · exact absurd ok nok
    · refine Ev.icmp_eq (tgt := 628) dL_law_623 (by decide) (fun _ => ?_) (fun c => absurd v0 c)
      refine Ev.ild5 dL_law_628 ?_
      refine Ev.if_ne (tgt := 645) dL_law_630 (by decide) (fun _ => ?_) (fun c => absurd c (by decide))
      refine Ev.goto (tgt := 1226) dL_law_645 (by decide) ?_
      exact Ev.fg2 ((K q1 n1 S _ e1 h2).more (by omega) (by omega))
set_option maxRecDepth 20000 in
theorem lc_crossed (hst : G.1.stackTraces = false) (h : LI q na a o S S k M) (hi : i + 8 ≤ gL G) (hL : gL G ≤ 4096) (hk : k < 100000) (K : LK G q a o i k kr nr Q) : Ev G mL_law 648 [some (.ref (gb G)), some (.ref (q 0)), some (.ref (a 0)), some (.ref o), some (.int (nI i)), none, none] [] M (kr + 573) (nr + 3438) Q := by
  obtain ⟨f0, ho⟩ := h.2.2.2.1
  have hoq := h.2.2.2.2.1
  refine Ev.ald1 dL_law_648 ?_
  refine Ev.ald0 dL_law_649 ?_
  refine Ev.ild4 dL_law_650 ?_
  refine Ev.iconst (v := 1) dL_law_652 (by decide) ?_
  refine Ev.iadd dL_law_653 ?_
  refine Ev.scl (n := i + 1) dL_law_654 (sx 1) (by omega) hL ?_
  refine Ev.ald3 dL_law_655 ?_
  refine Ev.csH (Yc := mL_crossed) (n := 3) dL_law_656 lL_91 hL_crossed rfl (h_crossed hst h.1 h.inv.1 ho hoq) rfl rfl rfl (by omega) (by omega) ?_
  rintro x M1 hQ9
  have hmid : ∃ (z : Int32) (q1 : Nat → Nat) (n1 : Nat), x = some (.int z) ∧ q1 0 = q 0 ∧ LI q1 n1 a o S S (k + 1) M1 ∧ ((0 ≤ gX G (i + 1) ∧ gX G (i + 1) ≤ 6) ∧ z = 0 ∧ (∃ f, gt M1 o = some (la 1 f) ∧ f 0 = (an_crossed S (gX G (i + 1))).toInt64) ∨ ¬ (0 ≤ gX G (i + 1) ∧ gX G (i + 1) ≤ 6) ∧ z = 1) := by
    rcases hQ9 with ⟨ok, rfl, W1, hK, rfl⟩ | ⟨nok, rfl, hK⟩
    · obtain ⟨q1, n1, e1, h1⟩ := h.cls hK h.inv.up
      obtain ⟨f1, ho1⟩ := h1.2.2.2.1
      exact ⟨0, q1, n1, rfl, e1, h1.out, Or.inl ⟨ok, rfl, _, gt_up ho1, rfl⟩⟩
    · obtain ⟨q1, n1, e1, h1⟩ := h.cls hK h.inv.up
      exact ⟨1, q1, n1, rfl, e1, h1, Or.inr ⟨nok, rfl⟩⟩
  clear hQ9 ho
  obtain ⟨z, q1, n1, rfl, e1, h1, hz⟩ := hmid
  refine Ev.ist5 dL_law_659 rfl rfl ?_
  obtain ⟨v, L, X, hZ, hR⟩ := h1.mz
  refine Ev.ald2 dL_law_661 ?_
  refine Ev.ald0 dL_law_662 ?_
  refine Ev.ild4 dL_law_663 ?_
  refine Ev.iconst (v := 1) dL_law_665 (by decide) ?_
  refine Ev.iadd dL_law_666 ?_
  refine Ev.scl (n := i + 1) dL_law_667 (sx 1) (by omega) hL ?_
  refine Ev.cvI (Yc := mX6_crossed) (n := 1) dL_law_668 lL_94 vX6_crossed rfl (m_crossed h.inv.1 hR hZ) ⟨_, hZ.2.1.1⟩ rfl rfl rfl rfl ?_
  rintro y M2 ⟨v', X', hZ', hR', hy⟩
  have h2 := h1.ref hZ' hR'
  have ho2 : ∀ f, gt M1 o = some (la 1 f) → gt M2 o = some (la 1 f) := fun f hf => hZ'.2.2 _ h1.2.2.2.2.2.1 _ hf
  refine Ev.ist6 dL_law_671 rfl rfl ?_
  refine Ev.ald2 dL_law_673 ?_
  refine Ev.cvI (Yc := mX6_thrown) (n := 0) dL_law_674 lL_88 vX6_thrown rfl (m_thrown hZ') ⟨_, hZ'.2.1.1⟩ rfl rfl rfl rfl ?_
  rintro w M3 ⟨rfl, rfl⟩
  refine Ev.ild5 dL_law_677 ?_
  rcases hz with ⟨ok, rfl, f, hf, hfx⟩ | ⟨nok, rfl⟩
  · rcases hy with ⟨-, v0, rfl⟩ | ⟨nok, -⟩
    · refine Ev.icmp_eq (tgt := 684) dL_law_679 (by decide) (fun _ => ?_) (fun c => absurd v0 c)
      refine Ev.ild5 dL_law_684 ?_
      refine Ev.if_ne (tgt := 701) dL_law_686 (by decide) (fun c => absurd rfl c) (fun _ => ?_)
      refine Ev.ald3 dL_law_689 ?_
      refine Ev.iconst (v := 0) dL_law_690 (by decide) ?_
      refine Ev.lald (n := 1) (x := 0) dL_law_691 (ho2 f hf) (nI_in (c := 0) (by decide) (by decide)) ?_
      refine Ev.ild6 dL_law_692 ?_
      refine Ev.i2l dL_law_694 ?_
      refine Ev.lcmp dL_law_695 ?_
      refine Ev.if_eq (tgt := 701) dL_law_696 (by decide) (fun _ => ?_) (fun c => absurd (by rw [show f (0 : Int32).toNatClampNeg = f 0 from rfl, hfx]; exact lc_0) c)
      refine Ev.goto (tgt := 1226) dL_law_701 (by decide) ?_
      exact Ev.fg2 ((K q1 n1 S _ e1 h2).more (by omega) (by omega))
    · exact absurd ok nok
  · rcases hy with ⟨ok, -⟩ | ⟨-, v0⟩
    · exact absurd ok nok
    · refine Ev.icmp_eq (tgt := 684) dL_law_679 (by decide) (fun _ => ?_) (fun c => absurd v0 c)
      refine Ev.ild5 dL_law_684 ?_
      refine Ev.if_ne (tgt := 701) dL_law_686 (by decide) (fun _ => ?_) (fun c => absurd c (by decide))
      refine Ev.goto (tgt := 1226) dL_law_701 (by decide) ?_
      exact Ev.fg2 ((K q1 n1 S _ e1 h2).more (by omega) (by omega))
set_option maxRecDepth 20000 in
theorem lc_notice (hst : G.1.stackTraces = false) (h : LI q na a o S S k M) (hi : i + 8 ≤ gL G) (hL : gL G ≤ 4096) (hk : k < 100000) (K : LK G q a o i k kr nr Q) : Ev G mL_law 827 [some (.ref (gb G)), some (.ref (q 0)), some (.ref (a 0)), some (.ref o), some (.int (nI i)), none, none] [] M (kr + 573) (nr + 3438) Q := by
  obtain ⟨f0, ho⟩ := h.2.2.2.1
  have hoq := h.2.2.2.2.1
  refine Ev.ald1 dL_law_827 ?_
  refine Ev.ald0 dL_law_828 ?_
  refine Ev.ild4 dL_law_829 ?_
  refine Ev.iconst (v := 1) dL_law_831 (by decide) ?_
  refine Ev.iadd dL_law_832 ?_
  refine Ev.scl (n := i + 1) dL_law_833 (sx 1) (by omega) hL ?_
  refine Ev.ald3 dL_law_834 ?_
  refine Ev.csH (Yc := mL_notice) (n := 3) dL_law_835 lL_108 hL_notice rfl (h_notice hst h.1 h.inv.1 ho hoq) rfl rfl rfl (by omega) (by omega) ?_
  rintro x M1 hQ9
  have hmid : ∃ (z : Int32) (q1 : Nat → Nat) (n1 : Nat), x = some (.int z) ∧ q1 0 = q 0 ∧ LI q1 n1 a o S S (k + 1) M1 ∧ (((0 ≤ gX G (i + 1) ∧ gX G (i + 1) ≤ 3) ∨ gX G (i + 1) = 6) ∧ z = 0 ∧ (∃ f, gt M1 o = some (la 1 f) ∧ f 0 = (an_notice S (gX G (i + 1))).toInt64) ∨ ¬ ((0 ≤ gX G (i + 1) ∧ gX G (i + 1) ≤ 3) ∨ gX G (i + 1) = 6) ∧ z = 1) := by
    rcases hQ9 with ⟨ok, rfl, W1, hK, rfl⟩ | ⟨nok, rfl, hK⟩
    · obtain ⟨q1, n1, e1, h1⟩ := h.cls hK h.inv.up
      obtain ⟨f1, ho1⟩ := h1.2.2.2.1
      exact ⟨0, q1, n1, rfl, e1, h1.out, Or.inl ⟨ok, rfl, _, gt_up ho1, rfl⟩⟩
    · obtain ⟨q1, n1, e1, h1⟩ := h.cls hK h.inv.up
      exact ⟨1, q1, n1, rfl, e1, h1, Or.inr ⟨nok, rfl⟩⟩
  clear hQ9 ho
  obtain ⟨z, q1, n1, rfl, e1, h1, hz⟩ := hmid
  refine Ev.ist5 dL_law_838 rfl rfl ?_
  obtain ⟨v, L, X, hZ, hR⟩ := h1.mz
  refine Ev.ald2 dL_law_840 ?_
  refine Ev.ald0 dL_law_841 ?_
  refine Ev.ild4 dL_law_842 ?_
  refine Ev.iconst (v := 1) dL_law_844 (by decide) ?_
  refine Ev.iadd dL_law_845 ?_
  refine Ev.scl (n := i + 1) dL_law_846 (sx 1) (by omega) hL ?_
  refine Ev.cvI (Yc := mX6_notice) (n := 1) dL_law_847 lL_110 vX6_notice rfl (m_notice h.inv.1 hR hZ) ⟨_, hZ.2.1.1⟩ rfl rfl rfl rfl ?_
  rintro y M2 ⟨v', X', hZ', hR', hy⟩
  have h2 := h1.ref hZ' hR'
  have ho2 : ∀ f, gt M1 o = some (la 1 f) → gt M2 o = some (la 1 f) := fun f hf => hZ'.2.2 _ h1.2.2.2.2.2.1 _ hf
  refine Ev.ist6 dL_law_850 rfl rfl ?_
  refine Ev.ald2 dL_law_852 ?_
  refine Ev.cvI (Yc := mX6_thrown) (n := 0) dL_law_853 lL_88 vX6_thrown rfl (m_thrown hZ') ⟨_, hZ'.2.1.1⟩ rfl rfl rfl rfl ?_
  rintro w M3 ⟨rfl, rfl⟩
  refine Ev.ild5 dL_law_856 ?_
  rcases hz with ⟨ok, rfl, f, hf, hfx⟩ | ⟨nok, rfl⟩
  · rcases hy with ⟨-, v0, rfl⟩ | ⟨nok, -⟩
    · refine Ev.icmp_eq (tgt := 863) dL_law_858 (by decide) (fun _ => ?_) (fun c => absurd v0 c)
      refine Ev.ild5 dL_law_863 ?_
      refine Ev.if_ne (tgt := 880) dL_law_865 (by decide) (fun c => absurd rfl c) (fun _ => ?_)
      refine Ev.ald3 dL_law_868 ?_
      refine Ev.iconst (v := 0) dL_law_869 (by decide) ?_
      refine Ev.lald (n := 1) (x := 0) dL_law_870 (ho2 f hf) (nI_in (c := 0) (by decide) (by decide)) ?_
      refine Ev.ild6 dL_law_871 ?_
      refine Ev.i2l dL_law_873 ?_
      refine Ev.lcmp dL_law_874 ?_
      refine Ev.if_eq (tgt := 880) dL_law_875 (by decide) (fun _ => ?_) (fun c => absurd (by rw [show f (0 : Int32).toNatClampNeg = f 0 from rfl, hfx]; exact lc_0) c)
      refine Ev.goto (tgt := 1226) dL_law_880 (by decide) ?_
      exact Ev.fg2 ((K q1 n1 S _ e1 h2).more (by omega) (by omega))
    · exact absurd ok nok
  · rcases hy with ⟨ok, -⟩ | ⟨-, v0⟩
    · exact absurd ok nok
    · refine Ev.icmp_eq (tgt := 863) dL_law_858 (by decide) (fun _ => ?_) (fun c => absurd v0 c)
      refine Ev.ild5 dL_law_863 ?_
      refine Ev.if_ne (tgt := 880) dL_law_865 (by decide) (fun _ => ?_) (fun c => absurd c (by decide))
      refine Ev.goto (tgt := 1226) dL_law_880 (by decide) ?_
      exact Ev.fg2 ((K q1 n1 S _ e1 h2).more (by omega) (by omega))
set_option maxRecDepth 20000 in
theorem lc_past (hst : G.1.stackTraces = false) (h : LI q na a o S S k M) (hi : i + 8 ≤ gL G) (hL : gL G ≤ 4096) (hk : k < 100000) (K : LK G q a o i k kr nr Q) : Ev G mL_law 1069 [some (.ref (gb G)), some (.ref (q 0)), some (.ref (a 0)), some (.ref o), some (.int (nI i)), none, none] [] M (kr + 573) (nr + 3438) Q := by
  obtain ⟨f0, ho⟩ := h.2.2.2.1
  have hoq := h.2.2.2.2.1
  refine Ev.ald1 dL_law_1069 ?_
  refine Ev.ald0 dL_law_1070 ?_
  refine Ev.ild4 dL_law_1071 ?_
  refine Ev.iconst (v := 1) dL_law_1073 (by decide) ?_
  refine Ev.iadd dL_law_1074 ?_
  refine Ev.scl (n := i + 1) dL_law_1075 (sx 1) (by omega) hL ?_
  refine Ev.ald0 dL_law_1076 ?_
  refine Ev.ild4 dL_law_1077 ?_
  refine Ev.iconst (v := 2) dL_law_1079 (by decide) ?_
  refine Ev.iadd dL_law_1080 ?_
  refine Ev.scl (n := i + 2) dL_law_1081 (sx 2) (by omega) hL ?_
  refine Ev.ald3 dL_law_1082 ?_
  refine Ev.csH (Yc := mL_past) (n := 4) dL_law_1083 lL_133 hL_past rfl (h_past hst h.1 (by have := h.inv.2.2.2; omega) ho hoq) rfl rfl rfl (by omega) (by omega) ?_
  rintro x M1 hQ9
  have hmid : ∃ (z : Int32) (q1 : Nat → Nat) (n1 : Nat), x = some (.int z) ∧ q1 0 = q 0 ∧ LI q1 n1 a o S S (k + 1) M1 ∧ (pok S (gX G (i + 1)) (gX G (i + 2)) ∧ z = 0 ∧ (∃ f, gt M1 o = some (la 1 f) ∧ f 0 = (an_past S (gX G (i + 1)) (gX G (i + 2))).toInt64) ∨ ¬ pok S (gX G (i + 1)) (gX G (i + 2)) ∧ z = 1) := by
    rcases hQ9 with ⟨ok, rfl, W1, hK, rfl⟩ | ⟨nok, rfl, hK⟩
    · obtain ⟨q1, n1, e1, h1⟩ := h.cls hK h.inv.up
      obtain ⟨f1, ho1⟩ := h1.2.2.2.1
      exact ⟨0, q1, n1, rfl, e1, h1.out, Or.inl ⟨ok, rfl, _, gt_up ho1, rfl⟩⟩
    · obtain ⟨q1, n1, e1, h1⟩ := h.cls hK h.inv.up
      exact ⟨1, q1, n1, rfl, e1, h1, Or.inr ⟨nok, rfl⟩⟩
  clear hQ9 ho
  obtain ⟨z, q1, n1, rfl, e1, h1, hz⟩ := hmid
  refine Ev.ist5 dL_law_1086 rfl rfl ?_
  obtain ⟨v, L, X, hZ, hR⟩ := h1.mz
  refine Ev.ald2 dL_law_1088 ?_
  refine Ev.ald0 dL_law_1089 ?_
  refine Ev.ild4 dL_law_1090 ?_
  refine Ev.iconst (v := 1) dL_law_1092 (by decide) ?_
  refine Ev.iadd dL_law_1093 ?_
  refine Ev.scl (n := i + 1) dL_law_1094 (sx 1) (by omega) hL ?_
  refine Ev.ald0 dL_law_1095 ?_
  refine Ev.ild4 dL_law_1096 ?_
  refine Ev.iconst (v := 2) dL_law_1098 (by decide) ?_
  refine Ev.iadd dL_law_1099 ?_
  refine Ev.scl (n := i + 2) dL_law_1100 (sx 2) (by omega) hL ?_
  refine Ev.cvI (Yc := mX6_past) (n := 2) dL_law_1101 lL_135 vX6_past rfl (m_past h.inv.1 hR hZ) ⟨_, hZ.2.1.1⟩ rfl rfl rfl rfl ?_
  rintro y M2 ⟨v', X', hZ', hR', hy⟩
  have h2 := h1.ref hZ' hR'
  have ho2 : ∀ f, gt M1 o = some (la 1 f) → gt M2 o = some (la 1 f) := fun f hf => hZ'.2.2 _ h1.2.2.2.2.2.1 _ hf
  refine Ev.ist6 dL_law_1104 rfl rfl ?_
  refine Ev.ald2 dL_law_1106 ?_
  refine Ev.cvI (Yc := mX6_thrown) (n := 0) dL_law_1107 lL_88 vX6_thrown rfl (m_thrown hZ') ⟨_, hZ'.2.1.1⟩ rfl rfl rfl rfl ?_
  rintro w M3 ⟨rfl, rfl⟩
  refine Ev.ild5 dL_law_1110 ?_
  rcases hz with ⟨ok, rfl, f, hf, hfx⟩ | ⟨nok, rfl⟩
  · rcases hy with ⟨-, v0, rfl⟩ | ⟨nok, -⟩
    · refine Ev.icmp_eq (tgt := 1117) dL_law_1112 (by decide) (fun _ => ?_) (fun c => absurd v0 c)
      refine Ev.ild5 dL_law_1117 ?_
      refine Ev.if_ne (tgt := 1134) dL_law_1119 (by decide) (fun c => absurd rfl c) (fun _ => ?_)
      refine Ev.ald3 dL_law_1122 ?_
      refine Ev.iconst (v := 0) dL_law_1123 (by decide) ?_
      refine Ev.lald (n := 1) (x := 0) dL_law_1124 (ho2 f hf) (nI_in (c := 0) (by decide) (by decide)) ?_
      refine Ev.ild6 dL_law_1125 ?_
      refine Ev.i2l dL_law_1127 ?_
      refine Ev.lcmp dL_law_1128 ?_
      refine Ev.if_eq (tgt := 1134) dL_law_1129 (by decide) (fun _ => ?_) (fun c => absurd (by rw [show f (0 : Int32).toNatClampNeg = f 0 from rfl, hfx]; exact lc_0) c)
      refine Ev.goto (tgt := 1226) dL_law_1134 (by decide) ?_
      exact Ev.fg2 ((K q1 n1 S _ e1 h2).more (by omega) (by omega))
    · exact absurd ok nok
  · rcases hy with ⟨ok, -⟩ | ⟨-, v0⟩
    · exact absurd ok nok
    · refine Ev.icmp_eq (tgt := 1117) dL_law_1112 (by decide) (fun _ => ?_) (fun c => absurd v0 c)
      refine Ev.ild5 dL_law_1117 ?_
      refine Ev.if_ne (tgt := 1134) dL_law_1119 (by decide) (fun _ => ?_) (fun c => absurd c (by decide))
      refine Ev.goto (tgt := 1226) dL_law_1134 (by decide) ?_
      exact Ev.fg2 ((K q1 n1 S _ e1 h2).more (by omega) (by omega))
end LWB
