/-! the law's loop -/
theorem lp_cmp {L i : Nat} (hL : L ≤ 4096) (hi : i ≤ 8192) : (nI L - 8 < nI i) ↔ L < i + 8 := by
  by_cases c : 8 ≤ L
  · rw [show (8 : Int32) = nI 8 from rfl, nI_subI c, nI_ltI (by omega) (by omega)]
    omega
  · refine ⟨fun _ => by omega, fun _ => ?_⟩
    have h0 : nI L - 8 < 0 := by
      have : L = 0 ∨ L = 1 ∨ L = 2 ∨ L = 3 ∨ L = 4 ∨ L = 5 ∨ L = 6 ∨ L = 7 := by omega
      rcases this with rfl | rfl | rfl | rfl | rfl | rfl | rfl | rfl <;> decide
    have h1 : ¬ nI i < 0 := nI_pos (by omega)
    rw [Int32.lt_iff_toInt_lt] at h0 h1 ⊢
    omega
section LOP
variable {G : GP} {a : Nat → Nat} {o : Nat} {Q : Option Value → Wd → Prop}
set_option maxRecDepth 20000 in
theorem lw_lp (hst : G.1.stackTraces = false) (hL : gL G ≤ 4096) (hQ : ∀ M', Q (some (.int 1)) M') : ∀ (m i k : Nat) (q : Nat → Nat) (na : Nat) (S : Sg) (M : Wd), gL G < i + 8 * m + 8 → i ≤ 4104 → k + m ≤ 1000 → LI q na a o S S k M → Ev G mL_law 23 [some (.ref (gb G)), some (.ref (q 0)), some (.ref (a 0)), some (.ref o), some (.int (nI i)), none, none] [] M (573 * m) (3438 * m) Q := by
  intro m
  induction m with
  | zero =>
    intro i k q na S M hm hi hk h
    refine Ev.ild4 dL_law_23 ?_
    refine Ev.ald0 dL_law_25 ?_
    refine Ev.sln dL_law_26 ?_
    refine Ev.bipush (v := 8) dL_law_27 (by decide) ?_
    refine Ev.isub dL_law_29 ?_
    refine Ev.icmp_gt (tgt := 1232) dL_law_30 (by decide) (fun _ => ?_) (fun c => absurd ((lp_cmp hL (by omega)).mpr (by omega)) c)
    refine Ev.iconst (v := 1) dL_law_1232 (by decide) ?_
    exact Ev.iret dL_law_1233 rfl rfl (hQ M)
  | succ m ih =>
    intro i k q na S M hm hi hk h
    refine Ev.ild4 dL_law_23 ?_
    refine Ev.ald0 dL_law_25 ?_
    refine Ev.sln dL_law_26 ?_
    refine Ev.bipush (v := 8) dL_law_27 (by decide) ?_
    refine Ev.isub dL_law_29 ?_
    refine Ev.icmp_gt (tgt := 1232) dL_law_30 (by decide) (fun _ => ?_) (fun c => ?_)
    · refine Ev.iconst (v := 1) dL_law_1232 (by decide) ?_
      exact Ev.iret dL_law_1233 rfl rfl (hQ M)
    · have hi8 : i + 8 ≤ gL G := by
        have c9 : ¬ gL G < i + 8 := fun z => c ((lp_cmp hL (by omega)).mpr z)
        omega
      have K : LK G q a o i k (573 * m) (3438 * m) Q := fun q' na' S' M' e h' => by
        refine Ev.iinc4 dL_law_1226 rfl rfl (sx 8) ?_
        refine Ev.goto (tgt := 23) dL_law_1229 (by decide) ?_
        have := ih (i + 8) (k + 1) q' na' S' M' (by omega) (by omega) (by omega) h'
        rw [e] at this
        exact this
      have hk9 : k < 100000 := by omega
      rw [show 573 * (m + 1) = 573 * m + 573 by omega, show 3438 * (m + 1) = 3438 * m + 3438 by omega]
      refine Ev.ald0 dL_law_33 ?_
      refine Ev.ild4 dL_law_34 ?_
      refine Ev.scl (n := i) dL_law_36 rfl (by omega) hL ?_
      refine Ev.bipush (v := 31) dL_law_37 (by decide) ?_
      refine Ev.iand dL_law_39 ?_
      obtain ⟨j, j1, j2⟩ := pk_andE (gX G i) (m := 31) 5 (by decide)
      rw [j2]
      clear j2
      have jc : j = 0 ∨ j = 1 ∨ j = 2 ∨ j = 3 ∨ j = 4 ∨ j = 5 ∨ j = 6 ∨ j = 7 ∨ j = 8 ∨ j = 9 ∨ j = 10 ∨ j = 11 ∨ j = 12 ∨ j = 13 ∨ j = 14 ∨ j = 15 ∨ j = 16 ∨ j = 17 ∨ j = 18 ∨ j = 19 ∨ j = 20 ∨ j = 21 ∨ j = 22 ∨ j = 23 ∨ j = 24 ∨ j = 25 ∨ j = 26 ∨ j = 27 ∨ j = 28 ∨ j = 29 ∨ j = 30 ∨ j = 31 := by omega
      rcases jc with rfl | rfl | rfl | rfl | rfl | rfl | rfl | rfl | rfl | rfl | rfl | rfl | rfl | rfl | rfl | rfl | rfl | rfl | rfl | rfl | rfl | rfl | rfl | rfl | rfl | rfl | rfl | rfl | rfl | rfl | rfl | rfl
      · refine Ev.tin (off := 128) (tgt := 168) dL_law_40 (by decide) (by decide) rfl (by decide) ?_
        exact lc_feed h hi8 hL hk9 K
      · refine Ev.tin (off := 201) (tgt := 241) dL_law_40 (by decide) (by decide) rfl (by decide) ?_
        exact lc_text h hi8 hL hk9 K
      · refine Ev.tin (off := 226) (tgt := 266) dL_law_40 (by decide) (by decide) rfl (by decide) ?_
        exact lc_told h hi8 hL hk9 K
      · refine Ev.tin (off := 327) (tgt := 367) dL_law_40 (by decide) (by decide) rfl (by decide) ?_
        exact lc_gone h hi8 hL hk9 K
      · refine Ev.tin (off := 352) (tgt := 392) dL_law_40 (by decide) (by decide) rfl (by decide) ?_
        exact lc_less h hi8 hL hk9 K
      · refine Ev.tin (off := 389) (tgt := 429) dL_law_40 (by decide) (by decide) rfl (by decide) ?_
        exact lc_freeze h hi8 hL hk9 K
      · refine Ev.tin (off := 402) (tgt := 442) dL_law_40 (by decide) (by decide) rfl (by decide) ?_
        exact lc_cross h hi8 hL hk9 K
      · refine Ev.tin (off := 415) (tgt := 455) dL_law_40 (by decide) (by decide) rfl (by decide) ?_
        exact lc_open h hi8 hL hk9 K
      · refine Ev.tin (off := 428) (tgt := 468) dL_law_40 (by decide) (by decide) rfl (by decide) ?_
        exact lc_reference h hi8 hL hk9 K
      · refine Ev.tin (off := 453) (tgt := 493) dL_law_40 (by decide) (by decide) rfl (by decide) ?_
        exact lc_collar h hi8 hL hk9 K
      · refine Ev.tin (off := 490) (tgt := 530) dL_law_40 (by decide) (by decide) rfl (by decide) ?_
        exact lc_back h hi8 hL hk9 K
      · refine Ev.tin (off := 503) (tgt := 543) dL_law_40 (by decide) (by decide) rfl (by decide) ?_
        exact lc_order h hi8 hL hk9 K
      · refine Ev.tin (off := 540) (tgt := 580) dL_law_40 (by decide) (by decide) rfl (by decide) ?_
        exact lc_curve hst h hi8 hL hk9 K
      · refine Ev.tin (off := 608) (tgt := 648) dL_law_40 (by decide) (by decide) rfl (by decide) ?_
        exact lc_crossed hst h hi8 hL hk9 K
      · refine Ev.tin (off := 664) (tgt := 704) dL_law_40 (by decide) (by decide) rfl (by decide) ?_
        exact lc_fill h hi8 hL hk9 K
      · refine Ev.tin (off := 689) (tgt := 729) dL_law_40 (by decide) (by decide) rfl (by decide) ?_
        exact lc_slice h hi8 hL hk9 K
      · refine Ev.tin (off := 750) (tgt := 790) dL_law_40 (by decide) (by decide) rfl (by decide) ?_
        exact lc_trade h hi8 hL hk9 K
      · refine Ev.tin (off := 787) (tgt := 827) dL_law_40 (by decide) (by decide) rfl (by decide) ?_
        exact lc_notice hst h hi8 hL hk9 K
      · refine Ev.tin (off := 843) (tgt := 883) dL_law_40 (by decide) (by decide) rfl (by decide) ?_
        exact lc_without h hi8 hL hk9 K
      · refine Ev.tin (off := 868) (tgt := 908) dL_law_40 (by decide) (by decide) rfl (by decide) ?_
        exact lc_with h hi8 hL hk9 K
      · refine Ev.tin (off := 929) (tgt := 969) dL_law_40 (by decide) (by decide) rfl (by decide) ?_
        exact lc_moves h hi8 hL hk9 K
      · refine Ev.tin (off := 966) (tgt := 1006) dL_law_40 (by decide) (by decide) rfl (by decide) ?_
        exact lc_swings h hi8 hL hk9 K
      · refine Ev.tin (off := 980) (tgt := 1020) dL_law_40 (by decide) (by decide) rfl (by decide) ?_
        exact lc_level h hi8 hL hk9 K
      · refine Ev.tin (off := 1029) (tgt := 1069) dL_law_40 (by decide) (by decide) rfl (by decide) ?_
        exact lc_past hst h hi8 hL hk9 K
      · refine Ev.tin (off := 1097) (tgt := 1137) dL_law_40 (by decide) (by decide) rfl (by decide) ?_
        exact lc_owner h hi8 hL hk9 K
      · refine Ev.tin (off := 1134) (tgt := 1174) dL_law_40 (by decide) (by decide) rfl (by decide) ?_
        exact lc_gain h hi8 hL hk9 K
      · refine Ev.tin (off := 1148) (tgt := 1188) dL_law_40 (by decide) (by decide) rfl (by decide) ?_
        exact lc_left h hi8 hL hk9 K
      · refine Ev.tin (off := 1161) (tgt := 1201) dL_law_40 (by decide) (by decide) rfl (by decide) ?_
        exact lc_count h hi8 hL hk9 K
      · refine Ev.tout (tgt := 1226) dL_law_40 (Or.inr (by decide)) (by decide) ?_
        exact (K q na S M rfl (h.up (by omega))).more (by omega) (by omega)
      · refine Ev.tout (tgt := 1226) dL_law_40 (Or.inr (by decide)) (by decide) ?_
        exact (K q na S M rfl (h.up (by omega))).more (by omega) (by omega)
      · refine Ev.tout (tgt := 1226) dL_law_40 (Or.inr (by decide)) (by decide) ?_
        exact (K q na S M rfl (h.up (by omega))).more (by omega) (by omega)
      · refine Ev.tout (tgt := 1226) dL_law_40 (Or.inr (by decide)) (by decide) ?_
        exact (K q na S M rfl (h.up (by omega))).more (by omega) (by omega)
end LOP
