/-! the reference's rounds -/
section MOJ
variable {G : GP} {M0 M : Wd} {a : Nat → Nat} {v : Nat → Int32} {L : Int64} {X : Nat → Nat → Int32} {n lo hi : Nat} {wo : Int32}
set_option maxRecDepth 20000 in
theorem m_crosses {m : Nat → Int32} (hj : InjM a) (hW : MX a v L X M) (hF : Fr (mdl a) M0 M) (hm : X 1 = m) (hn : m 328 = nI n) (hn2 : n ≤ 41) (hO : OW m n) (hlo : m 331 = nI lo) (hhi : m 332 = nI hi) (h1 : lo ≤ hi + 1) (h2 : hi ≤ 999) (h3 : 1 ≤ lo) (hwo : wo = -1 ∨ ∃ w, w < n ∧ wo = nI w) :
    CtV G mX6_crosses [.ref (a 0), .int wo] M 0 0 (fun M' => ∃ (v' : Nat → Int32) (X' : Nat → Nat → Int32), MX a v' L X' M' ∧ Fr (mdl a) M0 M' ∧ KP v v' X X' ∧ CF m n lo hi (crs m (qt m) n lo hi (n + 1) (ct0 m wo) (fun _ => 0) 0) v' X') := by
  have e8 := lit_in 328 1189 (by omega) (by omega)
  have b8 : vp_in (328 : Int32) 1189 := e8.1
  have z8 : (328 : Int32).toNatClampNeg = 328 := e8.2
  generalize hQ : (fun (u : Option Value) (M' : Wd) => u = none ∧ ∃ (v' : Nat → Int32) (X' : Nat → Nat → Int32), MX a v' L X' M' ∧ Fr (mdl a) M0 M' ∧ KP v v' X X' ∧ CF m n lo hi (crs m (qt m) n lo hi (n + 1) (ct0 m wo) (fun _ => 0) 0) v' X') = Q
  -- the rounds
  have LR : ∀ (e r : Nat) (ct ou : Nat → Int32) (v1 : Nat → Int32) (X1 : Nat → Nat → Int32) (M1 : Wd) (x2 : Int32) (a3 : Option Value), cnc ct n < e → crs m (qt m) n lo hi (n + 1) (ct0 m wo) (fun _ => 0) 0 = crs m (qt m) n lo hi e ct ou r → MX a v1 L X1 M1 → Fr (mdl a) M0 M1 → KP v v1 X X1 → (∀ k, k < n → X1 22 k = ct k) → (∀ k, k < n → X1 23 k = qt m k) → (∀ k, k < n → X1 35 k = ou k) → v1 36 = nI r → Ev G mX6_crosses 53 [some (.ref (a 0)), some (.int wo), some (.int x2), a3] [] M1 0 0 Q := by
    intro e
    induction e with
    | zero => intro r ct ou v1 X1 M1 x2 a3 h; omega
    | succ e ih =>
      intro r ct ou v1 X1 M1 x2 a3 he hcr hW1 hF1 hK1 hc hy ho hr
      refine m_cr1 hj hW1 hF1 ((hK1.1 1 (by decide)).trans hm) hn hn2 hO hlo hhi h1 h2 h3 hc hy ho hr (fun v2 X2 M2 a3 hW2 hF2 hK2 hC2 => ?_)
      rw [crs_s (e := e)] at hcr
      rcases unh_in (m := m) (ct := ct) (fl := rF m ct (qt m) n lo hi) n with hu | ⟨w, w1, w2, w3, -⟩
      · have hneg : unh m ct (rF m ct (qt m) n lo hi) n < 0 := by rw [hu]; decide
        rw [if_pos hneg] at hcr
        refine Ev.ild2 dX6_crosses_162 ?_
        refine Ev.if_lt (tgt := 49) dX6_crosses_163 (by decide) (fun c => ?_) (fun c => absurd hneg c)
        refine Ev.ild2 dX6_crosses_49 ?_
        refine Ev.if_lt (tgt := 183) dX6_crosses_50 (by decide) (fun c => ?_) (fun c => absurd hneg c)
        refine Ev.vret dX6_crosses_183 rfl ?_
        rw [← hQ]
        refine ⟨rfl, v2, X2, hW2, hF2, hK1.tr hK2, ?_⟩
        rw [hcr]
        exact hC2
      · have hnn : ¬ unh m ct (rF m ct (qt m) n lo hi) n < 0 := by rw [w2]; exact nI_pos (by omega)
        rw [if_neg hnn, w2, nI_clamp (by omega)] at hcr
        rw [w2]
        have hnw : ¬ nI w < 0 := nI_pos (by omega)
        have h0 := hW2.1
        have g35 := hW2.g35
        have g22 := hW2.g22
        have ew := lit_in w 41 (by omega) (by omega)
        have bw := ew.1
        have zw := ew.2
        have hWa := hW2.s35 hj (f := upd (X2 35) w 1)
        have hFa : Fr (mdl a) M0 (up M2 (a 35) (ia 2 41 (upd (X2 35) w 1))) := hF2.pt (by simp [mdl])
        refine Ev.ild2 dX6_crosses_162 ?_
        refine Ev.if_lt (tgt := 49) dX6_crosses_163 (by decide) (fun c => absurd c hnw) (fun c => ?_)
        refine Ev.ald0 dX6_crosses_166 ?_
        apply Ev.getf dX6_crosses_167 fX6_58
        · repeat (first | assumption | (refine gt_upI ?_; (repeat (first | refine In_up ?_ | refine In_nw ?_)); apply In_of; assumption) | refine gt_rd (by first | assumption | (apply Ne.symm; assumption) | (exact hj _ _ (by omega) (by omega) (by omega)) | omega) ?_ | exact gt_nw (by assumption) | refine gt_odr (by first | assumption | (apply Ne.symm; assumption) | omega) ?_)
        · first | rfl | assumption
        refine Ev.ild2 dX6_crosses_170 ?_
        refine Ev.iconst (v := 1) dX6_crosses_171 (by decide) ?_
        apply Ev.zast dX6_crosses_172
        · repeat (first | assumption | (refine gt_upI ?_; (repeat (first | refine In_up ?_ | refine In_nw ?_)); apply In_of; assumption) | refine gt_rd (by first | assumption | (apply Ne.symm; assumption) | (exact hj _ _ (by omega) (by omega) (by omega)) | omega) ?_ | exact gt_nw (by assumption) | refine gt_odr (by first | assumption | (apply Ne.symm; assumption) | omega) ?_)
        · assumption
        rw [zw]
        change Ev G mX6_crosses _ _ _ (up M2 (a 35) (ia 2 41 (upd (X2 35) w 1))) 0 0 Q
        generalize up M2 (a 35) (ia 2 41 (upd (X2 35) w 1)) = M3 at hWa hFa ⊢
        have h0 := hWa.1
        have g22 : gt M3 (a 22) = some (ia 2 41 (X2 22)) := hWa.g22
        have hWb := hWa.s22 hj (f := upd (X2 22) w 0)
        have hFb : Fr (mdl a) M0 (up M3 (a 22) (ia 2 41 (upd (X2 22) w 0))) := hFa.pt (by simp [mdl])
        refine Ev.ald0 dX6_crosses_173 ?_
        apply Ev.getf dX6_crosses_174 fX6_30
        · repeat (first | assumption | (refine gt_upI ?_; (repeat (first | refine In_up ?_ | refine In_nw ?_)); apply In_of; assumption) | refine gt_rd (by first | assumption | (apply Ne.symm; assumption) | (exact hj _ _ (by omega) (by omega) (by omega)) | omega) ?_ | exact gt_nw (by assumption) | refine gt_odr (by first | assumption | (apply Ne.symm; assumption) | omega) ?_)
        · first | rfl | assumption
        refine Ev.ild2 dX6_crosses_177 ?_
        refine Ev.iconst (v := 0) dX6_crosses_178 (by decide) ?_
        apply Ev.zast dX6_crosses_179
        · repeat (first | assumption | (refine gt_upI ?_; (repeat (first | refine In_up ?_ | refine In_nw ?_)); apply In_of; assumption) | refine gt_rd (by first | assumption | (apply Ne.symm; assumption) | (exact hj _ _ (by omega) (by omega) (by omega)) | omega) ?_ | exact gt_nw (by assumption) | refine gt_odr (by first | assumption | (apply Ne.symm; assumption) | omega) ?_)
        · assumption
        refine Ev.goto (tgt := 49) dX6_crosses_180 (by decide) ?_
        refine Ev.ild2 dX6_crosses_49 ?_
        rw [zw]
        change Ev G mX6_crosses _ _ _ (up M3 (a 22) (ia 2 41 (upd (X2 22) w 0))) 0 0 Q
        refine Ev.if_lt (tgt := 183) dX6_crosses_50 (by decide) (fun c => absurd c hnw) (fun c => ?_)
        have hd := cnc_out w3 n
        rw [if_pos w1] at hd
        refine ih (r + 1) (upd ct w 0) (upd ou w 1) _ _ _ _ _ (by omega) hcr hWb hFb (hK1.tr ((hK2.x 35 (by decide)).x 22 (by decide))) ?_ ?_ ?_ ?_
        · intro k hk
          rw [ux_s]
          by_cases q : k = w
          · subst q; rw [pk_us, pk_us]
          · rw [pk_un q, pk_un q]; exact hC2.1 k hk
        · intro k hk
          rw [ux_n (by decide), ux_n (by decide)]
          exact hC2.2.1 k hk
        · intro k hk
          rw [ux_n (by decide), ux_s]
          by_cases q : k = w
          · subst q; rw [pk_us, pk_us]
          · rw [pk_un q, pk_un q]; exact hC2.2.2.1 k hk
        · exact hC2.2.2.2.2.2.2.2.1
  -- the row of those that are out
  have LO : ∀ (d k : Nat) (X1 : Nat → Nat → Int32) (g : Nat → Int32) (M1 : Wd), k + d = n → MX a v L (ux X1 35 (fl0 g 0 k)) M1 → Fr (mdl a) M0 M1 → KP v v X X1 → (∀ k, k < n → X1 22 k = ct0 m wo k) → (∀ k, k < n → X1 23 k = qt m k) → Ev G mX6_crosses 17 [some (.ref (a 0)), some (.int wo), some (.int (nI k)), none] [] M1 0 0 Q := by
    intro d
    induction d with
    | zero =>
      intro k X1 g M1 hk hW1 hF1 hK1 hc hy
      have h0 := hW1.1
      have e1 : X1 1 = m := (hK1.1 1 (by decide)).trans hm
      have g1 : gt M1 (a 1) = some (ia 0 1189 (X1 1)) := hW1.g1
      refine Ev.ild2 dX6_crosses_17 ?_
      refine Ev.ald0 dX6_crosses_18 ?_
      apply Ev.getf dX6_crosses_19 fX6_13
      · repeat (first | assumption | (refine gt_upI ?_; (repeat (first | refine In_up ?_ | refine In_nw ?_)); apply In_of; assumption) | refine gt_rd (by first | assumption | (apply Ne.symm; assumption) | (exact hj _ _ (by omega) (by omega) (by omega)) | omega) ?_ | exact gt_nw (by assumption) | refine gt_odr (by first | assumption | (apply Ne.symm; assumption) | omega) ?_)
      · first | rfl | assumption
      refine Ev.sipush (v := 328) dX6_crosses_22 (by decide) ?_
      apply Ev.iald dX6_crosses_25
      · repeat (first | assumption | (refine gt_upI ?_; (repeat (first | refine In_up ?_ | refine In_nw ?_)); apply In_of; assumption) | refine gt_rd (by first | assumption | (apply Ne.symm; assumption) | (exact hj _ _ (by omega) (by omega) (by omega)) | omega) ?_ | exact gt_nw (by assumption) | refine gt_odr (by first | assumption | (apply Ne.symm; assumption) | omega) ?_)
      · assumption
      rw [z8, e1, hn]
      refine Ev.icmp_ge (tgt := 42) dX6_crosses_26 (by decide) (fun c9 => ?_) (fun c9 => absurd (nI_le (by omega) (by omega)) c9)
      have hW2 := hW1.sv hj (w := upd v 36 0) (K := L)
      have hF2 : Fr (mdl a) M0 (up M1 (a 0) (mo (upd v 36 0) L a)) := hF1.pt (by simp [mdl])
      refine Ev.ald0 dX6_crosses_42 ?_
      refine Ev.iconst (v := 0) dX6_crosses_43 (by decide) ?_
      apply Ev.put dX6_crosses_44 fX6_263
      · repeat (first | assumption | (refine gt_upI ?_; (repeat (first | refine In_up ?_ | refine In_nw ?_)); apply In_of; assumption) | refine gt_rd (by first | assumption | (apply Ne.symm; assumption) | (exact hj _ _ (by omega) (by omega) (by omega)) | omega) ?_ | exact gt_nw (by assumption) | refine gt_odr (by first | assumption | (apply Ne.symm; assumption) | omega) ?_)
      · rfl
      · rfl
      · rfl
      refine Ev.iconst (v := 0) dX6_crosses_47 (by decide) ?_
      refine Ev.ist2 dX6_crosses_48 rfl rfl ?_
      refine Ev.ild2 dX6_crosses_49 ?_
      change Ev G mX6_crosses _ _ _ (up M1 (a 0) (mo (upd v 36 0) L a)) 0 0 Q
      refine Ev.if_lt (tgt := 183) dX6_crosses_50 (by decide) (fun c => absurd c (by decide)) (fun c => ?_)
      have ekn : k = n := by omega
      subst ekn
      refine LR (k + 1) 0 (ct0 m wo) (fun _ => 0) _ _ _ _ _ ?_ rfl hW2 hF2 ((hK1.x 35 (by decide)).v 36 (by decide)) ?_ ?_ ?_ rfl
      · have := cnc_le (ct0 m wo) k
        omega
      · intro j hj9; rw [ux_n (by decide)]; exact hc j hj9
      · intro j hj9; rw [ux_n (by decide)]; exact hy j hj9
      · intro j hj9; rw [ux_s]; exact fl0_in _ _ _ hj9
    | succ d ih =>
      intro k X1 g M1 hk hW1 hF1 hK1 hc hy
      have h0 := hW1.1
      have e1 : X1 1 = m := (hK1.1 1 (by decide)).trans hm
      have g1 : gt M1 (a 1) = some (ia 0 1189 (X1 1)) := hW1.g1
      have g35 : gt M1 (a 35) = some (ia 2 41 (fl0 g 0 k)) := hW1.g35
      have e := lit_in k 41 (by omega) (by omega)
      have bk := e.1
      have ek := e.2
      refine Ev.ild2 dX6_crosses_17 ?_
      refine Ev.ald0 dX6_crosses_18 ?_
      apply Ev.getf dX6_crosses_19 fX6_13
      · repeat (first | assumption | (refine gt_upI ?_; (repeat (first | refine In_up ?_ | refine In_nw ?_)); apply In_of; assumption) | refine gt_rd (by first | assumption | (apply Ne.symm; assumption) | (exact hj _ _ (by omega) (by omega) (by omega)) | omega) ?_ | exact gt_nw (by assumption) | refine gt_odr (by first | assumption | (apply Ne.symm; assumption) | omega) ?_)
      · first | rfl | assumption
      refine Ev.sipush (v := 328) dX6_crosses_22 (by decide) ?_
      apply Ev.iald dX6_crosses_25
      · repeat (first | assumption | (refine gt_upI ?_; (repeat (first | refine In_up ?_ | refine In_nw ?_)); apply In_of; assumption) | refine gt_rd (by first | assumption | (apply Ne.symm; assumption) | (exact hj _ _ (by omega) (by omega) (by omega)) | omega) ?_ | exact gt_nw (by assumption) | refine gt_odr (by first | assumption | (apply Ne.symm; assumption) | omega) ?_)
      · assumption
      rw [z8, e1, hn]
      refine Ev.icmp_ge (tgt := 42) dX6_crosses_26 (by decide) (fun c9 => absurd c9 (nI_ge (by omega) (by omega))) (fun c9 => ?_)
      have hW2 := hW1.s35 hj (f := fl0 g 0 (k + 1))
      rw [ux_u] at hW2
      refine Ev.ald0 dX6_crosses_29 ?_
      apply Ev.getf dX6_crosses_30 fX6_58
      · repeat (first | assumption | (refine gt_upI ?_; (repeat (first | refine In_up ?_ | refine In_nw ?_)); apply In_of; assumption) | refine gt_rd (by first | assumption | (apply Ne.symm; assumption) | (exact hj _ _ (by omega) (by omega) (by omega)) | omega) ?_ | exact gt_nw (by assumption) | refine gt_odr (by first | assumption | (apply Ne.symm; assumption) | omega) ?_)
      · first | rfl | assumption
      refine Ev.ild2 dX6_crosses_33 ?_
      refine Ev.iconst (v := 0) dX6_crosses_34 (by decide) ?_
      apply Ev.zast dX6_crosses_35
      · repeat (first | assumption | (refine gt_upI ?_; (repeat (first | refine In_up ?_ | refine In_nw ?_)); apply In_of; assumption) | refine gt_rd (by first | assumption | (apply Ne.symm; assumption) | (exact hj _ _ (by omega) (by omega) (by omega)) | omega) ?_ | exact gt_nw (by assumption) | refine gt_odr (by first | assumption | (apply Ne.symm; assumption) | omega) ?_)
      · assumption
      rw [ek]
      change Ev G mX6_crosses _ _ _ (up M1 (a 35) (ia 2 41 (fl0 g 0 (k + 1)))) 0 0 Q
      apply Ev.iinc2 dX6_crosses_36 rfl rfl
      · first | exact nI_inc _ | rfl
      refine Ev.goto (tgt := 17) dX6_crosses_39 (by decide) ?_
      exact ih (k + 1) X1 g _ (by omega) hW2 (hF1.pt (by simp [mdl])) hK1 hc hy
  have h0 := hW.1
  refine Ct.of (ls := [some (.ref (a 0)), some (.int wo), none, none]) (by decide) (by decide) rfl rfl rfl ?_
  rw [hQ]
  refine Ev.ald0 dX6_crosses_0 ?_
  refine Ev.cvV (Yc := mX6_countsAll) (ci := 6) dX6_crosses_1 lX6_260 vX6_countsAll rfl (m_countsAll hj hW hF (by rw [hm]; exact hn) hn2) ?_ rfl rfl rfl rfl ?_
  · apply Exists.intro; repeat (first | assumption | (refine gt_upI ?_; (repeat (first | refine In_up ?_ | refine In_nw ?_)); apply In_of; assumption) | refine gt_rd (by first | assumption | (apply Ne.symm; assumption) | (exact hj _ _ (by omega) (by omega) (by omega)) | omega) ?_ | exact gt_nw (by assumption) | refine gt_odr (by first | assumption | (apply Ne.symm; assumption) | omega) ?_)
  rintro M1 ⟨hW1, hF1⟩
  rw [hm] at hW1
  have hK1 : KP v v X (ux (ux X 22 (cav m (X 22) n)) 23 (cmy m (X 23) n)) := (KP.rf.x 22 (by decide)).x 23 (by decide)
  have eX : ∀ (Y : Nat → Nat → Int32), ux Y 35 (fl0 (Y 35) 0 0) = Y := by
    intro Y
    funext j
    by_cases h : j = 35
    · subst h; rw [ux_s]; rfl
    · rw [ux_n h]
  have h0 := hW1.1
  have g22 : gt M1 (a 22) = some (ia 2 41 (cav m (X 22) n)) := hW1.g22
  rcases hwo with hw | ⟨w, w1, w2⟩
  · subst hw
    refine Ev.ild1 dX6_crosses_4 ?_
    refine Ev.if_lt (tgt := 15) dX6_crosses_5 (by decide) (fun c => ?_) (fun c => absurd (by decide) c)
    refine Ev.iconst (v := 0) dX6_crosses_15 (by decide) ?_
    refine Ev.ist2 dX6_crosses_16 rfl rfl ?_
    refine LO n 0 _ _ _ (by omega) (by rw [eX]; exact hW1) hF1 hK1 ?_ ?_
    · intro k hk
      rw [ux_n (by decide), ux_s, cav_in _ _ _ _ hk, ct0]
      have : ¬ nI k = -1 := fun q => absurd (nI_pos' (n := k) (by omega)) (by rw [q]; decide)
      by_cases q : m (8 * k + 7) = 1
      · rw [if_pos q, if_pos (Or.inl q)]
      · rw [if_neg q, if_neg (fun z => z.elim q this)]
    · intro k hk
      rw [ux_s, cmy_in _ _ _ _ hk]
      rfl
  · subst w2
    have ew := lit_in w 41 (by omega) (by omega)
    have bw := ew.1
    have zw := ew.2
    have hW2 := hW1.s22 hj (f := upd (cav m (X 22) n) w 0)
    have hF2 : Fr (mdl a) M0 (up M1 (a 22) (ia 2 41 (upd (cav m (X 22) n) w 0))) := hF1.pt (by simp [mdl])
    refine Ev.ild1 dX6_crosses_4 ?_
    refine Ev.if_lt (tgt := 15) dX6_crosses_5 (by decide) (fun c => absurd c (nI_pos (by omega))) (fun c => ?_)
    refine Ev.ald0 dX6_crosses_8 ?_
    apply Ev.getf dX6_crosses_9 fX6_30
    · repeat (first | assumption | (refine gt_upI ?_; (repeat (first | refine In_up ?_ | refine In_nw ?_)); apply In_of; assumption) | refine gt_rd (by first | assumption | (apply Ne.symm; assumption) | (exact hj _ _ (by omega) (by omega) (by omega)) | omega) ?_ | exact gt_nw (by assumption) | refine gt_odr (by first | assumption | (apply Ne.symm; assumption) | omega) ?_)
    · first | rfl | assumption
    refine Ev.ild1 dX6_crosses_12 ?_
    refine Ev.iconst (v := 0) dX6_crosses_13 (by decide) ?_
    apply Ev.zast dX6_crosses_14
    · repeat (first | assumption | (refine gt_upI ?_; (repeat (first | refine In_up ?_ | refine In_nw ?_)); apply In_of; assumption) | refine gt_rd (by first | assumption | (apply Ne.symm; assumption) | (exact hj _ _ (by omega) (by omega) (by omega)) | omega) ?_ | exact gt_nw (by assumption) | refine gt_odr (by first | assumption | (apply Ne.symm; assumption) | omega) ?_)
    · assumption
    rw [zw]
    change Ev G mX6_crosses _ _ _ (up M1 (a 22) (ia 2 41 (upd (cav m (X 22) n) w 0))) 0 0 Q
    refine Ev.iconst (v := 0) dX6_crosses_15 (by decide) ?_
    refine Ev.ist2 dX6_crosses_16 rfl rfl ?_
    refine LO n 0 _ _ _ (by omega) (by rw [eX]; exact hW2) hF2 (hK1.x 22 (by decide)) ?_ ?_
    · intro k hk
      rw [ux_s, ct0]
      by_cases e : k = w
      · subst e
        rw [pk_us, if_pos (Or.inr rfl)]
      · rw [pk_un e, cav_in _ _ _ _ hk]
        have : ¬ nI k = nI w := fun q => e ((nI_eq (by omega) (by omega)).mp q)
        by_cases q : m (8 * k + 7) = 1
        · rw [if_pos q, if_pos (Or.inl q)]
        · rw [if_neg q, if_neg (fun z => z.elim q this)]
    · intro k hk
      rw [ux_n (by decide), ux_s, cmy_in _ _ _ _ hk]
      rfl
end MOJ
