/-! the reference: text, feed -/
def cdt (t : Nat → Int32) (j : Nat) : Nat := (t j &&& 255).toNatClampNeg
/-- signed bytes -/
def Tby (S : Sg) : Prop := ∀ j, j < S.2.2.2.1 → S.2.2.1 j &&& 255 = nI (cdt S.2.2.1 j) ∧ cdt S.2.2.1 j < 256 ∧ (cdt S.2.2.1 j < 128 → S.2.2.1 j = nI (cdt S.2.2.1 j)) ∧ (128 ≤ cdt S.2.2.1 j → S.2.2.1 j < 0)
noncomputable def txb (s : Ps) : Nat → Int32 := upd (upd (upd (upd (upd s.2.1 328 (nI s.2.2.1)) 329 0) 330 (if 0 < s.2.2.2.1 then nI s.2.2.2.1 else 100)) 331 (if 0 < s.2.2.2.2.1 then nI s.2.2.2.2.1 else 1)) 332 (if 0 < s.2.2.2.2.1 then nI s.2.2.2.2.2 else 999)
noncomputable def sp_text (S : Sg) (n : Int32) : Int32 × Sg := if 0 ≤ n ∧ n ≤ nI S.2.2.2.1 then (match prs0 (cdt S.2.2.1) n.toNatClampNeg (fun _ => 0) with
  | .inl F => (-2 - nI F, (S.1, S.2.1, S.2.2.1, 0, S.2.2.2.2))
  | .inr s => (nI s.2.2.1, ((txb s, S.1.2), [], S.2.2.1, 0, S.2.2.2.2.1, 0))) else (-1, S)
def by8 (v : Int32) (k : Int32) : Int32 := vp_nar .byte (v >>> (k &&& 31)).toInt8.toInt32
def pt4 (f : Nat → Int32) (n : Nat) (v : Int32) : Nat → Int32 := upd (upd (upd (upd f n (by8 v 24)) (n + 1) (by8 v 16)) (n + 2) (by8 v 8)) (n + 3) (by8 v 0)
noncomputable def sp_feed (S : Sg) (x0 x1 x2 x3 x4 : Int32) : Int32 × Sg := if S.2.2.2.1 + 20 ≤ 800 then (nI (S.2.2.2.1 + 20), (S.1, S.2.1, pt4 (pt4 (pt4 (pt4 (pt4 S.2.2.1 S.2.2.2.1 x0) (S.2.2.2.1 + 4) x1) (S.2.2.2.1 + 8) x2) (S.2.2.2.1 + 12) x3) (S.2.2.2.1 + 16) x4, S.2.2.2.1 + 20, S.2.2.2.2)) else (-1, S)
/-- how many lines may still be read -/
def mul (s : Ps) : Nat := (40 - s.2.2.1) + (if s.2.2.2.1 = 0 then 1 else 0) + (if s.2.2.2.2.1 = 0 then 1 else 0)
theorem ol_mu {c : Nat → Nat} {n : Nat} {s s' : Ps} {sd : Nat} (h : ol0 c n s sd = .inr s') (hk : s.2.2.1 ≤ 40) : s'.2.2.1 = s.2.2.1 + 1 ∧ s.2.2.1 < 40 ∧ s'.2.2.2 = s.2.2.2 := by
  have F : ∀ {p kd q pr sh le ow}, olF s p sd kd q pr sh le ow = .inr s' → s'.2.2.1 = s.2.2.1 + 1 ∧ s'.2.2.2 = s.2.2.2 := by
    intro p kd q pr sh le ow h
    rw [olF] at h
    cases h
    exact ⟨rfl, rfl⟩
  have F5 : ∀ {p kd q pr sh le}, ol5 c n s p sd kd q pr sh le = .inr s' → s'.2.2.1 = s.2.2.1 + 1 ∧ s'.2.2.2 = s.2.2.2 := by
    intro p kd q pr sh le h
    rw [ol5] at h
    split at h
    · split at h
      · cases h
      · exact F h
    · exact F h
  have F4 : ∀ {p kd q pr sh}, ol4 c n s p sd kd q pr sh = .inr s' → s'.2.2.1 = s.2.2.1 + 1 ∧ s'.2.2.2 = s.2.2.2 := by
    intro p kd q pr sh h
    rw [ol4] at h
    split at h
    · split at h
      · cases h
      · exact F5 h
    · exact F5 h
  have F3 : ∀ {p kd q pr}, ol3 c n s p sd kd q pr = .inr s' → s'.2.2.1 = s.2.2.1 + 1 ∧ s'.2.2.2 = s.2.2.2 := by
    intro p kd q pr h
    rw [ol3] at h
    split at h
    · split at h
      · cases h
      · rw [ol3b] at h
        split at h
        · cases h
        · exact F4 h
    · exact F4 h
  have F2 : ∀ {p kd q}, ol2 c n s p sd kd q = .inr s' → s'.2.2.1 = s.2.2.1 + 1 ∧ s'.2.2.2 = s.2.2.2 := by
    intro p kd q h
    rw [ol2] at h
    split at h
    · exact F3 h
    · split at h
      · cases h
      · rw [ol2b] at h
        split at h
        · cases h
        · exact F3 h
  rw [ol0] at h
  split at h
  · cases h
  · split at h
    · cases h
    · rw [ol1] at h
      split at h
      · cases h
      · have := F2 h
        exact ⟨this.1, by omega, this.2⟩
theorem lin_mu {c : Nat → Nat} {n : Nat} {s s' : Ps} (h : lin c n s = .inr s') (hk : s.2.2.1 ≤ 40) : mul s' + 1 ≤ mul s := by
  have O : ∀ {sd}, ol0 c n s sd = .inr s' → mul s' + 1 ≤ mul s := by
    intro sd h
    obtain ⟨e1, e2, e3⟩ := ol_mu h hk
    rw [mul, mul, e1, e3]
    omega
  rw [lin] at h
  split at h
  · rw [rln] at h
    split at h
    · cases h
    · rename_i hb
      split at h
      · cases h
      · rename_i w p' hq
        have := nmb_b hq
        cases h
        rw [mul, mul]
        simp only
        rw [if_neg (show ¬ w = 0 by omega), if_pos (show s.2.2.2.1 = 0 by omega)]
        omega
  · split at h
    · rw [cln] at h
      split at h
      · cases h
      · rename_i hb
        split at h
        · cases h
        · rename_i w p' hq
          have := nmb_b hq
          rw [cln2] at h
          split at h
          · cases h
          · cases h
            rw [mul, mul]
            simp only
            rw [if_neg (show ¬ w = 0 by omega), if_pos (show s.2.2.2.2.1 = 0 by omega)]
            omega
    · split at h
      · exact O h
      · split at h
        · exact O h
        · cases h
section TKG
variable {G : GP} {a : Nat → Nat} {M0 M : Wd} {v v0 : Nat → Int32} {L : Int64} {X X0 : Nat → Nat → Int32} {c : Nat → Nat} {n p : Nat} {s : Ps} {S : Sg}
theorem tkT_4 : tkT c n p ≤ 4 := by rw [tkT]; split <;> (try split) <;> (try split) <;> (try split) <;> omega
set_option maxRecDepth 20000 in
theorem m_txF {Q : Option Value → Wd → Prop} {x1 : Int32} {a3 : Option Value} {F kr nr : Nat} (h15 : v 15 = nI F) (kk : Q (some (.int (-2 - nI F))) M) (hZ : MZ a M0 v L X M) : Ev G mX6_text 65 [some (.ref (a 0)), some (.int x1), some (.int 0), a3] [] M kr nr Q := by
  refine Ev.ild2 dX6_text_65 ?_
  refine Ev.if_eq (tgt := 89) dX6_text_66 (by decide) (fun c66 => ?_) (fun c66 => by first | exact absurd rfl c66 | exact absurd c66 rfl)
  refine Ev.ild2 dX6_text_89 ?_
  refine Ev.if_eq (tgt := 106) dX6_text_90 (by decide) (fun c90 => ?_) (fun c90 => by first | exact absurd rfl c90 | exact absurd c90 rfl)
  refine Ev.ild2 dX6_text_106 ?_
  refine Ev.if_ne (tgt := 118) dX6_text_107 (by decide) (fun c107 => by first | exact absurd c107 rfl | exact absurd rfl c107) (fun c107 => ?_)
  refine Ev.bipush (v := -2) dX6_text_110 (by decide) ?_
  refine Ev.ald0 dX6_text_112 ?_
  refine Ev.mgv (kx := 15) dX6_text_113 fX6_142 hZ rfl ?_
  rw [h15]
  refine Ev.isub dX6_text_116 ?_
  refine Ev.iret dX6_text_117 rfl rfl ?_
  exact kk
set_option maxRecDepth 20000 in
theorem m_tx {Q : Option Value → Wd → Prop} {x1 : Int32} {a3 : Option Value} (kF : ∀ (F : Nat) (v' : Nat → Int32) (L' : Int64) (X' : Nat → Nat → Int32) (M' : Wd), MZ a M0 v' L' X' M' → KT v0 v' X0 X' → lns c n 43 s = .inl F → Q (some (.int (-2 - nI F))) M') (kS : ∀ (s' : Ps) (v' : Nat → Int32) (L' : Int64) (X' : Nat → Nat → Int32) (M' : Wd), MZ a M0 v' L' X' M' → KT v0 v' X0 X' → ST c n s' v' L' X' → lns c n 43 s = .inr s' → Ev G mX6_text 118 [some (.ref (a 0)), some (.int x1), some (.int 1), a3] [] M' 0 0 Q) :
    ∀ (e : Nat) (s1 : Ps) (v : Nat → Int32) (L : Int64) (X : Nat → Nat → Int32) (M : Wd), mul s1 < e → lns c n e s1 = lns c n 43 s → MZ a M0 v L X M → KT v0 v X0 X → ST c n s1 v L X → Ev G mX6_text 65 [some (.ref (a 0)), some (.int x1), some (.int 1), a3] [] M (13 * e) (78 * e) Q := by
  intro e
  induction e with
  | zero => intro s1 v L X M h1; omega
  | succ e ih =>
    intro s1 v L X M hmu hln hZ hK hS
    have hT := hS.1
    have t12 : v 12 = nI (tkT c n s1.1) := hT.2.2.2.2.1.2.2.1
    have h4 := tkT_4 (c := c) (n := n) (p := s1.1)
    rw [lns] at hln
    by_cases h3 : tkT c n s1.1 = 3
    · rw [if_pos h3] at hln
      have e3 : v 12 = 3 := by rw [t12, h3]; rfl
      have J : ∀ (y : Int32) (v1 : Nat → Int32) (X1 : Nat → Nat → Int32) (M : Wd), KT v0 v1 X0 X1 → Rs a M0 c n v1 X1 (lin c n (tkE c n s1.1, s1.2)) y M → Ev G mX6_text 65 [some (.ref (a 0)), some (.int x1), some (.int y), a3] [] M (13 * e) (78 * e) Q := by
        intro y v1 X1 M hK1 hR
        obtain ⟨v2, L2, X2, hZ, hK2, hm⟩ := hR
        cases hq : lin c n (tkE c n s1.1, s1.2) with
        | inl F =>
          rw [hq] at hm hln
          obtain ⟨rfl, h15⟩ := hm
          exact m_txF h15 (kF F v2 L2 X2 M hZ (hK1.tr hK2) hln.symm) hZ
        | inr s2 =>
          have hmu2 := lin_mu hq hS.2.2.1
          rw [hq] at hm hln
          obtain ⟨rfl, hS2⟩ := hm
          have : mul (tkE c n s1.1, s1.2) = mul s1 := rfl
          exact ih s2 v2 L2 X2 M (by omega) hln hZ (hK1.tr hK2) hS2
      refine Ev.ild2 dX6_text_65 ?_
      refine Ev.if_eq (tgt := 89) dX6_text_66 (by decide) (fun c66 => by first | exact absurd c66 (by decide) | exact absurd (by decide) c66) (fun c66 => ?_)
      refine Ev.ald0 dX6_text_69 ?_
      refine Ev.mgv (kx := 12) dX6_text_70 fX6_111 hZ rfl ?_
      refine Ev.iconst (v := 3) dX6_text_73 (by decide) ?_
      refine Ev.icmp_ne (tgt := 89) dX6_text_74 (by decide) (fun c74 => by first | exact absurd c74 e3 | exact absurd e3 c74) (fun c74 => ?_)
      refine Ev.ald0 dX6_text_77 ?_
      refine Ev.cvV (Yc := mX6_go) (ci := 6) dX6_text_78 lX6_151 vX6_go rfl (m_goT hT hZ) ⟨_, hZ.2.1.1⟩ rfl rfl rfl rfl ?_
      rintro M1 ⟨v1, L1, hZ, hv, hT1⟩
      refine Ev.ald0 dX6_text_81 ?_
      refine Ev.cvIn (Yc := mX6_line) (ci := 6) dX6_text_82 lX6_198 vX6_line rfl (m_line (s := (tkE c n s1.1, s1.2)) ⟨hT1, hv.w (by decide) hS.2.1, hS.2.2.1, hS.2.2.2.1, hv.w (by decide) hS.2.2.2.2.1, hS.2.2.2.2.2.1, hv.w (by decide) hS.2.2.2.2.2.2.1, hS.2.2.2.2.2.2.2.1, fun z => hv.w (by decide) (hS.2.2.2.2.2.2.2.2 z)⟩ hZ) ⟨_, hZ.2.1.1⟩ rfl rfl rfl rfl (by omega) (by omega) ?_
      rintro y82 M2 hy82
      refine Ev.ist2 dX6_text_85 rfl rfl ?_
      refine Ev.goto (tgt := 65) dX6_text_86 (by decide) ?_
      exact Ev.wd (J _ _ _ _ (hK.tr hv.k) hy82) (by omega) (by omega)
    · rw [if_neg h3] at hln
      have e3 : v 12 ≠ 3 := by rw [t12]; exact fun z => h3 ((nI_eq (b := 3) (by omega) (by omega)).mp z)
      by_cases h0 : tkT c n s1.1 = 0
      · rw [if_pos h0] at hln
        have e0 : v 12 = 0 := by rw [t12, h0]; rfl
        refine Ev.ild2 dX6_text_65 ?_
        refine Ev.if_eq (tgt := 89) dX6_text_66 (by decide) (fun c66 => by first | exact absurd c66 (by decide) | exact absurd (by decide) c66) (fun c66 => ?_)
        refine Ev.ald0 dX6_text_69 ?_
        refine Ev.mgv (kx := 12) dX6_text_70 fX6_111 hZ rfl ?_
        refine Ev.iconst (v := 3) dX6_text_73 (by decide) ?_
        refine Ev.icmp_ne (tgt := 89) dX6_text_74 (by decide) (fun c74 => ?_) (fun c74 => by first | exact absurd e3 c74 | exact absurd c74 e3)
        refine Ev.ild2 dX6_text_89 ?_
        refine Ev.if_eq (tgt := 106) dX6_text_90 (by decide) (fun c90 => by first | exact absurd c90 (by decide) | exact absurd (by decide) c90) (fun c90 => ?_)
        refine Ev.ald0 dX6_text_93 ?_
        refine Ev.mgv (kx := 12) dX6_text_94 fX6_111 hZ rfl ?_
        refine Ev.if_eq (tgt := 106) dX6_text_97 (by decide) (fun c97 => ?_) (fun c97 => by first | exact absurd e0 c97 | exact absurd c97 e0)
        refine Ev.ild2 dX6_text_106 ?_
        refine Ev.if_ne (tgt := 118) dX6_text_107 (by decide) (fun c107 => ?_) (fun c107 => by first | exact absurd (by decide) c107 | exact absurd c107 (by decide))
        exact Ev.wd (kS s1 v L X M hZ hK hS hln.symm) (by omega) (by omega)
      · rw [if_neg h0] at hln
        have e0 : ¬ v 12 = 0 := by rw [t12]; exact nI_ne0 (by omega) (by omega)
        refine Ev.ild2 dX6_text_65 ?_
        refine Ev.if_eq (tgt := 89) dX6_text_66 (by decide) (fun c66 => by first | exact absurd c66 (by decide) | exact absurd (by decide) c66) (fun c66 => ?_)
        refine Ev.ald0 dX6_text_69 ?_
        refine Ev.mgv (kx := 12) dX6_text_70 fX6_111 hZ rfl ?_
        refine Ev.iconst (v := 3) dX6_text_73 (by decide) ?_
        refine Ev.icmp_ne (tgt := 89) dX6_text_74 (by decide) (fun c74 => ?_) (fun c74 => by first | exact absurd e3 c74 | exact absurd c74 e3)
        refine Ev.ild2 dX6_text_89 ?_
        refine Ev.if_eq (tgt := 106) dX6_text_90 (by decide) (fun c90 => by first | exact absurd c90 (by decide) | exact absurd (by decide) c90) (fun c90 => ?_)
        refine Ev.ald0 dX6_text_93 ?_
        refine Ev.mgv (kx := 12) dX6_text_94 fX6_111 hZ rfl ?_
        refine Ev.if_eq (tgt := 106) dX6_text_97 (by decide) (fun c97 => by first | exact absurd c97 e0 | exact absurd e0 c97) (fun c97 => ?_)
        refine Ev.ald0 dX6_text_100 ?_
        refine Ev.iconst (v := 1) dX6_text_101 (by decide) ?_
        refine Ev.cvI (Yc := mX6_wrong) (ci := 6) dX6_text_102 lX6_145 vX6_wrong rfl (m_wrong (k := 1) rfl (by omega) hT hZ) ⟨_, hZ.2.1.1⟩ rfl rfl rfl rfl ?_
        rintro y102 M1 ⟨hy102, hZ⟩
        subst hy102
        refine Ev.ist2 dX6_text_105 rfl rfl ?_
        refine Ev.ild2 dX6_text_106 ?_
        refine Ev.if_ne (tgt := 118) dX6_text_107 (by decide) (fun c107 => by first | exact absurd c107 rfl | exact absurd rfl c107) (fun c107 => ?_)
        refine Ev.bipush (v := -2) dX6_text_110 (by decide) ?_
        refine Ev.ald0 dX6_text_112 ?_
        refine Ev.mgv (kx := 15) dX6_text_113 fX6_142 hZ rfl ?_
        rw [pk_us]
        refine Ev.isub dX6_text_116 ?_
        refine Ev.iret dX6_text_117 rfl rfl ?_
        exact kF _ _ _ _ _ hZ (hK.u (by decide)) hln.symm
set_option maxRecDepth 20000 in
theorem m_begins (hZ : MZ a M0 v L X M) : CtV G mX6_begins [.ref (a 0)] M 0 0 (fun M' => MZ a M0 (upd (upd (upd v 3 0) 5 0) 6 0) L (ux X 1 (upd (upd (upd (upd (upd (X 1) 328 0) 329 0) 330 100) 331 1) 332 999)) M') := by
  refine Ct.of (ls := [some (.ref (a 0))]) (by decide) (by decide) rfl rfl rfl ?_
  refine Ev.ald0 dX6_begins_0 ?_
  refine Ev.mgr (kx := 1) dX6_begins_1 fX6_13 hZ rfl ?_
  refine Ev.sipush (v := 328) dX6_begins_4 (by decide) ?_
  refine Ev.iconst (v := 0) dX6_begins_7 (by decide) ?_
  refine Ev.mst (j := 328) mq1 dX6_begins_8 hZ (by first | assumption | (simp only [nI, Int32.ofNat_add, Int32.ofNat_mul]; done) | (simp only [nI, Int32.ofNat_add, Int32.ofNat_mul]; rfl) | rfl) (by omega) (fun M hZ => ?_)
  (try simp only [ux_u, ux_s, ux_n, ne_eq, Nat.reduceEqDiff, Nat.succ_ne_self, not_false_eq_true] at hZ)
  refine Ev.ald0 dX6_begins_9 ?_
  refine Ev.mgr (kx := 1) dX6_begins_10 fX6_13 hZ rfl ?_
  refine Ev.sipush (v := 329) dX6_begins_13 (by decide) ?_
  refine Ev.iconst (v := 0) dX6_begins_16 (by decide) ?_
  refine Ev.mst (j := 329) mq1 dX6_begins_17 hZ (by first | assumption | (simp only [nI, Int32.ofNat_add, Int32.ofNat_mul]; done) | (simp only [nI, Int32.ofNat_add, Int32.ofNat_mul]; rfl) | rfl) (by omega) (fun M hZ => ?_)
  (try simp only [ux_u, ux_s, ux_n, ne_eq, Nat.reduceEqDiff, Nat.succ_ne_self, not_false_eq_true] at hZ)
  refine Ev.ald0 dX6_begins_18 ?_
  refine Ev.mgr (kx := 1) dX6_begins_19 fX6_13 hZ rfl ?_
  refine Ev.sipush (v := 330) dX6_begins_22 (by decide) ?_
  refine Ev.bipush (v := 100) dX6_begins_25 (by decide) ?_
  refine Ev.mst (j := 330) mq1 dX6_begins_27 hZ (by first | assumption | (simp only [nI, Int32.ofNat_add, Int32.ofNat_mul]; done) | (simp only [nI, Int32.ofNat_add, Int32.ofNat_mul]; rfl) | rfl) (by omega) (fun M hZ => ?_)
  (try simp only [ux_u, ux_s, ux_n, ne_eq, Nat.reduceEqDiff, Nat.succ_ne_self, not_false_eq_true] at hZ)
  refine Ev.ald0 dX6_begins_28 ?_
  refine Ev.mgr (kx := 1) dX6_begins_29 fX6_13 hZ rfl ?_
  refine Ev.sipush (v := 331) dX6_begins_32 (by decide) ?_
  refine Ev.iconst (v := 1) dX6_begins_35 (by decide) ?_
  refine Ev.mst (j := 331) mq1 dX6_begins_36 hZ (by first | assumption | (simp only [nI, Int32.ofNat_add, Int32.ofNat_mul]; done) | (simp only [nI, Int32.ofNat_add, Int32.ofNat_mul]; rfl) | rfl) (by omega) (fun M hZ => ?_)
  (try simp only [ux_u, ux_s, ux_n, ne_eq, Nat.reduceEqDiff, Nat.succ_ne_self, not_false_eq_true] at hZ)
  refine Ev.ald0 dX6_begins_37 ?_
  refine Ev.mgr (kx := 1) dX6_begins_38 fX6_13 hZ rfl ?_
  refine Ev.sipush (v := 332) dX6_begins_41 (by decide) ?_
  refine Ev.sipush (v := 999) dX6_begins_44 (by decide) ?_
  refine Ev.mst (j := 332) mq1 dX6_begins_47 hZ (by first | assumption | (simp only [nI, Int32.ofNat_add, Int32.ofNat_mul]; done) | (simp only [nI, Int32.ofNat_add, Int32.ofNat_mul]; rfl) | rfl) (by omega) (fun M hZ => ?_)
  (try simp only [ux_u, ux_s, ux_n, ne_eq, Nat.reduceEqDiff, Nat.succ_ne_self, not_false_eq_true] at hZ)
  refine Ev.ald0 dX6_begins_48 ?_
  refine Ev.iconst (v := 0) dX6_begins_49 (by decide) ?_
  refine Ev.mput (kx := 3) dX6_begins_50 fX6_70 hZ rfl rfl (fun M hZ => ?_)
  refine Ev.ald0 dX6_begins_53 ?_
  refine Ev.iconst (v := 0) dX6_begins_54 (by decide) ?_
  refine Ev.mput (kx := 5) dX6_begins_55 fX6_73 hZ rfl rfl (fun M hZ => ?_)
  refine Ev.ald0 dX6_begins_58 ?_
  refine Ev.iconst (v := 0) dX6_begins_59 (by decide) ?_
  refine Ev.mput (kx := 6) dX6_begins_60 fX6_76 hZ rfl rfl (fun M hZ => ?_)
  refine Ev.vret dX6_begins_63 rfl ?_
  exact ⟨rfl, hZ⟩
set_option maxRecDepth 20000 in
theorem m_txC {Q : Option Value → Wd → Prop} {x1 x2 : Int32} {k : Nat} (hk : k ≤ 40) (h16 : v 16 = nI k) (kk : ∀ M', MZ a M0 v L (ux X 1 (fun j => if j < 8 * k then X 17 j else X 1 j)) M' → Ev G mX6_text 165 [some (.ref (a 0)), some (.int x1), some (.int x2), some (.int (nI (8 * k)))] [] M' 0 0 Q) (hZ : MZ a M0 v L X M) : Ev G mX6_text 136 [some (.ref (a 0)), some (.int x1), some (.int x2), some (.int 0)] [] M 0 0 Q := by
  have e8 : (8 : Int32) * nI k = nI (8 * k) := pk_mul 8 k
  have KL : ∀ M, MZ a M0 v L (ux X 1 (fun j => if j < 0 then X 17 j else X 1 j)) M → Ev G mX6_text 136 [some (.ref (a 0)), some (.int x1), some (.int x2), some (.int (nI 0))] [] M 0 0 Q := by
    refine ev_ind (8 * k) (fun t => ∀ M, MZ a M0 v L (ux X 1 (fun j => if j < t then X 17 j else X 1 j)) M → Ev G mX6_text 136 [some (.ref (a 0)), some (.int x1), some (.int x2), some (.int (nI t))] [] M 0 0 Q) ?_ ?_
    · intro M hZ
      refine Ev.ild3 dX6_text_136 ?_
      refine Ev.bipush (v := 8) dX6_text_137 (by decide) ?_
      refine Ev.ald0 dX6_text_139 ?_
      refine Ev.mgv (kx := 16) dX6_text_140 fX6_161 hZ rfl ?_
      rw [h16]
      refine Ev.imul dX6_text_143 ?_
      rw [e8]
      refine Ev.icmp_ge (tgt := 165) dX6_text_144 (by decide) (fun c144 => ?_) (fun c144 => by first | exact absurd (Int32.le_refl _) c144 | exact absurd c144 (Int32.le_refl _))
      exact kk M hZ
    · intro t ht ih M hZ
      refine Ev.ild3 dX6_text_136 ?_
      refine Ev.bipush (v := 8) dX6_text_137 (by decide) ?_
      refine Ev.ald0 dX6_text_139 ?_
      refine Ev.mgv (kx := 16) dX6_text_140 fX6_161 hZ rfl ?_
      rw [h16]
      refine Ev.imul dX6_text_143 ?_
      rw [e8]
      refine Ev.icmp_ge (tgt := 165) dX6_text_144 (by decide) (fun c144 => by first | exact absurd c144 (nI_ge ht (by omega)) | exact absurd (nI_ge ht (by omega)) c144) (fun c144 => ?_)
      refine Ev.ald0 dX6_text_147 ?_
      refine Ev.mgr (kx := 1) dX6_text_148 fX6_13 hZ rfl ?_
      refine Ev.ild3 dX6_text_151 ?_
      refine Ev.ald0 dX6_text_152 ?_
      refine Ev.mgr (kx := 17) dX6_text_153 fX6_27 hZ rfl ?_
      refine Ev.ild3 dX6_text_156 ?_
      refine Ev.mld (j := t) mq17 dX6_text_157 hZ (by first | assumption | (simp only [nI, Int32.ofNat_add, Int32.ofNat_mul]; done) | (simp only [nI, Int32.ofNat_add, Int32.ofNat_mul]; rfl) | rfl) (by omega) ?_
      (try simp only [ux_s, ux_n, ne_eq, Nat.reduceEqDiff, Nat.succ_ne_self, not_false_eq_true])
      refine Ev.mst (j := t) mq1 dX6_text_158 hZ (by first | assumption | (simp only [nI, Int32.ofNat_add, Int32.ofNat_mul]; done) | (simp only [nI, Int32.ofNat_add, Int32.ofNat_mul]; rfl) | rfl) (by omega) (fun M hZ => ?_)
      (try simp only [ux_u, ux_s, ux_n, ne_eq, Nat.reduceEqDiff, Nat.succ_ne_self, not_false_eq_true] at hZ)
      apply Ev.iinc3 dX6_text_159 rfl rfl
      · first | exact nI_inc _ | rfl
      refine Ev.goto (tgt := 136) dX6_text_162 (by decide) ?_
      refine ih M (hZ.xc rfl (congrArg (ux X 1) (funext fun j => ?_)))
      by_cases e : j = t
      · rw [e, pk_us, if_pos (by omega)]
      · rw [pk_un e]
        by_cases e2 : j < t
        · rw [if_pos e2, if_pos (by omega)]
        · rw [if_neg e2, if_neg (by omega)]
  refine KL M (hZ.xc rfl (ux_id (funext fun j => ?_)).symm)
  rw [if_neg (by omega)]
set_option maxRecDepth 20000 in
theorem m_tx2 {Q : Option Value → Wd → Prop} {x1 x2 x3 : Int32} {m : Nat → Int32} {rf lo hi k : Nat} (hr : rf ≤ 999) (hl : lo ≤ 999) (h16 : v 16 = nI k) (h18 : v 18 = nI rf) (h19 : v 19 = nI lo) (h20 : lo ≠ 0 → v 20 = nI hi) (kk : ∀ M', MZ a M0 v L (ux X 1 (upd (upd (upd m 330 (if 0 < rf then nI rf else 100)) 331 (if 0 < lo then nI lo else 1)) 332 (if 0 < lo then nI hi else 999))) M' → Q (some (.int (nI k))) M') (hZ : MZ a M0 v L (ux X 1 m) M) : Ev G mX6_text 165 [some (.ref (a 0)), some (.int x1), some (.int x2), some (.int x3)] [] M 0 0 Q := by
  have J3 : ∀ (y : Int32) (m1 : Nat → Int32) (M : Wd), m1 = upd (upd m 330 (if 0 < rf then nI rf else 100)) 331 (if 0 < lo then nI lo else 1) → y = (if 0 < lo then nI hi else 999) → MZ a M0 v L (ux X 1 m1) M → Ev G mX6_text 236 [some (.ref (a 0)), some (.int x1), some (.int x2), some (.int x3)] [.int y, .int 332, .ref (a 1)] M 0 0 Q := by
    intro y m1 M hm hy hZ
    subst hm; subst hy
    refine Ev.mst (j := 332) mq1 dX6_text_236 hZ (by first | assumption | (simp only [nI, Int32.ofNat_add, Int32.ofNat_mul]; done) | (simp only [nI, Int32.ofNat_add, Int32.ofNat_mul]; rfl) | rfl) (by omega) (fun M hZ => ?_)
    (try simp only [ux_u, ux_s, ux_n, ne_eq, Nat.reduceEqDiff, Nat.succ_ne_self, not_false_eq_true] at hZ)
    refine Ev.ald0 dX6_text_237 ?_
    refine Ev.mgv (kx := 16) dX6_text_238 fX6_161 hZ rfl ?_
    rw [h16]
    refine Ev.iret dX6_text_241 rfl rfl ?_
    exact kk _ hZ
  have J2 : ∀ (y : Int32) (m1 : Nat → Int32) (M : Wd), m1 = upd m 330 (if 0 < rf then nI rf else 100) → y = (if 0 < lo then nI lo else 1) → MZ a M0 v L (ux X 1 m1) M → Ev G mX6_text 211 [some (.ref (a 0)), some (.int x1), some (.int x2), some (.int x3)] [.int y, .int 331, .ref (a 1)] M 0 0 Q := by
    intro y m1 M hm hy hZ
    subst hm; subst hy
    by_cases hlo : 0 < lo
    · have e20 := h20 (by omega)
      refine Ev.mst (j := 331) mq1 dX6_text_211 hZ (by first | assumption | (simp only [nI, Int32.ofNat_add, Int32.ofNat_mul]; done) | (simp only [nI, Int32.ofNat_add, Int32.ofNat_mul]; rfl) | rfl) (by omega) (fun M hZ => ?_)
      (try simp only [ux_u, ux_s, ux_n, ne_eq, Nat.reduceEqDiff, Nat.succ_ne_self, not_false_eq_true] at hZ)
      refine Ev.ald0 dX6_text_212 ?_
      refine Ev.mgr (kx := 1) dX6_text_213 fX6_13 hZ rfl ?_
      refine Ev.sipush (v := 332) dX6_text_216 (by decide) ?_
      refine Ev.ald0 dX6_text_219 ?_
      refine Ev.mgv (kx := 19) dX6_text_220 fX6_167 hZ rfl ?_
      rw [h19]
      refine Ev.if_le (tgt := 233) dX6_text_223 (by decide) (fun c223 => by first | exact absurd c223 (nI_nle hlo (by omega)) | exact absurd (nI_nle hlo (by omega)) c223) (fun c223 => ?_)
      refine Ev.ald0 dX6_text_226 ?_
      refine Ev.mgv (kx := 20) dX6_text_227 fX6_170 hZ rfl ?_
      rw [e20]
      refine Ev.goto (tgt := 236) dX6_text_230 (by decide) ?_
      exact J3 _ _ _ rfl (if_pos hlo).symm hZ
    · have : lo = 0 := by omega
      subst this
      refine Ev.mst (j := 331) mq1 dX6_text_211 hZ (by first | assumption | (simp only [nI, Int32.ofNat_add, Int32.ofNat_mul]; done) | (simp only [nI, Int32.ofNat_add, Int32.ofNat_mul]; rfl) | rfl) (by omega) (fun M hZ => ?_)
      (try simp only [ux_u, ux_s, ux_n, ne_eq, Nat.reduceEqDiff, Nat.succ_ne_self, not_false_eq_true] at hZ)
      refine Ev.ald0 dX6_text_212 ?_
      refine Ev.mgr (kx := 1) dX6_text_213 fX6_13 hZ rfl ?_
      refine Ev.sipush (v := 332) dX6_text_216 (by decide) ?_
      refine Ev.ald0 dX6_text_219 ?_
      refine Ev.mgv (kx := 19) dX6_text_220 fX6_167 hZ rfl ?_
      rw [h19]
      refine Ev.if_le (tgt := 233) dX6_text_223 (by decide) (fun c223 => ?_) (fun c223 => by first | exact absurd (by decide) c223 | exact absurd c223 (by decide))
      refine Ev.sipush (v := 999) dX6_text_233 (by decide) ?_
      exact J3 _ _ _ rfl (if_neg hlo).symm hZ
  have J1 : ∀ (y : Int32) (M : Wd), y = (if 0 < rf then nI rf else 100) → MZ a M0 v L (ux X 1 m) M → Ev G mX6_text 188 [some (.ref (a 0)), some (.int x1), some (.int x2), some (.int x3)] [.int y, .int 330, .ref (a 1)] M 0 0 Q := by
    intro y M hy hZ
    subst hy
    by_cases hlo : 0 < lo
    · refine Ev.mst (j := 330) mq1 dX6_text_188 hZ (by first | assumption | (simp only [nI, Int32.ofNat_add, Int32.ofNat_mul]; done) | (simp only [nI, Int32.ofNat_add, Int32.ofNat_mul]; rfl) | rfl) (by omega) (fun M hZ => ?_)
      (try simp only [ux_u, ux_s, ux_n, ne_eq, Nat.reduceEqDiff, Nat.succ_ne_self, not_false_eq_true] at hZ)
      refine Ev.ald0 dX6_text_189 ?_
      refine Ev.mgr (kx := 1) dX6_text_190 fX6_13 hZ rfl ?_
      refine Ev.sipush (v := 331) dX6_text_193 (by decide) ?_
      refine Ev.ald0 dX6_text_196 ?_
      refine Ev.mgv (kx := 19) dX6_text_197 fX6_167 hZ rfl ?_
      rw [h19]
      refine Ev.if_le (tgt := 210) dX6_text_200 (by decide) (fun c200 => by first | exact absurd c200 (nI_nle hlo (by omega)) | exact absurd (nI_nle hlo (by omega)) c200) (fun c200 => ?_)
      refine Ev.ald0 dX6_text_203 ?_
      refine Ev.mgv (kx := 19) dX6_text_204 fX6_167 hZ rfl ?_
      rw [h19]
      refine Ev.goto (tgt := 211) dX6_text_207 (by decide) ?_
      exact J2 _ _ _ rfl (if_pos hlo).symm hZ
    · have : lo = 0 := by omega
      subst this
      refine Ev.mst (j := 330) mq1 dX6_text_188 hZ (by first | assumption | (simp only [nI, Int32.ofNat_add, Int32.ofNat_mul]; done) | (simp only [nI, Int32.ofNat_add, Int32.ofNat_mul]; rfl) | rfl) (by omega) (fun M hZ => ?_)
      (try simp only [ux_u, ux_s, ux_n, ne_eq, Nat.reduceEqDiff, Nat.succ_ne_self, not_false_eq_true] at hZ)
      refine Ev.ald0 dX6_text_189 ?_
      refine Ev.mgr (kx := 1) dX6_text_190 fX6_13 hZ rfl ?_
      refine Ev.sipush (v := 331) dX6_text_193 (by decide) ?_
      refine Ev.ald0 dX6_text_196 ?_
      refine Ev.mgv (kx := 19) dX6_text_197 fX6_167 hZ rfl ?_
      rw [h19]
      refine Ev.if_le (tgt := 210) dX6_text_200 (by decide) (fun c200 => ?_) (fun c200 => by first | exact absurd (by decide) c200 | exact absurd c200 (by decide))
      refine Ev.iconst (v := 1) dX6_text_210 (by decide) ?_
      exact J2 _ _ _ rfl (if_neg hlo).symm hZ
  by_cases hrf : 0 < rf
  · refine Ev.ald0 dX6_text_165 ?_
    refine Ev.mgr (kx := 1) dX6_text_166 fX6_13 hZ rfl ?_
    refine Ev.sipush (v := 330) dX6_text_169 (by decide) ?_
    refine Ev.ald0 dX6_text_172 ?_
    refine Ev.mgv (kx := 18) dX6_text_173 fX6_158 hZ rfl ?_
    rw [h18]
    refine Ev.if_le (tgt := 186) dX6_text_176 (by decide) (fun c176 => by first | exact absurd c176 (nI_nle hrf (by omega)) | exact absurd (nI_nle hrf (by omega)) c176) (fun c176 => ?_)
    refine Ev.ald0 dX6_text_179 ?_
    refine Ev.mgv (kx := 18) dX6_text_180 fX6_158 hZ rfl ?_
    rw [h18]
    refine Ev.goto (tgt := 188) dX6_text_183 (by decide) ?_
    exact J1 _ _ (if_pos hrf).symm hZ
  · have : rf = 0 := by omega
    subst this
    refine Ev.ald0 dX6_text_165 ?_
    refine Ev.mgr (kx := 1) dX6_text_166 fX6_13 hZ rfl ?_
    refine Ev.sipush (v := 330) dX6_text_169 (by decide) ?_
    refine Ev.ald0 dX6_text_172 ?_
    refine Ev.mgv (kx := 18) dX6_text_173 fX6_158 hZ rfl ?_
    rw [h18]
    refine Ev.if_le (tgt := 186) dX6_text_176 (by decide) (fun c176 => ?_) (fun c176 => by first | exact absurd (by decide) c176 | exact absurd c176 (by decide))
    refine Ev.bipush (v := 100) dX6_text_186 (by decide) ?_
    exact J1 _ _ (if_neg hrf).symm hZ
end TKG
