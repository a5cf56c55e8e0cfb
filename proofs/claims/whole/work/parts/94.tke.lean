/-! the reference reads an order -/
def O8 (f : Nat → Int32) (k : Nat) (x : Nat → Int32) : Prop := ∀ i, i < 8 → f (8 * k + i) = x i
theorem O8.st {f : Nat → Int32} {k i : Nat} {x z : Nat → Int32} {y : Int32} (h : O8 f k x) (hi : i < 8) (hz : ∀ j, j < 8 → z j = if j = i then y else x j) : O8 (upd f (8 * k + i) y) k z := fun j hj => by
  rw [hz j hj]
  by_cases e : j = i
  · rw [e, pk_us, if_pos rfl]
  · rw [pk_un (by omega), if_neg e]
    exact h j hj
def xx (sd kd q pr sh le ow : Nat) (i : Nat) : Int32 := if i = 0 then nI sd else if i = 1 then nI kd else if i = 2 then nI q else if i = 3 then nI pr else if i = 4 then nI sh else if i = 5 then nI le else if i = 6 then nI ow else 0
theorem xx2 {sd kd q j : Nat} (_ : j < 8) : xx sd kd q 0 0 0 0 j = if j = 2 then nI q else xx sd kd 0 0 0 0 0 j := by
  by_cases h : j = 2
  · subst h; rfl
  · rw [if_neg h]; simp only [xx, h, if_false]
theorem xx3 {sd kd q pr j : Nat} (_ : j < 8) : xx sd kd q pr 0 0 0 j = if j = 3 then nI pr else xx sd kd q 0 0 0 0 j := by
  by_cases h : j = 3
  · subst h; rfl
  · rw [if_neg h]; simp only [xx, h, if_false]
theorem xx4 {sd kd q pr sh j : Nat} (_ : j < 8) : xx sd kd q pr sh 0 0 j = if j = 4 then nI sh else xx sd kd q pr 0 0 0 j := by
  by_cases h : j = 4
  · subst h; rfl
  · rw [if_neg h]; simp only [xx, h, if_false]
theorem xx5 {sd kd q pr sh le j : Nat} (_ : j < 8) : xx sd kd q pr sh le 0 j = if j = 5 then nI le else xx sd kd q pr sh 0 0 j := by
  by_cases h : j = 5
  · subst h; rfl
  · rw [if_neg h]; simp only [xx, h, if_false]
theorem xx6 {sd kd q pr sh le ow j : Nat} (_ : j < 8) : xx sd kd q pr sh le ow j = if j = 6 then nI ow else xx sd kd q pr sh le 0 j := by
  by_cases h : j = 6
  · subst h; rfl
  · rw [if_neg h]; simp only [xx, h, if_false]
def PO (c : Nat → Nat) (n : Nat) (s : Ps) (v : Nat → Int32) (L : Int64) (X : Nat → Nat → Int32) (p : Nat) (x : Nat → Int32) : Prop := TC c n p v L X ∧ v 16 = nI s.2.2.1 ∧ s.2.2.1 < 40 ∧ Ar s.2.2.1 (X 17) s.2.1 ∧ O8 (X 17) s.2.2.1 x ∧ v 18 = nI s.2.2.2.1 ∧ s.2.2.2.1 ≤ 999 ∧ v 19 = nI s.2.2.2.2.1 ∧ s.2.2.2.2.1 ≤ 999 ∧ (s.2.2.2.2.1 ≠ 0 → v 20 = nI s.2.2.2.2.2)
theorem PO.v {c : Nat → Nat} {n : Nat} {s : Ps} {v v' : Nat → Int32} {L L' : Int64} {X : Nat → Nat → Int32} {p p' : Nat} {x : Nat → Int32} (h : PO c n s v L X p x) (hv : VT v v') (hT : TC c n p' v' L' X) : PO c n s v' L' X p' x := by
  obtain ⟨h1, h2, h3, h4, h5, h6, h7, h8, h9, h10⟩ := h
  exact ⟨hT, hv.w (by decide) h2, h3, h4, h5, hv.w (by decide) h6, h7, hv.w (by decide) h8, h9, fun z => hv.w (by decide) (h10 z)⟩
theorem PO.st {c : Nat → Nat} {n : Nat} {s : Ps} {v v' : Nat → Int32} {L L' : Int64} {X : Nat → Nat → Int32} {p p' i : Nat} {x z : Nat → Int32} {y y2 : Int32} (h : PO c n s v L X p x) (hv : VT (upd v 21 y2) v') (hT : TC c n p' v' L' X) (hi : i < 8) (hz : ∀ j, j < 8 → z j = if j = i then y else x j) : PO c n s v' L' (ux X 17 (upd (X 17) (8 * s.2.2.1 + i) y)) p' z := by
  obtain ⟨h1, h2, h3, h4, h5, h6, h7, h8, h9, h10⟩ := h
  have e : ∀ j, j ∉ [10, 11, 12, 13] → j ≠ 21 → v' j = v j := fun j q1 q2 => by rw [hv j q1, pk_un q2]
  refine ⟨hT.f, (e 16 (by decide) (by decide)).trans h2, h3, ?_, ?_, (e 18 (by decide) (by decide)).trans h6, h7, (e 19 (by decide) (by decide)).trans h8, h9, fun z => (e 20 (by decide) (by decide)).trans (h10 z)⟩
  · rw [ux_s]
    intro j hj
    rw [pk_un (by omega)]
    exact h4 j hj
  · rw [ux_s]
    exact h5.st hi hz
theorem nmb_b {c : Nat → Nat} {n p l h : Nat} {q : Nat × Nat} (hq : nmb c n p l h = .inr q) : l ≤ q.1 ∧ q.1 ≤ h := by
  rw [nmb] at hq
  split at hq
  · split at hq
    · rename_i h
      cases hq
      exact h
    · cases hq
  · cases hq
section TKE
variable {G : GP} {a : Nat → Nat} {M0 M : Wd} {v v0 : Nat → Int32} {L : Int64} {X X0 : Nat → Nat → Int32} {c : Nat → Nat} {n p : Nat} {s : Ps} {s1 k1 : Int32} {a4 : Option Value} {sd kd q pr sh le ow : Nat}
set_option maxRecDepth 20000 in
theorem m_ol6 (hK : KT v0 v X0 X) (hP : PO c n s v L X p (xx sd kd q pr sh le ow)) (h1 : kd = 0 → pr = 0) (h2 : kd ≠ 3 → sh = 0) (hk5 : kd < 5) (hZ : MZ a M0 v L X M) : Ev G mX6_orderLine 265 [some (.ref (a 0)), some (.int s1), some (.int (nI kd)), some (.int (8 * nI s.2.2.1)), a4] [] M 0 0 (fun u M' => ∃ x, u = some (.int x) ∧ Rs a M0 c n v0 X0 (olF s p sd kd q pr sh le ow) x M') := by
  obtain ⟨g1, g2, g3, g4, g5, g6, g7, g8, g9, g10⟩ := hP
  have hA : Ar (s.2.2.1 + 1) (X 17) (add8 s.2.1 s.2.2.1 (nI sd) (nI kd) (nI q) (nI pr) (nI sh) (nI le) (nI ow)) := by
    intro j hj
    by_cases e : j < 8 * s.2.2.1
    · rw [add8_lo (Or.inl e)]
      exact g4 j e
    · obtain ⟨e0, e1, e2, e3, e4, e5, e6, e7⟩ := add8_at (f := s.2.1) (k := s.2.2.1) (a0 := nI sd) (a1 := nI kd) (a2 := nI q) (a3 := nI pr) (a4 := nI sh) (a5 := nI le) (a6 := nI ow)
      have : j = 8 * s.2.2.1 + 0 ∨ j = 8 * s.2.2.1 + 1 ∨ j = 8 * s.2.2.1 + 2 ∨ j = 8 * s.2.2.1 + 3 ∨ j = 8 * s.2.2.1 + 4 ∨ j = 8 * s.2.2.1 + 5 ∨ j = 8 * s.2.2.1 + 6 ∨ j = 8 * s.2.2.1 + 7 := by omega
      rcases this with rfl | rfl | rfl | rfl | rfl | rfl | rfl | rfl
      · rw [e0]; exact g5 0 (by omega)
      · rw [e1]; exact g5 1 (by omega)
      · rw [e2]; exact g5 2 (by omega)
      · rw [e3, g5 3 (by omega)]
        show nI pr = _
        by_cases z : nI kd = 0
        · rw [if_pos z, h1 ((nI_eq (by omega) (by omega)).mp (z.trans nI_0.symm))]; rfl
        · rw [if_neg z]
      · rw [e4, g5 4 (by omega)]
        show nI sh = _
        by_cases z : nI kd = 3
        · rw [if_pos z]
        · rw [if_neg z, h2 (fun y => z (by rw [y]; rfl))]; rfl
      · rw [e5]; exact g5 5 (by omega)
      · rw [e6]; exact g5 6 (by omega)
      · rw [e7]; exact g5 7 (by omega)
  refine Ev.ald0 dX6_orderLine_265 ?_
  refine Ev.dup dX6_orderLine_266 rfl ?_
  refine Ev.mgv (kx := 16) dX6_orderLine_267 fX6_161 hZ rfl ?_
  rw [g2]
  refine Ev.iconst (v := 1) dX6_orderLine_270 (by decide) ?_
  refine Ev.iadd dX6_orderLine_271 ?_
  rw [nI_1]
  refine Ev.mput (kx := 16) dX6_orderLine_272 fX6_161 hZ rfl rfl (fun M hZ => ?_)
  refine Ev.iconst (v := 1) dX6_orderLine_275 (by decide) ?_
  refine Ev.iret dX6_orderLine_276 rfl rfl ?_
  refine ⟨_, rfl, _, _, _, hZ, hK.u (by decide), rfl, ⟨g1.u (by decide), pk_us, by show s.2.2.1 + 1 ≤ 40; omega, hA, ?_, g7, ?_, g9, fun z => ?_⟩⟩
  · rw [pk_un (by decide)]; exact g6
  · rw [pk_un (by decide)]; exact g8
  · rw [pk_un (by decide)]; exact g10 z
set_option maxRecDepth 20000 in
theorem m_ol5 (hK : KT v0 v X0 X) (hP : PO c n s v L X p (xx sd kd q pr sh le 0)) (h1 : kd = 0 → pr = 0) (h2 : kd ≠ 3 → sh = 0) (hk5 : kd < 5) (hZ : MZ a M0 v L X M) : Ev G mX6_orderLine 229 [some (.ref (a 0)), some (.int s1), some (.int (nI kd)), some (.int (8 * nI s.2.2.1)), a4] [] M 1 6 (fun u M' => ∃ x, u = some (.int x) ∧ Rs a M0 c n v0 X0 (ol5 c n s p sd kd q pr sh le) x M') := by
  rw [ol5]
  have J : ∀ (y : Int32) (v1 : Nat → Int32) (L1 : Int64) (M : Wd), KT v0 v1 X0 X → PO c n s v1 L1 X (tkE c n p) (xx sd kd q pr sh le 0) → (match nmb c n (tkE c n p) 0 7 with
    | .inl F => y = 0 ∧ ∃ (v' : Nat → Int32) (L' : Int64) (X' : Nat → Nat → Int32), MZ a M0 v' L' X' M ∧ KT v1 v' X X' ∧ v' 15 = nI F
    | .inr q => y = 1 ∧ ∃ (v' : Nat → Int32) (L' : Int64), MZ a M0 v' L' (ux X 17 (upd (X 17) (8 * s.2.2.1 + 6) (nI q.1))) M ∧ VT (upd v1 21 (nI q.1)) v' ∧ TC c n q.2 v' L' X) → Ev G mX6_orderLine 260 [some (.ref (a 0)), some (.int s1), some (.int (nI kd)), some (.int (8 * nI s.2.2.1)), a4] [.int y] M 0 0 (fun u M' => ∃ x, u = some (.int x) ∧ Rs a M0 c n v0 X0 (match nmb c n (tkE c n p) 0 7 with
        | .inl F => .inl F
        | .inr (w, p') => olF s p' sd kd q pr sh le w) x M') := by
    intro y v1 L1 M hK hP hy
    cases hq : nmb c n (tkE c n p) 0 7 with
    | inl F =>
      rw [hq] at hy
      obtain ⟨rfl, v2, L2, X2, hZ, hK2, h15⟩ := hy
      refine Ev.if_ne (tgt := 265) dX6_orderLine_260 (by decide) (fun c260 => by first | exact absurd c260 rfl | exact absurd rfl c260) (fun c260 => ?_)
      refine Ev.iconst (v := 0) dX6_orderLine_263 (by decide) ?_
      refine Ev.iret dX6_orderLine_264 rfl rfl ?_
      exact ⟨_, rfl, _, _, _, hZ, hK.tr hK2, rfl, h15⟩
    | inr q2 =>
      have hb := nmb_b hq
      rw [hq] at hy
      obtain ⟨rfl, v2, L2, hZ, hv2, hT2⟩ := hy
      refine Ev.if_ne (tgt := 265) dX6_orderLine_260 (by decide) (fun c260 => ?_) (fun c260 => by first | exact absurd (by decide) c260 | exact absurd c260 (by decide))
      exact m_ol6 ((hK.u (by decide)).tr hv2.k).x (hP.st hv2 hT2 (by omega) (fun j hj => xx6 hj)) h1 h2 hk5 hZ
  refine Ev.ald0 dX6_orderLine_229 ?_
  refine Ev.bipush (v := 98) dX6_orderLine_230 (by decide) ?_
  refine Ev.bipush (v := 121) dX6_orderLine_232 (by decide) ?_
  refine Ev.iconst (v := 0) dX6_orderLine_234 (by decide) ?_
  refine Ev.iconst (v := 0) dX6_orderLine_235 (by decide) ?_
  refine Ev.iconst (v := 0) dX6_orderLine_236 (by decide) ?_
  refine Ev.iconst (v := 0) dX6_orderLine_237 (by decide) ?_
  refine Ev.csLn (Yc := mX6_spelt) dX6_orderLine_238 lX6_132 vX6_spelt rfl (m_spelt (W := Wby) (by decide +kernel)) rfl rfl rfl (by omega) (by omega) ?_
  rintro y M1 ⟨rfl, hF⟩
  have hZ := hZ.fw hF
  refine Ev.cvI (Yc := mX6_isWord) (ci := 6) dX6_orderLine_241 lX6_154 vX6_isWord rfl (m_isWord (W := Wby) (wok_of _ rfl) hP.1 hZ) ⟨_, hZ.2.1.1⟩ rfl rfl rfl rfl ?_
  rintro y241 M9 ⟨hy241, rfl⟩
  refine Ev.if_eq (tgt := 265) dX6_orderLine_244 (by decide) (fun c244 => ?_) (fun c244 => ?_)
  · rw [if_neg (v01_f hy241 c244)]
    exact m_ol6 hK hP h1 h2 hk5 hZ
  · refine Ev.ald0 dX6_orderLine_247 ?_
    refine Ev.cvV (Yc := mX6_go) (ci := 6) dX6_orderLine_248 lX6_151 vX6_go rfl (m_goT hP.1 hZ) ⟨_, hZ.2.1.1⟩ rfl rfl rfl rfl ?_
    rintro M1 ⟨v1, L1, hZ, hv, hT1⟩
    have hP1 := hP.v hv hT1
    refine Ev.ald0 dX6_orderLine_251 ?_
    refine Ev.bipush (v := 6) dX6_orderLine_252 (by decide) ?_
    refine Ev.iconst (v := 0) dX6_orderLine_254 (by decide) ?_
    refine Ev.bipush (v := 7) dX6_orderLine_255 (by decide) ?_
    refine Ev.cvI (Yc := mX6_keeps) (ci := 6) dX6_orderLine_257 lX6_177 vX6_keeps rfl (m_keeps (k := s.2.2.1) 6 0 7 rfl rfl rfl (by omega) (by omega) (by omega) hT1 hP1.2.1 hP1.2.2.1 hZ) ⟨_, hZ.2.1.1⟩ rfl rfl rfl rfl ?_
    rintro y257 M2 hy257
    rw [if_pos (v01_t hy241 c244)]
    exact J _ _ _ _ (hK.tr hv.k) hP1 hy257
set_option maxRecDepth 20000 in
theorem m_ol4 (hK : KT v0 v X0 X) (hP : PO c n s v L X p (xx sd kd q pr sh 0 0)) (h1 : kd = 0 → pr = 0) (h2 : kd ≠ 3 → sh = 0) (hk5 : kd < 5) (hq9 : q ≤ 9999) (hZ : MZ a M0 v L X M) : Ev G mX6_orderLine 185 [some (.ref (a 0)), some (.int s1), some (.int (nI kd)), some (.int (8 * nI s.2.2.1)), a4] [] M 2 12 (fun u M' => ∃ x, u = some (.int x) ∧ Rs a M0 c n v0 X0 (ol4 c n s p sd kd q pr sh) x M') := by
  rw [ol4]
  have J : ∀ (y : Int32) (v1 : Nat → Int32) (L1 : Int64) (M : Wd), KT v0 v1 X0 X → PO c n s v1 L1 X (tkE c n p) (xx sd kd q pr sh 0 0) → (match nmb c n (tkE c n p) 0 q with
    | .inl F => y = 0 ∧ ∃ (v' : Nat → Int32) (L' : Int64) (X' : Nat → Nat → Int32), MZ a M0 v' L' X' M ∧ KT v1 v' X X' ∧ v' 15 = nI F
    | .inr q => y = 1 ∧ ∃ (v' : Nat → Int32) (L' : Int64), MZ a M0 v' L' (ux X 17 (upd (X 17) (8 * s.2.2.1 + 5) (nI q.1))) M ∧ VT (upd v1 21 (nI q.1)) v' ∧ TC c n q.2 v' L' X) → Ev G mX6_orderLine 224 [some (.ref (a 0)), some (.int s1), some (.int (nI kd)), some (.int (8 * nI s.2.2.1)), a4] [.int y] M 1 6 (fun u M' => ∃ x, u = some (.int x) ∧ Rs a M0 c n v0 X0 (match nmb c n (tkE c n p) 0 q with
        | .inl F => .inl F
        | .inr (w, p') => ol5 c n s p' sd kd q pr sh w) x M') := by
    intro y v1 L1 M hK hP hy
    cases hq : nmb c n (tkE c n p) 0 q with
    | inl F =>
      rw [hq] at hy
      obtain ⟨rfl, v2, L2, X2, hZ, hK2, h15⟩ := hy
      refine Ev.if_ne (tgt := 229) dX6_orderLine_224 (by decide) (fun c224 => by first | exact absurd c224 rfl | exact absurd rfl c224) (fun c224 => ?_)
      refine Ev.iconst (v := 0) dX6_orderLine_227 (by decide) ?_
      refine Ev.iret dX6_orderLine_228 rfl rfl ?_
      exact ⟨_, rfl, _, _, _, hZ, hK.tr hK2, rfl, h15⟩
    | inr q2 =>
      have hb := nmb_b hq
      rw [hq] at hy
      obtain ⟨rfl, v2, L2, hZ, hv2, hT2⟩ := hy
      refine Ev.if_ne (tgt := 229) dX6_orderLine_224 (by decide) (fun c224 => ?_) (fun c224 => by first | exact absurd (by decide) c224 | exact absurd c224 (by decide))
      exact m_ol5 ((hK.u (by decide)).tr hv2.k).x (hP.st hv2 hT2 (by omega) (fun j hj => xx5 hj)) h1 h2 hk5 hZ
  have e2 : X 17 (8 * s.2.2.1 + 2) = nI q := hP.2.2.2.2.1 2 (by omega)
  have hlt := hP.2.2.1
  refine Ev.ald0 dX6_orderLine_185 ?_
  refine Ev.bipush (v := 108) dX6_orderLine_186 (by decide) ?_
  refine Ev.bipush (v := 101) dX6_orderLine_188 (by decide) ?_
  refine Ev.bipush (v := 97) dX6_orderLine_190 (by decide) ?_
  refine Ev.bipush (v := 115) dX6_orderLine_192 (by decide) ?_
  refine Ev.bipush (v := 116) dX6_orderLine_194 (by decide) ?_
  refine Ev.iconst (v := 0) dX6_orderLine_196 (by decide) ?_
  refine Ev.csLn (Yc := mX6_spelt) dX6_orderLine_197 lX6_132 vX6_spelt rfl (m_spelt (W := Wle) (by decide +kernel)) rfl rfl rfl (by omega) (by omega) ?_
  rintro y M1 ⟨rfl, hF⟩
  have hZ := hZ.fw hF
  refine Ev.cvI (Yc := mX6_isWord) (ci := 6) dX6_orderLine_200 lX6_154 vX6_isWord rfl (m_isWord (W := Wle) (wok_of _ rfl) hP.1 hZ) ⟨_, hZ.2.1.1⟩ rfl rfl rfl rfl ?_
  rintro y200 M9 ⟨hy200, rfl⟩
  refine Ev.if_eq (tgt := 229) dX6_orderLine_203 (by decide) (fun c203 => ?_) (fun c203 => ?_)
  · rw [if_neg (v01_f hy200 c203)]
    exact m_ol5 hK hP h1 h2 hk5 hZ
  · refine Ev.ald0 dX6_orderLine_206 ?_
    refine Ev.cvV (Yc := mX6_go) (ci := 6) dX6_orderLine_207 lX6_151 vX6_go rfl (m_goT hP.1 hZ) ⟨_, hZ.2.1.1⟩ rfl rfl rfl rfl ?_
    rintro M1 ⟨v1, L1, hZ, hv, hT1⟩
    have hP1 := hP.v hv hT1
    refine Ev.ald0 dX6_orderLine_210 ?_
    refine Ev.iconst (v := 5) dX6_orderLine_211 (by decide) ?_
    refine Ev.iconst (v := 0) dX6_orderLine_212 (by decide) ?_
    refine Ev.ald0 dX6_orderLine_213 ?_
    refine Ev.mgr (kx := 17) dX6_orderLine_214 fX6_27 hZ rfl ?_
    refine Ev.ild3 dX6_orderLine_217 ?_
    refine Ev.iconst (v := 2) dX6_orderLine_218 (by decide) ?_
    refine Ev.iadd dX6_orderLine_219 ?_
    refine Ev.mld (j := 8 * s.2.2.1 + 2) mq17 dX6_orderLine_220 hZ (by first | assumption | (simp only [nI, Int32.ofNat_add, Int32.ofNat_mul]; done) | (simp only [nI, Int32.ofNat_add, Int32.ofNat_mul]; rfl) | rfl) (by omega) ?_
    (try simp only [ux_s, ux_n, ne_eq, Nat.reduceEqDiff, Nat.succ_ne_self, not_false_eq_true])
    rw [e2]
    refine Ev.cvI (Yc := mX6_keeps) (ci := 6) dX6_orderLine_221 lX6_177 vX6_keeps rfl (m_keeps (k := s.2.2.1) 5 0 q rfl rfl rfl (by omega) (by omega) (by omega) hT1 hP1.2.1 hP1.2.2.1 hZ) ⟨_, hZ.2.1.1⟩ rfl rfl rfl rfl ?_
    rintro y221 M2 hy221
    rw [if_pos (v01_t hy200 c203)]
    exact J _ _ _ _ (hK.tr hv.k) hP1 hy221
set_option maxRecDepth 20000 in
theorem m_ol3 (hK : KT v0 v X0 X) (hP : PO c n s v L X p (xx sd kd q pr 0 0 0)) (h1 : kd = 0 → pr = 0) (hk5 : kd < 5) (hq9 : q ≤ 9999) (hZ : MZ a M0 v L X M) : Ev G mX6_orderLine 140 [some (.ref (a 0)), some (.int s1), some (.int (nI kd)), some (.int (8 * nI s.2.2.1)), a4] [] M 3 18 (fun u M' => ∃ x, u = some (.int x) ∧ Rs a M0 c n v0 X0 (ol3 c n s p sd kd q pr) x M') := by
  rw [ol3]
  have e2 : X 17 (8 * s.2.2.1 + 2) = nI q := hP.2.2.2.2.1 2 (by omega)
  have hlt := hP.2.2.1
  by_cases h3 : kd = 3
  · rw [if_pos h3]
    subst h3
    have J2 : ∀ (p1 : Nat) (y : Int32) (v1 : Nat → Int32) (L1 : Int64) (M : Wd), KT v0 v1 X0 X → PO c n s v1 L1 X p1 (xx sd 3 q pr 0 0 0) → (match nmb c n p1 1 q with
      | .inl F => y = 0 ∧ ∃ (v' : Nat → Int32) (L' : Int64) (X' : Nat → Nat → Int32), MZ a M0 v' L' X' M ∧ KT v1 v' X X' ∧ v' 15 = nI F
      | .inr q => y = 1 ∧ ∃ (v' : Nat → Int32) (L' : Int64), MZ a M0 v' L' (ux X 17 (upd (X 17) (8 * s.2.2.1 + 4) (nI q.1))) M ∧ VT (upd v1 21 (nI q.1)) v' ∧ TC c n q.2 v' L' X) → Ev G mX6_orderLine 180 [some (.ref (a 0)), some (.int s1), some (.int (nI 3)), some (.int (8 * nI s.2.2.1)), a4] [.int y] M 2 12 (fun u M' => ∃ x, u = some (.int x) ∧ Rs a M0 c n v0 X0 (match nmb c n p1 1 q with
          | .inl F => .inl F
          | .inr (w, p') => ol4 c n s p' sd 3 q pr w) x M') := by
      intro p1 y v1 L1 M hK hP hy
      cases hq : nmb c n p1 1 q with
      | inl F =>
        rw [hq] at hy
        obtain ⟨rfl, v2, L2, X2, hZ, hK2, h15⟩ := hy
        refine Ev.if_ne (tgt := 185) dX6_orderLine_180 (by decide) (fun c180 => by first | exact absurd c180 rfl | exact absurd rfl c180) (fun c180 => ?_)
        refine Ev.iconst (v := 0) dX6_orderLine_183 (by decide) ?_
        refine Ev.iret dX6_orderLine_184 rfl rfl ?_
        exact ⟨_, rfl, _, _, _, hZ, hK.tr hK2, rfl, h15⟩
      | inr q2 =>
        have hb := nmb_b hq
        rw [hq] at hy
        obtain ⟨rfl, v2, L2, hZ, hv2, hT2⟩ := hy
        refine Ev.if_ne (tgt := 185) dX6_orderLine_180 (by decide) (fun c180 => ?_) (fun c180 => by first | exact absurd (by decide) c180 | exact absurd c180 (by decide))
        exact m_ol4 ((hK.u (by decide)).tr hv2.k).x (hP.st hv2 hT2 (by omega) (fun j hj => xx4 hj)) h1 (fun z => absurd rfl z) hk5 hq9 hZ
    have J1 : ∀ (y : Int32) (M : Wd), (match wrd c n p Wsh with
        | .inl F => y = 0 ∧ ∃ (v' : Nat → Int32) (L' : Int64), MZ a M0 v' L' X M ∧ VT (upd v 15 (nI F)) v'
        | .inr p' => y = 1 ∧ ∃ (v' : Nat → Int32) (L' : Int64), MZ a M0 v' L' X M ∧ VT v v' ∧ TC c n p' v' L' X) → Ev G mX6_orderLine 163 [some (.ref (a 0)), some (.int s1), some (.int (nI 3)), some (.int (8 * nI s.2.2.1)), a4] [.int y] M 2 12 (fun u M' => ∃ x, u = some (.int x) ∧ Rs a M0 c n v0 X0 (match wrd c n p Wsh with
        | .inl F => .inl F
        | .inr p' => ol3b c n s p' sd 3 q pr) x M') := by
      intro y M hy
      cases hw : wrd c n p Wsh with
      | inl F =>
        rw [hw] at hy
        obtain ⟨rfl, v2, L2, hZ, hv2⟩ := hy
        refine Ev.if_eq (tgt := 183) dX6_orderLine_163 (by decide) (fun c163 => ?_) (fun c163 => by first | exact absurd rfl c163 | exact absurd c163 rfl)
        refine Ev.iconst (v := 0) dX6_orderLine_183 (by decide) ?_
        refine Ev.iret dX6_orderLine_184 rfl rfl ?_
        exact ⟨_, rfl, _, _, _, hZ, (hK.u (by decide)).tr hv2.k, rfl, by rw [hv2 15 (by decide), pk_us]⟩
      | inr p1 =>
        rw [hw] at hy
        obtain ⟨rfl, v2, L2, hZ, hv2, hT2⟩ := hy
        have hP1 := hP.v hv2 hT2
        refine Ev.if_eq (tgt := 183) dX6_orderLine_163 (by decide) (fun c163 => by first | exact absurd c163 (by decide) | exact absurd (by decide) c163) (fun c163 => ?_)
        refine Ev.ald0 dX6_orderLine_166 ?_
        refine Ev.iconst (v := 4) dX6_orderLine_167 (by decide) ?_
        refine Ev.iconst (v := 1) dX6_orderLine_168 (by decide) ?_
        refine Ev.ald0 dX6_orderLine_169 ?_
        refine Ev.mgr (kx := 17) dX6_orderLine_170 fX6_27 hZ rfl ?_
        refine Ev.ild3 dX6_orderLine_173 ?_
        refine Ev.iconst (v := 2) dX6_orderLine_174 (by decide) ?_
        refine Ev.iadd dX6_orderLine_175 ?_
        refine Ev.mld (j := 8 * s.2.2.1 + 2) mq17 dX6_orderLine_176 hZ (by first | assumption | (simp only [nI, Int32.ofNat_add, Int32.ofNat_mul]; done) | (simp only [nI, Int32.ofNat_add, Int32.ofNat_mul]; rfl) | rfl) (by omega) ?_
        (try simp only [ux_s, ux_n, ne_eq, Nat.reduceEqDiff, Nat.succ_ne_self, not_false_eq_true])
        rw [e2]
        refine Ev.cvI (Yc := mX6_keeps) (ci := 6) dX6_orderLine_177 lX6_177 vX6_keeps rfl (m_keeps (k := s.2.2.1) 4 1 q rfl rfl rfl (by omega) (by omega) (by omega) hT2 hP1.2.1 hP1.2.2.1 hZ) ⟨_, hZ.2.1.1⟩ rfl rfl rfl rfl ?_
        rintro y177 M2 hy177
        exact J2 p1 _ _ _ _ (hK.tr hv2.k) hP1 hy177
    refine Ev.ild2 dX6_orderLine_140 ?_
    refine Ev.iconst (v := 3) dX6_orderLine_141 (by decide) ?_
    refine Ev.icmp_ne (tgt := 185) dX6_orderLine_142 (by decide) (fun c142 => by first | exact absurd c142 rfl | exact absurd rfl c142) (fun c142 => ?_)
    refine Ev.ald0 dX6_orderLine_145 ?_
    refine Ev.bipush (v := 115) dX6_orderLine_146 (by decide) ?_
    refine Ev.bipush (v := 104) dX6_orderLine_148 (by decide) ?_
    refine Ev.bipush (v := 111) dX6_orderLine_150 (by decide) ?_
    refine Ev.bipush (v := 119) dX6_orderLine_152 (by decide) ?_
    refine Ev.bipush (v := 115) dX6_orderLine_154 (by decide) ?_
    refine Ev.iconst (v := 0) dX6_orderLine_156 (by decide) ?_
    refine Ev.csLn (Yc := mX6_spelt) dX6_orderLine_157 lX6_132 vX6_spelt rfl (m_spelt (W := Wsh) (by decide +kernel)) rfl rfl rfl (by omega) (by omega) ?_
    rintro y M1 ⟨rfl, hF⟩
    have hZ := hZ.fw hF
    refine Ev.cvI (Yc := mX6_word) (ci := 6) dX6_orderLine_160 lX6_181 vX6_word rfl (m_word (W := Wsh) (wok_of _ rfl) hP.1 hZ) ⟨_, hZ.2.1.1⟩ rfl rfl rfl rfl ?_
    rintro y160 M2 hy160
    exact J1 _ _ hy160
  · rw [if_neg h3]
    have h3n : nI kd ≠ 3 := fun z => h3 ((nI_eq (b := 3) (by omega) (by omega)).mp z)
    refine Ev.ild2 dX6_orderLine_140 ?_
    refine Ev.iconst (v := 3) dX6_orderLine_141 (by decide) ?_
    refine Ev.icmp_ne (tgt := 185) dX6_orderLine_142 (by decide) (fun c142 => ?_) (fun c142 => by first | exact absurd h3n c142 | exact absurd c142 h3n)
    exact Ev.wd (m_ol4 hK hP h1 (fun _ => rfl) hk5 hq9 hZ) (by omega) (by omega)
set_option maxRecDepth 20000 in
theorem m_ol2 (hK : KT v0 v X0 X) (hP : PO c n s v L X p (xx sd kd q 0 0 0 0)) (hk5 : kd < 5) (hq9 : q ≤ 9999) (hZ : MZ a M0 v L X M) : Ev G mX6_orderLine 104 [some (.ref (a 0)), some (.int s1), some (.int (nI kd)), some (.int (8 * nI s.2.2.1)), a4] [] M 4 24 (fun u M' => ∃ x, u = some (.int x) ∧ Rs a M0 c n v0 X0 (ol2 c n s p sd kd q) x M') := by
  rw [ol2]
  have hlt := hP.2.2.1
  by_cases h0 : kd = 0
  · rw [if_pos h0]
    subst h0
    refine Ev.ild2 dX6_orderLine_104 ?_
    refine Ev.if_eq (tgt := 140) dX6_orderLine_105 (by decide) (fun c105 => ?_) (fun c105 => by first | exact absurd rfl c105 | exact absurd c105 rfl)
    exact Ev.wd (m_ol3 hK hP (fun _ => rfl) hk5 hq9 hZ) (by omega) (by omega)
  · rw [if_neg h0]
    have h0n : ¬ nI kd = 0 := nI_ne0 (by omega) (by omega)
    have J2 : ∀ (p1 : Nat) (y : Int32) (v1 : Nat → Int32) (L1 : Int64) (M : Wd), KT v0 v1 X0 X → PO c n s v1 L1 X p1 (xx sd kd q 0 0 0 0) → (match nmb c n p1 1 999 with
      | .inl F => y = 0 ∧ ∃ (v' : Nat → Int32) (L' : Int64) (X' : Nat → Nat → Int32), MZ a M0 v' L' X' M ∧ KT v1 v' X X' ∧ v' 15 = nI F
      | .inr q => y = 1 ∧ ∃ (v' : Nat → Int32) (L' : Int64), MZ a M0 v' L' (ux X 17 (upd (X 17) (8 * s.2.2.1 + 3) (nI q.1))) M ∧ VT (upd v1 21 (nI q.1)) v' ∧ TC c n q.2 v' L' X) → Ev G mX6_orderLine 135 [some (.ref (a 0)), some (.int s1), some (.int (nI kd)), some (.int (8 * nI s.2.2.1)), a4] [.int y] M 3 18 (fun u M' => ∃ x, u = some (.int x) ∧ Rs a M0 c n v0 X0 (match nmb c n p1 1 999 with
          | .inl F => .inl F
          | .inr (w, p') => ol3 c n s p' sd kd q w) x M') := by
      intro p1 y v1 L1 M hK hP hy
      cases hq : nmb c n p1 1 999 with
      | inl F =>
        rw [hq] at hy
        obtain ⟨rfl, v2, L2, X2, hZ, hK2, h15⟩ := hy
        refine Ev.if_ne (tgt := 140) dX6_orderLine_135 (by decide) (fun c135 => by first | exact absurd c135 rfl | exact absurd rfl c135) (fun c135 => ?_)
        refine Ev.iconst (v := 0) dX6_orderLine_138 (by decide) ?_
        refine Ev.iret dX6_orderLine_139 rfl rfl ?_
        exact ⟨_, rfl, _, _, _, hZ, hK.tr hK2, rfl, h15⟩
      | inr q2 =>
        have hb := nmb_b hq
        rw [hq] at hy
        obtain ⟨rfl, v2, L2, hZ, hv2, hT2⟩ := hy
        refine Ev.if_ne (tgt := 140) dX6_orderLine_135 (by decide) (fun c135 => ?_) (fun c135 => by first | exact absurd (by decide) c135 | exact absurd c135 (by decide))
        exact m_ol3 ((hK.u (by decide)).tr hv2.k).x (hP.st hv2 hT2 (by omega) (fun j hj => xx3 hj)) (fun z => absurd z h0) hk5 hq9 hZ
    have J1 : ∀ (y : Int32) (M : Wd), (match wrd c n p Wat with
        | .inl F => y = 0 ∧ ∃ (v' : Nat → Int32) (L' : Int64), MZ a M0 v' L' X M ∧ VT (upd v 15 (nI F)) v'
        | .inr p' => y = 1 ∧ ∃ (v' : Nat → Int32) (L' : Int64), MZ a M0 v' L' X M ∧ VT v v' ∧ TC c n p' v' L' X) → Ev G mX6_orderLine 123 [some (.ref (a 0)), some (.int s1), some (.int (nI kd)), some (.int (8 * nI s.2.2.1)), a4] [.int y] M 3 18 (fun u M' => ∃ x, u = some (.int x) ∧ Rs a M0 c n v0 X0 (match wrd c n p Wat with
        | .inl F => .inl F
        | .inr p' => ol2b c n s p' sd kd q) x M') := by
      intro y M hy
      cases hw : wrd c n p Wat with
      | inl F =>
        rw [hw] at hy
        obtain ⟨rfl, v2, L2, hZ, hv2⟩ := hy
        refine Ev.if_eq (tgt := 138) dX6_orderLine_123 (by decide) (fun c123 => ?_) (fun c123 => by first | exact absurd rfl c123 | exact absurd c123 rfl)
        refine Ev.iconst (v := 0) dX6_orderLine_138 (by decide) ?_
        refine Ev.iret dX6_orderLine_139 rfl rfl ?_
        exact ⟨_, rfl, _, _, _, hZ, (hK.u (by decide)).tr hv2.k, rfl, by rw [hv2 15 (by decide), pk_us]⟩
      | inr p1 =>
        rw [hw] at hy
        obtain ⟨rfl, v2, L2, hZ, hv2, hT2⟩ := hy
        have hP1 := hP.v hv2 hT2
        refine Ev.if_eq (tgt := 138) dX6_orderLine_123 (by decide) (fun c123 => by first | exact absurd c123 (by decide) | exact absurd (by decide) c123) (fun c123 => ?_)
        refine Ev.ald0 dX6_orderLine_126 ?_
        refine Ev.iconst (v := 3) dX6_orderLine_127 (by decide) ?_
        refine Ev.iconst (v := 1) dX6_orderLine_128 (by decide) ?_
        refine Ev.sipush (v := 999) dX6_orderLine_129 (by decide) ?_
        refine Ev.cvI (Yc := mX6_keeps) (ci := 6) dX6_orderLine_132 lX6_177 vX6_keeps rfl (m_keeps (k := s.2.2.1) 3 1 999 rfl rfl rfl (by omega) (by omega) (by omega) hT2 hP1.2.1 hP1.2.2.1 hZ) ⟨_, hZ.2.1.1⟩ rfl rfl rfl rfl ?_
        rintro y132 M2 hy132
        exact J2 p1 _ _ _ _ (hK.tr hv2.k) hP1 hy132
    refine Ev.ild2 dX6_orderLine_104 ?_
    refine Ev.if_eq (tgt := 140) dX6_orderLine_105 (by decide) (fun c105 => by first | exact absurd c105 h0n | exact absurd h0n c105) (fun c105 => ?_)
    refine Ev.ald0 dX6_orderLine_108 ?_
    refine Ev.bipush (v := 97) dX6_orderLine_109 (by decide) ?_
    refine Ev.bipush (v := 116) dX6_orderLine_111 (by decide) ?_
    refine Ev.iconst (v := 0) dX6_orderLine_113 (by decide) ?_
    refine Ev.iconst (v := 0) dX6_orderLine_114 (by decide) ?_
    refine Ev.iconst (v := 0) dX6_orderLine_115 (by decide) ?_
    refine Ev.iconst (v := 0) dX6_orderLine_116 (by decide) ?_
    refine Ev.csLn (Yc := mX6_spelt) dX6_orderLine_117 lX6_132 vX6_spelt rfl (m_spelt (W := Wat) (by decide +kernel)) rfl rfl rfl (by omega) (by omega) ?_
    rintro y M1 ⟨rfl, hF⟩
    have hZ := hZ.fw hF
    refine Ev.cvI (Yc := mX6_word) (ci := 6) dX6_orderLine_120 lX6_181 vX6_word rfl (m_word (W := Wat) (wok_of _ rfl) hP.1 hZ) ⟨_, hZ.2.1.1⟩ rfl rfl rfl rfl ?_
    rintro y120 M2 hy120
    exact J1 _ _ hy120
end TKE
