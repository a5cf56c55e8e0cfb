/-! the law's helpers: they ask, and catch -/
def CtH (G : GP) (Y : MI) (hh : List (Nat × Nat × Nat × Nat)) (As : List Value) (M : Wd) (mc ms : Nat) (Q : Option Value → Wd → Prop) : Prop :=
  vx_Met G.1 Y.1 (.codeWith Y.1 Y.2.1 Y.2.2.1 Y.2.2.2.1 hh :: GW) { frames := Y.2.2.2.2.1, cells := mc, slots := ms, locals := Y.2.2.2.2.2 } (va_Pc As (fun U => Pic G M U.heap ∧ Kx G U)) (ctQ G Q) (fun _ _ _ => False) mc ms (gA G)
theorem goesX {G : GP} {p : Program} {e : Env} {R : Room} {s : State} {m : MethodId} {args : Array Value} {below : List Frame} {meth : Method} {c : Code} {H : Heap} {locs : List Loc} {cells slots mc ms pc : Nat} {Z : State → Prop} {arr : Array Slot} {st0 rest : List Value} {a : Array Value} {Qc : Option Value → Wd → Prop} {Qx : Wd → Prop}
    (hr : vx_Run p G.1 e R s m args below meth c H locs cells slots mc ms (F0 m pc arr st0) rest (ctQ G Qc a) (fun E st t => E = nse ∧ (∃ M' : Wd, Qx M' ∧ Pic G M' t.heap ∧ Kx G t) ∧ va_F (gA G) st t) (gA G)) (hS : va_S (gA G) s.heap H locs)
    (kk : ∀ (v : Option Value) (M' : Wd) (H1 : Heap) (locs1 : List Loc), Qc v M' → Pic G M' H1 → va_S (gA G) s.heap H1 locs1 → W p G.1 e R s m args below meth c H1 locs1 (cells + mc) (slots + ms) Z (F0 m (pc + 3) arr (v.toList ++ rest)))
    (kx : ∀ (M' : Wd) (H1 : Heap) (locs1 : List Loc) (q : Addr) (ce : Cell), Qx M' → Pic G M' H1 → va_S (gA G) s.heap H1 locs1 → H1[q]? = some ce → ce.vm = .none → s.vm.findClass nse = some ce.cls → vx_W p G.1 e R s m args below meth c H1 locs1 (cells + mc) (slots + ms) Z (F0 m pc arr rest) q) : W p G.1 e R s m args below meth c H locs cells slots Z (F0 m pc arr st0) := by
  intro T hT X
  rcases hr T hT X with ⟨v, st₀, t, T', L, h0, X', hL, e1, e2, ⟨⟨v', M', hv, hQ, hP, hK⟩, hz, hk⟩, st⟩ | ⟨q, st₀, t, T', L, E, ce, h0, X', hL, e1, e2, ⟨rfl, ⟨M', hQ, hP, hK⟩, hz, hk⟩, hce, hcv, hcl, st⟩
  · cases hv
    rw [h0] at hz hk
    obtain ⟨t2, a1, b1⟩ := kk v M' T'.heap (locs ++ L) hQ (by rw [e1]; exact hP)
      ⟨Nat.le_trans hS.1 (by rw [e1]; exact hz), fun q h1 h2 => by rw [e1, hk q (Nat.lt_of_lt_of_le h1 hS.1) h2]; exact hS.2.1 q h1 h2, fun q hq => by
        rcases List.mem_append.mp hq with h | h
        · exact hS.2.2 q h
        · exact hL q h⟩ T' rfl X'
    exact ⟨t2, st t2 a1, b1⟩
  · rw [h0] at hz hk
    obtain ⟨t2, a1, b1⟩ := kx M' T'.heap (locs ++ L) q ce hQ (by rw [e1]; exact hP)
      ⟨Nat.le_trans hS.1 (by rw [e1]; exact hz), fun q h1 h2 => by rw [e1, hk q (Nat.lt_of_lt_of_le h1 hS.1) h2]; exact hS.2.1 q h1 h2, fun q hq => by
        rcases List.mem_append.mp hq with h | h
        · exact hS.2.2 q h
        · exact hL q h⟩ (by rw [e1]; exact hce) hcv hcl T' rfl X'
    exact ⟨t2, st.trans a1, b1⟩
theorem xs_w9 : Cond.classLink "OpenCrossLaw" 13 nse ∈ GW := gw_in 870 (by decide +kernel) rfl
theorem CtH.of {G : GP} {Y Yc : MI} {As Ac st rest fs : List Value} {M : Wd} {pcI hpc i n mc ms a ci b1 b2 : Nat} {Q Qc : Option Value → Wd → Prop} {ls : List (Option Value)} (hy : Y.1.cls = "OpenCrossLaw") (hlw : Y.1.name ≠ "law" ∧ thP Y.1 = none) (hret : Y.2.2.2.1 = some .int) (hn : Nat.ble (lg_sl As).length Y.2.2.1 = true) (hn2 : Nat.ble (enl As).length Y.2.2.1 = true) (hls : enl As ++ List.replicate (Y.2.2.1 - (enl As).length) none = ls)
    (pre : ∀ (p : Program) (e : Env) (R : Room) (s : State) (m : MethodId) (args : Array Value) (below : List Frame) (meth : Method) (c : Code) (Z : State → Prop), Cx G Y p R s m args meth c → ∀ (arr : Array Slot) (H : Heap) (locs : List Loc) (cells slots : Nat), lh arr Y.2.2.1 ls → W p G.1 e R s m args below meth c H locs cells slots Z (F0 m pcI arr st) → W p G.1 e R s m args below meth c H locs cells slots Z (F0 m 0 arr []))
    (hd : Dc Y pcI (.invokevirtual i) 3) (hl : Cond.methodLink Y.1.cls i Yc.1 ∈ GW) (hm : MV Yc n) (hr : rmok Yc Y = true) (hM : gt M a = some (ob ci fs)) (hci : vwCl[ci]?.map (·.1) = some Yc.1.cls) (hc : CtX G Yc (.ref a :: Ac) M mc ms Qc) (hna : Ac.length = n) (hst : st = Ac.reverse ++ .ref a :: rest) (hw : Nat.ble (rest.map fun v => v.category).sum 8 = true)
    (hcov : covers ⟨b1, b2, hpc, 13⟩ pcI = true)
    (k : ∀ (v : Option Value) (M' : Wd), v ≠ none → Qc v M' → Ev G Y (pcI + 3) ls (v.toList ++ rest) M' 0 0 Q) (kx : ∀ (M' : Wd) (q : Nat), Qc none M' → Ev G Y hpc ls [.ref q] M' 0 0 Q) : CtH G Y [(b1, b2, hpc, 13)] As M mc ms Q := by
  refine vx_ofWH (cc := Y.2.1) (maxL := Y.2.2.1) (ret := Y.2.2.2.1) (by rw [hy]; decide +kernel) rfl ?_
  intro p e s m args below meth c s₁ B hml hv
  obtain ⟨rfl, hP, hK⟩ := hv
  have hts0 := atoms_spec (ws := .codeWith Y.1 Y.2.1 Y.2.2.1 Y.2.2.2.1 [(b1, b2, hpc, 13)] :: GW) B.pre
  have hown : s.vm.findClass Y.1.cls = some m.cls := findClass_of_methodNamed B.named
  have hin : meth.name = Y.1.name := (name_of_methodNamed B.named B.method).1
  have hlocks := B.notSynchronized
  have hx := B.exec
  have hb := B.bytes
  have hrr := B.returns
  have htab : c.exceptionTable.toList = [] ++ (⟨b1, b2, hpc, 13⟩ : ExceptionTableEntry) :: [] := vx_table (x := Y.1) B (hts0 _ List.mem_cons_self)
  have hts : ∀ w ∈ GW, w.before As.toArray s = true := fun w hw => hts0 w (List.mem_cons_of_mem _ hw)
  rw [lg_entry_eq]
  subst hls
  have C : Cx G Y p (headSpec (.codeWith Y.1 Y.2.1 Y.2.2.1 Y.2.2.2.1 [(b1, b2, hpc, 13)] :: GW) { frames := Y.2.2.2.2.1, cells := mc, slots := ms, locals := Y.2.2.2.2.2 }).room s m As.toArray meth c := ⟨hx, hb, hml, hown, hts, hK, Nat.le_refl _, Nat.le_refl _, hin, hlocks, hrr, hP.2.2, fun q => absurd q hlw.1⟩
  have hl9 := enl_entry As (Nat.le_of_ble_eq_true hn) (Nat.le_of_ble_eq_true hn2)
  have hR : Rt G Y Q p e (headSpec (.codeWith Y.1 Y.2.1 Y.2.2.1 Y.2.2.2.1 [(b1, b2, hpc, 13)] :: GW) { frames := Y.2.2.2.2.1, cells := mc, slots := ms, locals := Y.2.2.2.2.2 }).room s m As.toArray below meth c (vx_MQ below (ctQ G Q) (fun _ _ _ => False) As.toArray s mc ms (gA G)) := by
    refine ⟨fun v M' pc arr H locs cells slots hQ hP' hS hc hs hi => vx_ret ?_, fun M' pc arr H locs cells slots _ _ _ _ _ _ ht => absurd (hlw.2.symm.trans ht) (by simp)⟩
    refine W.widen (k := mc) (n := ms) hc hs ?_
    match v, hi with
    | none, hi => exact absurd (hret.symm.trans hi.2) (by simp)
    | some (.int x), hi =>
      obtain ⟨h1, ty, h2, h3⟩ := hi
      exact W.zret hx hb (hrr.trans h2) h3 (fun t ht hW => ⟨⟨_, M', rfl, hQ, by rw [ht]; exact hP', hK.go hW ht hS⟩, hS.F ht⟩) hS.2.2 h1
    | some (.long x), hi => exact W.lret hx hb (hrr.trans hi.2) (fun t ht hW => ⟨⟨_, M', rfl, hQ, by rw [ht]; exact hP', hK.go hW ht hS⟩, hS.F ht⟩) hS.2.2 hi.1
  refine pre p e _ s m As.toArray below meth c _ C _ s.heap [] 0 0 hl9 ?_
  subst hst
  obtain ⟨⟨q1, q2, q3, q4, q5⟩, q6, q7⟩ := hm
  obtain ⟨q0, hq, -⟩ := gt_pl (cA := gC G) hM
  obtain ⟨r, hr1, hr2⟩ := Option.map_eq_some_iff.mp hci
  have hrec := va_recv hK.1 hP.1 hr1 hq
  rw [hr2] at hrec
  refine goesX (Qc := fun v M' => v ≠ none ∧ Qc v M') (Qx := Qc none) (vx_runV (As := Ac) (rest := rest) ⟨C.1, C.2.1, C.2.2.1, C.2.2.2.1, hts⟩ hc ⟨callB_of n hts (gw_cons q1) rfl rfl rfl (hts _ q2) (hts _ hl) ⟨q3, q4, q5⟩ (rmok_of hr C.2.2.2.2.2.2.1 C.2.2.2.2.2.2.2.1), hts _ q6, hts _ q7⟩ ⟨ct_blind, hrec, fun U hU hW => ⟨rfl, by rw [hU]; exact hP, hK.go hW hU va_S.rf⟩⟩ rfl hna hl9.1 rfl (lv_room (Nat.le_of_ble_eq_true hw)) hd ⟨Nat.le_of_eq (Nat.zero_add _), Nat.le_of_eq (Nat.zero_add _)⟩) va_S.rf (fun v M' H1 locs1 g1 g2 g3 => ?_) (fun M' H1 locs1 q ce g1 g2 g3 g4 g5 g6 => ?_)
  · exact k v M' g1.1 g1.2 p e _ s m As.toArray below meth c _ C hR _ H1 locs1 _ _ hl9 g2 g3 (Nat.le_of_eq (Nat.zero_add _)) (Nat.le_of_eq (Nat.zero_add _))
  · have hown9 := hown
    rw [hy] at hown9
    exact vx_catch (own := "OpenCrossLaw") (name := nse) (E := nse) hown9 [] ⟨b1, b2, hpc, 13⟩ [] htab (fun z hz => nomatch hz) hcov (show (13 : Nat) ≠ 0 by decide) (hts _ xs_w9) (va_any rfl hK.2.2.2.2.2.2.2.2.2.2) g4 g5 g6 (kx M' q g1 p e _ s m As.toArray below meth c _ C hR _ H1 locs1 _ _ hl9 g2 g3 (Nat.le_of_eq (Nat.zero_add _)) (Nat.le_of_eq (Nat.zero_add _)))
theorem kr_fr {q : Nat → Nat} {S : Sg} {M M' : Wd} (h : KR q S M M') : Fr (qfr q) M M' := by
  obtain ⟨_, _, _, _, h⟩ := h
  exact h
/-- what a helper leaves -/
def QH (ok : Prop) (x : Int32) (q : Nat → Nat) (S : Sg) (M : Wd) (o : Nat) (f : Nat → Int64) : Option Value → Wd → Prop := fun v M' => (ok ∧ v = some (.int 0) ∧ ∃ M1, KR q S M M1 ∧ M' = up M1 o (la 1 (vp_updL f 0 x.toInt64))) ∨ (¬ ok ∧ v = some (.int 1) ∧ KR q S M M')
section HLP
variable {G : GP} {M : Wd} {q : Nat → Nat} {na o : Nat} {S : Sg} {f : Nat → Int64}
set_option maxRecDepth 20000 in
theorem h_curve {p k : Int32} (hst : G.1.stackTraces = false) (hC : CR q na S M) (hS : Sok S) (ho : gt M o = some (la 1 f)) (hoq : o ∉ qfr q) : CtH G mL_curve [(0, 10, 13, 13)] [.ref (q 0), .int p, .int k, .ref o] M 1 6 (QH ((1 ≤ p ∧ p ≤ 999) ∧ (0 ≤ k ∧ k ≤ 5)) (an_curve S p k) q S M o f) := by
  refine CtH.of (Yc := mX5_curve) (Ac := [.int p, .int k]) (rest := [.int 0, .ref o]) (pcI := 5) (i := 7) (n := 2) (ci := 5) (a := q 0) rfl (by decide) rfl rfl rfl rfl
    (fun p e R s m args below meth c Z C arr H locs cells slots hl k => lv_aload_n C.1 C.2.1 dL_curve_0 rfl (hl.2.2 3 _ rfl) (lv_iconst C.1 C.2.1 dL_curve_1 rfl (lv_aload_n C.1 C.2.1 dL_curve_2 rfl (hl.2.2 0 _ rfl) (lv_iload_n C.1 C.2.1 dL_curve_3 rfl (hl.2.2 1 _ rfl) (lv_iload_n C.1 C.2.1 dL_curve_4 rfl (hl.2.2 2 _ rfl) k)))))
    dL_curve_5 lL_7 vX5_curve rfl hC.2.1 rfl (x_curve hst hC hS) rfl rfl rfl rfl (fun v M' hv hQ => ?_) (fun M' z hQ => ?_)
  · obtain ⟨hq | hq, hK⟩ := hQ
    · obtain ⟨ok, rfl⟩ := hq
      refine Ev.i2l dL_curve_8 ?_
      refine Ev.last (n := 1) (x := 0) dL_curve_9 ((kr_fr hK).rd hoq ho) (nI_in (c := 0) (by decide) (by decide)) ?_
      refine Ev.goto (tgt := 17) dL_curve_10 (by decide) ?_
      refine Ev.iconst (v := 0) dL_curve_17 (by decide) ?_
      refine Ev.iret dL_curve_18 rfl rfl ?_
      exact Or.inl ⟨ok, rfl, M', hK, rfl⟩
    · exact absurd hq.2 hv
  · obtain ⟨hq | hq, hK⟩ := hQ
    · exact absurd hq.2 (by simp)
    · refine Ev.ast4 dL_curve_13 rfl rfl ?_
      refine Ev.iconst (v := 1) dL_curve_15 (by decide) ?_
      refine Ev.iret dL_curve_16 rfl rfl ?_
      exact Or.inr ⟨hq.1, rfl, hK⟩
set_option maxRecDepth 20000 in
theorem h_past {i k : Int32} (hst : G.1.stackTraces = false) (hC : CR q na S M) (hc : S.2.2.2.2.2 < 100000) (ho : gt M o = some (la 1 f)) (hoq : o ∉ qfr q) : CtH G mL_past [(0, 10, 13, 13)] [.ref (q 0), .int i, .int k, .ref o] M 1 6 (QH (pok S i k) (an_past S i k) q S M o f) := by
  refine CtH.of (Yc := mX5_past) (Ac := [.int i, .int k]) (rest := [.int 0, .ref o]) (pcI := 5) (i := 22) (n := 2) (ci := 5) (a := q 0) rfl (by decide) rfl rfl rfl rfl
    (fun p e R s m args below meth c Z C arr H locs cells slots hl k => lv_aload_n C.1 C.2.1 dL_past_0 rfl (hl.2.2 3 _ rfl) (lv_iconst C.1 C.2.1 dL_past_1 rfl (lv_aload_n C.1 C.2.1 dL_past_2 rfl (hl.2.2 0 _ rfl) (lv_iload_n C.1 C.2.1 dL_past_3 rfl (hl.2.2 1 _ rfl) (lv_iload_n C.1 C.2.1 dL_past_4 rfl (hl.2.2 2 _ rfl) k)))))
    dL_past_5 lL_22 vX5_past rfl hC.2.1 rfl (x_past hst hC hc) rfl rfl rfl rfl (fun v M' hv hQ => ?_) (fun M' z hQ => ?_)
  · obtain ⟨hq | hq, hK⟩ := hQ
    · obtain ⟨ok, rfl⟩ := hq
      refine Ev.i2l dL_past_8 ?_
      refine Ev.last (n := 1) (x := 0) dL_past_9 ((kr_fr hK).rd hoq ho) (nI_in (c := 0) (by decide) (by decide)) ?_
      refine Ev.goto (tgt := 17) dL_past_10 (by decide) ?_
      refine Ev.iconst (v := 0) dL_past_17 (by decide) ?_
      refine Ev.iret dL_past_18 rfl rfl ?_
      exact Or.inl ⟨ok, rfl, M', hK, rfl⟩
    · exact absurd hq.2 hv
  · obtain ⟨hq | hq, hK⟩ := hQ
    · exact absurd hq.2 (by simp)
    · refine Ev.ast4 dL_past_13 rfl rfl ?_
      refine Ev.iconst (v := 1) dL_past_15 (by decide) ?_
      refine Ev.iret dL_past_16 rfl rfl ?_
      exact Or.inr ⟨hq.1, rfl, hK⟩
set_option maxRecDepth 20000 in
theorem h_crossed {k : Int32} (hst : G.1.stackTraces = false) (hC : CR q na S M) (hS : Sok S) (ho : gt M o = some (la 1 f)) (hoq : o ∉ qfr q) : CtH G mL_crossed [(0, 9, 12, 13)] [.ref (q 0), .int k, .ref o] M 1 6 (QH (0 ≤ k ∧ k ≤ 6) (an_crossed S k) q S M o f) := by
  refine CtH.of (Yc := mX5_crossed) (Ac := [.int k]) (rest := [.int 0, .ref o]) (pcI := 4) (i := 15) (n := 1) (ci := 5) (a := q 0) rfl (by decide) rfl rfl rfl rfl
    (fun p e R s m args below meth c Z C arr H locs cells slots hl k => lv_aload_n C.1 C.2.1 dL_crossed_0 rfl (hl.2.2 2 _ rfl) (lv_iconst C.1 C.2.1 dL_crossed_1 rfl (lv_aload_n C.1 C.2.1 dL_crossed_2 rfl (hl.2.2 0 _ rfl) (lv_iload_n C.1 C.2.1 dL_crossed_3 rfl (hl.2.2 1 _ rfl) k))))
    dL_crossed_4 lL_15 vX5_crossed rfl hC.2.1 rfl (x_crossed hst hC hS) rfl rfl rfl rfl (fun v M' hv hQ => ?_) (fun M' z hQ => ?_)
  · obtain ⟨hq | hq, hK⟩ := hQ
    · obtain ⟨ok, rfl⟩ := hq
      refine Ev.i2l dL_crossed_7 ?_
      refine Ev.last (n := 1) (x := 0) dL_crossed_8 ((kr_fr hK).rd hoq ho) (nI_in (c := 0) (by decide) (by decide)) ?_
      refine Ev.goto (tgt := 15) dL_crossed_9 (by decide) ?_
      refine Ev.iconst (v := 0) dL_crossed_15 (by decide) ?_
      refine Ev.iret dL_crossed_16 rfl rfl ?_
      exact Or.inl ⟨ok, rfl, M', hK, rfl⟩
    · exact absurd hq.2 hv
  · obtain ⟨hq | hq, hK⟩ := hQ
    · exact absurd hq.2 (by simp)
    · refine Ev.ast3 dL_crossed_12 rfl rfl ?_
      refine Ev.iconst (v := 1) dL_crossed_13 (by decide) ?_
      refine Ev.iret dL_crossed_14 rfl rfl ?_
      exact Or.inr ⟨hq.1, rfl, hK⟩
set_option maxRecDepth 20000 in
theorem h_notice {k : Int32} (hst : G.1.stackTraces = false) (hC : CR q na S M) (hS : Sok S) (ho : gt M o = some (la 1 f)) (hoq : o ∉ qfr q) : CtH G mL_notice [(0, 9, 12, 13)] [.ref (q 0), .int k, .ref o] M 1 6 (QH ((0 ≤ k ∧ k ≤ 3) ∨ k = 6) (an_notice S k) q S M o f) := by
  refine CtH.of (Yc := mX5_notice) (Ac := [.int k]) (rest := [.int 0, .ref o]) (pcI := 4) (i := 19) (n := 1) (ci := 5) (a := q 0) rfl (by decide) rfl rfl rfl rfl
    (fun p e R s m args below meth c Z C arr H locs cells slots hl k => lv_aload_n C.1 C.2.1 dL_notice_0 rfl (hl.2.2 2 _ rfl) (lv_iconst C.1 C.2.1 dL_notice_1 rfl (lv_aload_n C.1 C.2.1 dL_notice_2 rfl (hl.2.2 0 _ rfl) (lv_iload_n C.1 C.2.1 dL_notice_3 rfl (hl.2.2 1 _ rfl) k))))
    dL_notice_4 lL_19 vX5_notice rfl hC.2.1 rfl (x_notice hst hC hS) rfl rfl rfl rfl (fun v M' hv hQ => ?_) (fun M' z hQ => ?_)
  · obtain ⟨hq | hq, hK⟩ := hQ
    · obtain ⟨ok, rfl⟩ := hq
      refine Ev.i2l dL_notice_7 ?_
      refine Ev.last (n := 1) (x := 0) dL_notice_8 ((kr_fr hK).rd hoq ho) (nI_in (c := 0) (by decide) (by decide)) ?_
      refine Ev.goto (tgt := 15) dL_notice_9 (by decide) ?_
      refine Ev.iconst (v := 0) dL_notice_15 (by decide) ?_
      refine Ev.iret dL_notice_16 rfl rfl ?_
      exact Or.inl ⟨ok, rfl, M', hK, rfl⟩
    · exact absurd hq.2 hv
  · obtain ⟨hq | hq, hK⟩ := hQ
    · exact absurd hq.2 (by simp)
    · refine Ev.ast3 dL_notice_12 rfl rfl ?_
      refine Ev.iconst (v := 1) dL_notice_13 (by decide) ?_
      refine Ev.iret dL_notice_14 rfl rfl ?_
      exact Or.inr ⟨hq.1, rfl, hK⟩
end HLP
