/-! methods that answer or throw -/
section XTH
variable {p : Program} {l : Launch} {e : Env} {R : Room} {s : State} {m : MethodId} {args : Array Value} {below : List Frame} {meth : Method} {c : Code} {H : Heap} {locs : List Loc} {cells slots : Nat} {free : Addr → Prop} {ls : Array Slot} {rest : List Value}
variable {Qc : Array Value → State → Outcome → State → Prop} {XC : String → State → State → Prop}
theorem xs_thr {cc : ByteArray} {pc : Nat} (hexec : p.tables.exec = Jvm.exec) (hb : c.code = cc) (hl : l.stackTraces = false) {text : String} {is mc ms sa : Nat} {A : Nat → Prop}
    (hown : s.vm.findClass "OpenCross" = some m.cls) (hts : ∀ w ∈ GW, w.before args s = true) (hcast : va_Nw (.castable nse nse) s) (hstr : vk_R "OpenCross" is text sa s)
    (hU : vx_Zq Bundle.tN "UNASSIGNED_STACK" Bundle.steD A s s.heap) (hN : vx_Zq Bundle.tN "SUPPRESSED_SENTINEL" Bundle.listD A s s.heap) (hS : va_S A s.heap H locs) (hsize : ls.size = c.maxLocals)
    (d0 : decode cc pc = .ok (.new 158, 3)) (d3 : decode cc (pc + 3) = .ok (.dup, 1)) (d4 : decode cc (pc + 4) = .ok (.ldc is, 2)) (d6 : decode cc (pc + 6) = .ok (.invokespecial 162, 3)) (d9 : decode cc (pc + 9) = .ok (.athrow, 1))
    (hout : ∀ x ∈ c.exceptionTable.toList, False)
    (hRframes : 5 < R.frames) (hRlocals : (rest.map fun v => v.category).sum + 82 ≤ R.locals) (hRcells : cells + 1 ≤ R.cells) (hRslots : slots + 6 ≤ R.slots) (hlocks : meth.locks = false)
    (hx : ∀ t : State, s.WarmedH t.vm → H.size ≤ t.heap.size → (∀ q : Nat, q < H.size → t.heap[q]? = H[q]?) → XC nse s t)
    (hf : ∀ z ∈ locs, free z.base) (hc : cells + 1 ≤ mc) (hs : slots + 6 ≤ ms) :
    W p l e R s m args below meth c H locs cells slots (vx_MQ below Qc XC args s mc ms free) (F0 m pc ls rest) := by
  intro T hT X
  have htr : e.platform.stackTraces = false := (show e.platform.stackTraces = l.stackTraces by rw [X.admits.platform]).trans hl
  have Y := vx_rebase X (R' := { frames := R.frames, locals := R.locals, cells := 1, slots := 6 }) (Nat.le_refl _) (Nat.le_refl _) hRcells hRslots
  obtain ⟨s', hA⟩ : ∃ z, z = (T.setVm s.vm).setFrames (.invoking m args :: below) := ⟨_, rfl⟩
  rw [← hA] at Y
  have hvm : s'.vm = s.vm := by rw [hA]; rfl
  have hhp : s'.heap = H := by rw [hA]; exact hT
  have hW0 : s.WarmedH s'.vm := by rw [hvm]; exact State.WarmedH.refl s
  have hat := xs_all hts hcast
  have hat' : ∀ w ∈ (xs_at "OpenCross" 162).filter vx_no, w.before args s' = true := fun w hw => vx_ot_at hW0 hvm.symm (xs_w3 w hw) (hat w hw)
  have hk' : (Cond.classLink "OpenCross" 158 nse).before args s' = true := vx_ot_at hW0 hvm.symm (by decide +kernel) (hts _ xs_w4)
  have hini' : (Cond.initialized nse).before args s' = true := vx_ot_at hW0 hvm.symm (by decide +kernel) (hts _ xs_w5)
  have hU' : vx_Zq Bundle.tN "UNASSIGNED_STACK" Bundle.steD A s' s'.heap := by rw [hhp]; exact vx_Zq.moved hW0.alike (hU.kept hS.2.1)
  have hN' : vx_Zq Bundle.tN "SUPPRESSED_SENTINEL" Bundle.listD A s' s'.heap := by rw [hhp]; exact vx_Zq.moved hW0.alike (hN.kept hS.2.1)
  have h : ∀ w ∈ xs_at "OpenCross" 162, w.before args s' = true := vx_own hat' (vx_isRefq hU'.1) (vx_isRefq hN'.1) hU'.2.word hN'.2.word
  have hown' : s'.vm.findClass "OpenCross" = some m.cls := by rw [hvm]; exact hown
  have hins : (Cond.instantiable nse 6).before args s' = true := h _ (by simp [xs_at])
  obtain ⟨vm₁, cX, kX, hfX, hkX, -, -, X₁, st1⟩ := Y.newCold hexec (own := "OpenCross") (C := nse) (index := 158) (n := 6) hown' hk' hins hini'
    (g := F0 m pc ls rest) rfl (by rw [hb]; exact d0) (Nat.le_refl _) (Nat.le_refl _)
  generalize hT1 : (T.setVm vm₁).pushCell { cls := cX, slots := kX.instanceTypes.map defaultValue, vm := .none } = T1 at X₁ st1
  have hcat : (Value.ref T.heap.size).category = 1 := rfl
  have hcellA : T1.heap[T.heap.size]? = some (freshCell cX kX) := by rw [← hT1]; exact State.heap_pushCell_size _ _
  have d3' : decode c.code (pc + 3) = .ok (.dup, 1) := by rw [hb]; exact d3
  have d4' : decode c.code (pc + 4) = .ok (.ldc is, 2) := by rw [hb]; exact d4
  have hstr' : vk_R "OpenCross" is text sa s' := vk_R.warm hW0 hstr
  obtain ⟨U, hsteps, hrun, hend, hW, hsame, ce, hce, hcv, hcl0⟩ := xs_ctor X₁ hexec htr (own := "OpenCross") (ic := 162) hown' h (fun x hx => nomatch hx) hfX hkX hcellA (by rw [hhp, hT]; exact Nat.le_refl _) (msg := .ref sa) rfl
    (g := { method := m, pc := pc + 6, locals := ls, stack := .ref sa :: .ref T.heap.size :: .ref T.heap.size :: rest, locked := none }) rfl hsize rfl rfl (rest := rest) rfl
    (by rw [hb]; exact d6) (by rw [hb]; exact d9) (fun x hx => (hout x hx).elim) hRframes (by simp only [List.map_cons, List.sum_cons, hcat]; omega) hlocks
  obtain ⟨f1, f2⟩ := vx_frame hsame
  rw [hhp] at f1 f2
  have hWs : s.WarmedH U.vm := State.WarmedH.trans hW0 hW
  have hcl : s.vm.findClass nse = some ce.cls := by
    rw [hvm] at hcl0
    exact hcl0
  have hall : s.sameButNew ({ U with vm := s.vm } : State) locs mc ms := by
    subst hA
    obtain ⟨e1, e2⟩ := hsame
    rw [State.setFrames_setFrames] at e1
    have h2 : (T.setVm s.vm).sameButNew ({ U with vm := s.vm } : State) [] (0 + 1) (0 + 6) := ⟨e1, e2⟩
    have h3 := X.same.trans h2
    rw [List.append_nil] at h3
    exact h3.mono hc hs
  refine ⟨U, ?_, .threw T.heap.size, hrun, hend, Or.inr ⟨T.heap.size, rfl, nse, ce, locs, hx U hWs f1 (fun q hq => f2 q hq (fun z hz => nomatch hz)), hce, hcv, hcl, hWs, hall, hf⟩⟩
  refine st1 _ ?_
  show Steps p.tables e below (T1.setTop { method := m, pc := pc + 3, locals := ls, stack := .ref T.heap.size :: rest, locked := none }) _
  jvm_step X₁.here [X₁.here.top, hexec, d3', Value.category]
  exact X₁.ldcString hexec (own := "OpenCross") (text := text) (index := is) (a := sa) hown' hstr'.1 hstr'.2
    (g := { method := m, pc := pc + 4, locals := ls, stack := .ref T.heap.size :: .ref T.heap.size :: rest, locked := none }) rfl d4' _ hsteps
theorem xs_thw {cc : ByteArray} {pc : Nat} (hexec : p.tables.exec = Jvm.exec) (hb : c.code = cc) (hl : l.stackTraces = false) {text : String} {is mc ms sa : Nat} {A : Nat → Prop}
    (hown : s.vm.findClass "OpenCross" = some m.cls) (hts : ∀ w ∈ GW, w.before args s = true) (hcast : va_Nw (.castable nse nse) s) (hstr : vk_R "OpenCross" is text sa s)
    (hU : vx_Zq Bundle.tN "UNASSIGNED_STACK" Bundle.steD A s s.heap) (hN : vx_Zq Bundle.tN "SUPPRESSED_SENTINEL" Bundle.listD A s s.heap) (hS : va_S A s.heap H locs) (hsize : ls.size = c.maxLocals)
    (d0 : decode cc pc = .ok (.new 158, 3)) (d3 : decode cc (pc + 3) = .ok (.dup, 1)) (d4 : decode cc (pc + 4) = .ok (.ldc_w is, 3)) (d6 : decode cc (pc + 7) = .ok (.invokespecial 162, 3)) (d9 : decode cc (pc + 10) = .ok (.athrow, 1))
    (hout : ∀ x ∈ c.exceptionTable.toList, False)
    (hRframes : 5 < R.frames) (hRlocals : (rest.map fun v => v.category).sum + 82 ≤ R.locals) (hRcells : cells + 1 ≤ R.cells) (hRslots : slots + 6 ≤ R.slots) (hlocks : meth.locks = false)
    (hx : ∀ t : State, s.WarmedH t.vm → H.size ≤ t.heap.size → (∀ q : Nat, q < H.size → t.heap[q]? = H[q]?) → XC nse s t)
    (hf : ∀ z ∈ locs, free z.base) (hc : cells + 1 ≤ mc) (hs : slots + 6 ≤ ms) :
    W p l e R s m args below meth c H locs cells slots (vx_MQ below Qc XC args s mc ms free) (F0 m pc ls rest) := by
  intro T hT X
  have htr : e.platform.stackTraces = false := (show e.platform.stackTraces = l.stackTraces by rw [X.admits.platform]).trans hl
  have Y := vx_rebase X (R' := { frames := R.frames, locals := R.locals, cells := 1, slots := 6 }) (Nat.le_refl _) (Nat.le_refl _) hRcells hRslots
  obtain ⟨s', hA⟩ : ∃ z, z = (T.setVm s.vm).setFrames (.invoking m args :: below) := ⟨_, rfl⟩
  rw [← hA] at Y
  have hvm : s'.vm = s.vm := by rw [hA]; rfl
  have hhp : s'.heap = H := by rw [hA]; exact hT
  have hW0 : s.WarmedH s'.vm := by rw [hvm]; exact State.WarmedH.refl s
  have hat := xs_all hts hcast
  have hat' : ∀ w ∈ (xs_at "OpenCross" 162).filter vx_no, w.before args s' = true := fun w hw => vx_ot_at hW0 hvm.symm (xs_w3 w hw) (hat w hw)
  have hk' : (Cond.classLink "OpenCross" 158 nse).before args s' = true := vx_ot_at hW0 hvm.symm (by decide +kernel) (hts _ xs_w4)
  have hini' : (Cond.initialized nse).before args s' = true := vx_ot_at hW0 hvm.symm (by decide +kernel) (hts _ xs_w5)
  have hU' : vx_Zq Bundle.tN "UNASSIGNED_STACK" Bundle.steD A s' s'.heap := by rw [hhp]; exact vx_Zq.moved hW0.alike (hU.kept hS.2.1)
  have hN' : vx_Zq Bundle.tN "SUPPRESSED_SENTINEL" Bundle.listD A s' s'.heap := by rw [hhp]; exact vx_Zq.moved hW0.alike (hN.kept hS.2.1)
  have h : ∀ w ∈ xs_at "OpenCross" 162, w.before args s' = true := vx_own hat' (vx_isRefq hU'.1) (vx_isRefq hN'.1) hU'.2.word hN'.2.word
  have hown' : s'.vm.findClass "OpenCross" = some m.cls := by rw [hvm]; exact hown
  have hins : (Cond.instantiable nse 6).before args s' = true := h _ (by simp [xs_at])
  obtain ⟨vm₁, cX, kX, hfX, hkX, -, -, X₁, st1⟩ := Y.newCold hexec (own := "OpenCross") (C := nse) (index := 158) (n := 6) hown' hk' hins hini'
    (g := F0 m pc ls rest) rfl (by rw [hb]; exact d0) (Nat.le_refl _) (Nat.le_refl _)
  generalize hT1 : (T.setVm vm₁).pushCell { cls := cX, slots := kX.instanceTypes.map defaultValue, vm := .none } = T1 at X₁ st1
  have hcat : (Value.ref T.heap.size).category = 1 := rfl
  have hcellA : T1.heap[T.heap.size]? = some (freshCell cX kX) := by rw [← hT1]; exact State.heap_pushCell_size _ _
  have d3' : decode c.code (pc + 3) = .ok (.dup, 1) := by rw [hb]; exact d3
  have d4' : decode c.code (pc + 4) = .ok (.ldc_w is, 3) := by rw [hb]; exact d4
  have hstr' : vk_R "OpenCross" is text sa s' := vk_R.warm hW0 hstr
  obtain ⟨U, hsteps, hrun, hend, hW, hsame, ce, hce, hcv, hcl0⟩ := xs_ctor X₁ hexec htr (own := "OpenCross") (ic := 162) hown' h (fun x hx => nomatch hx) hfX hkX hcellA (by rw [hhp, hT]; exact Nat.le_refl _) (msg := .ref sa) rfl
    (g := { method := m, pc := pc + 7, locals := ls, stack := .ref sa :: .ref T.heap.size :: .ref T.heap.size :: rest, locked := none }) rfl hsize rfl rfl (rest := rest) rfl
    (by rw [hb]; exact d6) (by rw [hb]; exact d9) (fun x hx => (hout x hx).elim) hRframes (by simp only [List.map_cons, List.sum_cons, hcat]; omega) hlocks
  obtain ⟨f1, f2⟩ := vx_frame hsame
  rw [hhp] at f1 f2
  have hWs : s.WarmedH U.vm := State.WarmedH.trans hW0 hW
  have hcl : s.vm.findClass nse = some ce.cls := by
    rw [hvm] at hcl0
    exact hcl0
  have hall : s.sameButNew ({ U with vm := s.vm } : State) locs mc ms := by
    subst hA
    obtain ⟨e1, e2⟩ := hsame
    rw [State.setFrames_setFrames] at e1
    have h2 : (T.setVm s.vm).sameButNew ({ U with vm := s.vm } : State) [] (0 + 1) (0 + 6) := ⟨e1, e2⟩
    have h3 := X.same.trans h2
    rw [List.append_nil] at h3
    exact h3.mono hc hs
  refine ⟨U, ?_, .threw T.heap.size, hrun, hend, Or.inr ⟨T.heap.size, rfl, nse, ce, locs, hx U hWs f1 (fun q hq => f2 q hq (fun z hz => nomatch hz)), hce, hcv, hcl, hWs, hall, hf⟩⟩
  refine st1 _ ?_
  show Steps p.tables e below (T1.setTop { method := m, pc := pc + 3, locals := ls, stack := .ref T.heap.size :: rest, locked := none }) _
  jvm_step X₁.here [X₁.here.top, hexec, d3', Value.category]
  exact X₁.ldcStringW hexec (own := "OpenCross") (text := text) (index := is) (a := sa) hown' hstr'.1 hstr'.2
    (g := { method := m, pc := pc + 4, locals := ls, stack := .ref T.heap.size :: .ref T.heap.size :: rest, locked := none }) rfl d4' _ hsteps
end XTH
/-- a method that answers, or throws NoSuchElementException -/
def CtX (G : GP) (Y : MI) (As : List Value) (M : Wd) (mc ms : Nat) (Q : Option Value → Wd → Prop) : Prop :=
  vx_Met G.1 Y.1 (.code Y.1 Y.2.1 Y.2.2.1 Y.2.2.2.1 :: GW) { frames := Y.2.2.2.2.1, cells := mc, slots := ms, locals := Y.2.2.2.2.2 } (va_Pc As (fun U => Pic G M U.heap ∧ Kx G U)) (ctQ G (fun v M' => v ≠ none ∧ Q v M')) (fun E st t => E = nse ∧ (∃ M' : Wd, Q none M' ∧ Pic G M' t.heap ∧ Kx G t) ∧ va_F (gA G) st t) mc ms (gA G)
/-- the place of the throw -/
def ThS (Y : MI) (pc is : Nat) (w : Bool) : Prop := Dc Y pc (.new 158) 3 ∧ Dc Y (pc + 3) .dup 1 ∧ (if w then Dc Y (pc + 4) (.ldc_w is) 3 ∧ Dc Y (pc + 7) (.invokespecial 162) 3 ∧ Dc Y (pc + 10) .athrow 1 else Dc Y (pc + 4) (.ldc is) 2 ∧ Dc Y (pc + 6) (.invokespecial 162) 3 ∧ Dc Y (pc + 9) .athrow 1)
theorem CtX.of {G : GP} {Y : MI} {As : List Value} {M : Wd} {mc ms pc0 ti : Nat} {w : Bool} {Q : Option Value → Wd → Prop} {ls : List (Option Value)} (hst : G.1.stackTraces = false) (hret : Y.2.2.2.1 ≠ none) (hy : Y.1.cls = "OpenCross") (hlw : Y.1.name ≠ "law" ∧ thP Y.1 = some pc0) (hti : ti < 16) (hto : (txq ti).1 = "OpenCross") (hth : ThS Y pc0 (txq ti).2.1 w) (hfr : 5 < Y.2.2.2.2.1) (hlo : 82 ≤ Y.2.2.2.2.2) (hn : Nat.ble (lg_sl As).length Y.2.2.1 = true) (hn2 : Nat.ble (enl As).length Y.2.2.1 = true) (hls : enl As ++ List.replicate (Y.2.2.1 - (enl As).length) none = ls) (h : Ev G Y 0 ls [] M mc ms Q) : CtX G Y As M mc ms Q := by
  refine vx_ofW (cc := Y.2.1) (maxL := Y.2.2.1) (ret := Y.2.2.2.1) (by rw [hy]; decide +kernel) rfl ?_
  intro p e s m args below meth c s₁ B hml hex hv
  obtain ⟨rfl, hP, hK⟩ := hv
  have hts := atoms_spec (ws := .code Y.1 Y.2.1 Y.2.2.1 Y.2.2.2.1 :: GW) B.pre
  have hown : s.vm.findClass Y.1.cls = some m.cls := findClass_of_methodNamed B.named
  have hin : meth.name = Y.1.name := (name_of_methodNamed B.named B.method).1
  have hlocks := B.notSynchronized
  have hx := B.exec
  have hb := B.bytes
  have hr := B.returns
  rw [lg_entry_eq]
  subst hls
  refine h p e _ s m As.toArray below meth c _ ⟨hx, hb, hml, hown, fun w hw => hts w (List.mem_cons_of_mem _ hw), hK, Nat.le_refl _, Nat.le_refl _, hin, hlocks, hr, hP.2.2, fun q => absurd q hlw.1⟩ ?_ _ s.heap [] 0 0 (enl_entry As (Nat.le_of_ble_eq_true hn) (Nat.le_of_ble_eq_true hn2)) hP va_S.rf (Nat.le_of_eq (Nat.zero_add _)) (Nat.le_of_eq (Nat.zero_add _))
  refine ⟨fun v M' pc arr H locs cells slots hQ hP' hS hc hs hi => vx_ret ?_, fun M' pc arr H locs cells slots hQ hP' hS hc hs hsz ht => ?_⟩
  · refine W.widen (k := mc) (n := ms) hc hs ?_
    match v, hi with
    | none, hi => exact absurd hi.2 hret
    | some (.int x), hi =>
      obtain ⟨h1, ty, h2, h3⟩ := hi
      exact W.zret hx hb (hr.trans h2) h3 (fun t ht hW => ⟨⟨_, M', rfl, ⟨(fun z => by cases z), hQ⟩, by rw [ht]; exact hP', hK.go hW ht hS⟩, hS.F ht⟩) hS.2.2 h1
    | some (.long x), hi => exact W.lret hx hb (hr.trans hi.2) (fun t ht hW => ⟨⟨_, M', rfl, ⟨(fun z => by cases z), hQ⟩, by rw [ht]; exact hP', hK.go hW ht hS⟩, hS.F ht⟩) hS.2.2 hi.1
  · cases Option.some.inj (hlw.2.symm.trans ht)
    obtain ⟨t1, t2, t3⟩ := hth
    have hU := hK.2.2
    have hstr := hU.2.1 ti hti
    rw [hto] at hstr
    rw [hy] at hown
    have hxx : ∀ t : State, s.WarmedH t.vm → H.size ≤ t.heap.size → (∀ q : Nat, q < H.size → t.heap[q]? = H[q]?) → (nse = nse ∧ (∃ M' : Wd, Q none M' ∧ Pic G M' t.heap ∧ Kx G t) ∧ va_F (gA G) s t) := fun t hW hle hq => by
      have hS2 : va_S (gA G) s.heap t.heap locs := ⟨Nat.le_trans hS.1 hle, fun q h1 h2 => (hq q (Nat.lt_of_lt_of_le h1 hS.1)).trans (hS.2.1 q h1 h2), hS.2.2⟩
      refine ⟨rfl, ⟨M', hQ, ⟨hP'.1.kept (fun k x hx => hq x.1 (hP'.1 k x hx).lt), hP'.2.1, Nat.le_trans hP'.2.2 hle⟩, hK.go hW rfl hS2⟩, hS2.F rfl⟩
    have hc9 : va_Nw (.castable nse nse) s := hU.2.2.2.2.2.2.2.2
    cases w with
    | false =>
      have t3' : Dc Y (pc0 + 4) (.ldc (txq ti).2.1) 2 ∧ Dc Y (pc0 + 6) (.invokespecial 162) 3 ∧ Dc Y (pc0 + 9) .athrow 1 := t3
      exact xs_thr hx hb hst hown (fun w hw => hts w (List.mem_cons_of_mem _ hw)) hc9 hstr hU.2.2.2.2.1 hU.2.2.2.2.2.1 hS (hsz.trans hml.symm) t1 t2 t3'.1 t3'.2.1 t3'.2.2 hex hfr (by show 0 + 82 ≤ Y.2.2.2.2.2; omega) hc hs hlocks hxx hS.2.2 hc hs
    | true =>
      have t3' : Dc Y (pc0 + 4) (.ldc_w (txq ti).2.1) 3 ∧ Dc Y (pc0 + 7) (.invokespecial 162) 3 ∧ Dc Y (pc0 + 10) .athrow 1 := t3
      exact xs_thw hx hb hst hown (fun w hw => hts w (List.mem_cons_of_mem _ hw)) hc9 hstr hU.2.2.2.2.1 hU.2.2.2.2.2.1 hS (hsz.trans hml.symm) t1 t2 t3'.1 t3'.2.1 t3'.2.2 hex hfr (by show 0 + 82 ≤ Y.2.2.2.2.2; omega) hc hs hlocks hxx hS.2.2 hc hs
section XQ
variable {G : GP} {M : Wd} {q : Nat → Nat} {na : Nat} {S : Sg}
theorem x_curve {p k : Int32} (hst : G.1.stackTraces = false) (hC : CR q na S M) (hS : Sok S) : CtX G mX5_curve [.ref (q 0), .int p, .int k] M 1 6 (QX ((1 ≤ p ∧ p ≤ 999) ∧ (0 ≤ k ∧ k ≤ 5)) (an_curve S p k) q S M) :=
  CtX.of (pc0 := 16) (ti := 13) (w := false) hst (by decide) rfl (by decide) (by decide) rfl ⟨dX5_curve_16, dX5_curve_19, dX5_curve_20, dX5_curve_22, dX5_curve_25⟩ (by decide) (by decide) rfl rfl rfl (e_curve hC hS)
theorem x_crossed {k : Int32} (hst : G.1.stackTraces = false) (hC : CR q na S M) (hS : Sok S) : CtX G mX5_crossed [.ref (q 0), .int k] M 1 6 (QX (0 ≤ k ∧ k ≤ 6) (an_crossed S k) q S M) :=
  CtX.of (pc0 := 10) (ti := 14) (w := false) hst (by decide) rfl (by decide) (by decide) rfl ⟨dX5_crossed_10, dX5_crossed_13, dX5_crossed_14, dX5_crossed_16, dX5_crossed_19⟩ (by decide) (by decide) rfl rfl rfl (e_crossed hC hS)
theorem x_notice {k : Int32} (hst : G.1.stackTraces = false) (hC : CR q na S M) (hS : Sok S) : CtX G mX5_notice [.ref (q 0), .int k] M 1 6 (QX ((0 ≤ k ∧ k ≤ 3) ∨ k = 6) (an_notice S k) q S M) :=
  CtX.of (pc0 := 15) (ti := 14) (w := false) hst (by decide) rfl (by decide) (by decide) rfl ⟨dX5_notice_15, dX5_notice_18, dX5_notice_19, dX5_notice_21, dX5_notice_24⟩ (by decide) (by decide) rfl rfl rfl (e_notice hC hS)
theorem x_past {i k : Int32} (hst : G.1.stackTraces = false) (hC : CR q na S M) (hc : S.2.2.2.2.2 < 100000) : CtX G mX5_past [.ref (q 0), .int i, .int k] M 1 6 (QX (pok S i k) (an_past S i k) q S M) :=
  CtX.of (pc0 := 28) (ti := 15) (w := true) hst (by decide) rfl (by decide) (by decide) rfl ⟨dX5_past_28, dX5_past_31, dX5_past_32, dX5_past_35, dX5_past_38⟩ (by decide) (by decide) rfl rfl rfl (e_past hC hc)
end XQ
