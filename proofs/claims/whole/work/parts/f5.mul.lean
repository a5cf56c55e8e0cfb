/-! rows of references, rows of rows -/
theorem nX5_16A : Cond.classLink RX5 16 "OpenCross$Book" ∈ GW := gw_in 145 (by decide +kernel) rfl
theorem nX0_45M : Cond.classLink RX0 45 "[[I" ∈ GW := gw_in 290 (by decide +kernel) rfl
section MUL
variable {G : GP} {Y : MI} {pc ix : Nat} {ls : List (Option Value)} {st : List Value} {M W : Wd} {kr nr N : Nat} {Q : Option Value → Wd → Prop} {L : List (Nat × En)}
theorem Ev.anw {z : Int32} (hd : Dc Y pc (.anewarray ix) 3) (hl : Cond.classLink Y.1.cls ix "OpenCross$Book" ∈ GW) (hz : ¬ z < 0) (hN : z.toNatClampNeg = N) (hb : Nat.ble (N * 4) 536870912 = true) (k : ∀ q : Nat, gt W q = none → Ev G Y (pc + 3) ls (.ref q :: st) (W ++ [(q, ra 5 N (fun _ => none))]) kr nr Q) : Ev G Y pc ls (.int z :: st) W (kr + 1) (nr + N) Q := by
  intro p e R s m args below meth c Z C hR arr H locs cells slots hl9 hP hS h1 h2
  have hts := C.2.2.2.2.1
  refine va_newq C.1 C.2.1 C.2.2.2.1 (hts _ hl) C.2.2.2.2.2.1.2.2.2.2.2.2.2.2.1 C.2.2.2.2.2.1.1 hP.1 hP.2.1 hS (fun q h => Nat.le_trans C.2.2.2.2.2.2.2.2.2.2.2.1 h) hz hN (Nat.le_of_ble_eq_true hb) (by omega) (by omega) hd (fun q cx H1 hk t1 t2 t3 => ?_)
  have hcx := ra_same (t := 5) hk rfl (fun _ h => by obtain ⟨kA, comp, _, _, _, h4⟩ := h; exact h4)
  subst hcx
  exact k q (gt_fresh t2) p e R s m args below meth c Z C hR arr H1 locs _ _ hl9 (Pic.nw (x := ra 5 N (fun _ => none)) t1 t2 t3 C.2.2.2.2.2.2.2.2.2.2.2.1) t3 (by omega) (by omega)
theorem Ev.knA {z : Int32} (hd : Dc Y pc (.anewarray ix) 3) (hl : Cond.classLink Y.1.cls ix "OpenCross$Book" ∈ GW) (hz : ¬ z < 0) (hN : z.toNatClampNeg = N) (hb : Nat.ble (N * 4) 536870912 = true) (hC : Cw M L W) (k : ∀ (q : Nat) (W' : Wd), gt M q = none → Cw M (L ++ [(q, ra 5 N (fun _ => none))]) W' → Ev G Y (pc + 3) ls (.ref q :: st) W' kr nr Q) : Ev G Y pc ls (.int z :: st) W (kr + 1) (nr + N) Q := Ev.anw hd hl hz hN hb (fun q hq => k q _ (hC.fresh hq) (hC.nw hq))
end MUL
section MW2
variable {p : Program} {l : Launch} {e : Env} {R : Room} {s : State} {m : MethodId} {args : Array Value} {below : List Frame} {meth : Method} {c : Code} {H : Heap} {locs : List Loc} {cells slots : Nat} {Q : State → Prop}
theorem n_arr {Q2 : Addr → Pre} {E : CtlPost} {d : Bool} {acts : List Action} {s : State} {cc comp : ClassId} {k : Class} {type : FieldType} {n : Nat} {init : Value} (hk : s.vm.classes[cc]? = some k) (hkind : k.kind = .array comp type) (hlimit : ¬ n > e.platform.arrayLengthLimit) (hheap : ¬ n * componentBytes type > e.platform.maxHeapBytes) (h1 : s.heap.size < e.platform.maxCells) (h2 : s.slotsUsed + n ≤ e.platform.maxSlots) (hfit : fits type init = true) (hQ : ∀ acts', Q2 s.heap.size d acts' (s.pushCell { cls := cc, slots := Array.replicate n init, vm := .none })) : wp (Jvm.newArray cc n init) Q2 E e d acts s := by
  have hf : ∀ i v, (Array.replicate n init)[i]? = some v → s.fitsSlot cc .none i v = true := by
    intro i v hv
    simp only [Array.getElem?_replicate] at hv
    split at hv
    · cases hv; simp [State.fitsSlot, State.slotType?, hk, hkind, hfit]
    · cases hv
  simp only [Jvm.newArray, Jvm.arrayFits, wp_bind', W.ask, W.ite, hlimit, if_false, W.theClass, hk, hkind, hheap, W.alloc, W.stop, wp_pure', Option.some.injEq, exists_eq_left', Array.size_replicate]
  rw [if_neg (by omega)]
  exact ⟨h1, h2, hf, hQ _⟩
abbrev i82 (comp : ClassId) : Cell := { cls := comp, slots := Array.replicate 82 (.int 0), vm := .none }
abbrev o2c (cc : ClassId) : Cell := { cls := cc, slots := Array.replicate 2 .null, vm := .none }
theorem mk_1 {Q2 : Addr → Pre} {E : CtlPost} {d : Bool} {acts : List Action} {s : State} {comp ci : ClassId} {kk : Class} (hkk : s.vm.classes[comp]? = some kk) (hkindk : kk.kind = .array ci .int) (hL : ¬ 82 > e.platform.arrayLengthLimit) (hH : ¬ 82 * componentBytes .int > e.platform.maxHeapBytes) (h1 : s.heap.size < e.platform.maxCells) (h2 : s.slotsUsed + 82 ≤ e.platform.maxSlots) (hQ : ∀ acts', Q2 s.heap.size d acts' (s.pushCell (i82 comp))) : wp (Jvm.Op.multianewarray.make comp [82]) Q2 E e d acts s := by
  rw [Jvm.Op.multianewarray.make]
  simp only [wp_bind', W.ite, if_neg (show ¬ (82 : Int32) < 0 by decide), W.theClass, hkk, hkindk, Option.some.injEq, exists_eq_left', wp_pure']
  exact n_arr (n := 82) (init := .int 0) hkk hkindk hL hH h1 h2 rfl hQ
/-- the state behind it -/
abbrev mst (s : State) (cc comp : ClassId) : State := (((((s.pushCell (o2c cc)).pushCell (i82 comp)).setCell s.heap.size ((o2c cc).setSlot 0 (.ref (s.heap.size + 1)))).pushCell (i82 comp)).setCell s.heap.size (((o2c cc).setSlot 0 (.ref (s.heap.size + 1))).setSlot 1 (.ref (s.heap.size + 2))))
theorem mk_2 {Q2 : Addr → Pre} {E : CtlPost} {d : Bool} {acts : List Action} {s : State} {cc comp ci : ClassId} {kc kk : Class} (hkc : s.vm.classes[cc]? = some kc) (hkindc : kc.kind = .array comp (.array .int)) (hkk : s.vm.classes[comp]? = some kk) (hkindk : kk.kind = .array ci .int) (hL2 : ¬ 2 > e.platform.arrayLengthLimit) (hL : ¬ 82 > e.platform.arrayLengthLimit) (hH2 : ¬ 2 * componentBytes (.array .int) > e.platform.maxHeapBytes) (hH : ¬ 82 * componentBytes .int > e.platform.maxHeapBytes) (h1 : s.heap.size + 2 < e.platform.maxCells) (h2 : s.slotsUsed + 166 ≤ e.platform.maxSlots) (hQ : ∀ acts', Q2 s.heap.size true acts' (mst s cc comp)) : wp (Jvm.Op.multianewarray.make cc [2, 82]) Q2 E e d acts s := by
  have hfit : ∀ v : Addr, s.fitsSlot cc .none 0 (.ref v) = true ∧ s.fitsSlot cc .none 1 (.ref v) = true := fun v => by
    constructor <;> (simp [State.fitsSlot, State.slotType?, hkc, hkindc]; try rfl)
  rw [Jvm.Op.multianewarray.make]
  simp only [wp_bind', W.ite, if_neg (show ¬ (2 : Int32) < 0 by decide), W.theClass, hkc, hkindc, Option.some.injEq, exists_eq_left', wp_pure', Std.Legacy.Range.forIn_eq_forIn_range']
  refine n_arr (n := 2) (init := .null) hkc hkindc hL2 hH2 (by omega) (by omega) rfl (fun acts1 => ?_)
  rw [if_neg (by decide)]
  have er : List.range' 0 [:Int32.toNatClampNeg 2].size = [0, 1] := by decide
  rw [er]
  simp only [List.forIn_cons, List.forIn_nil, wp_bind', wp_pure', W.writeLoc]
  refine mk_1 (s := s.pushCell (o2c cc)) hkk hkindk hL hH (by show (s.heap.push _).size < _; rw [Array.size_push]; omega) (by show s.slotsUsed + (Array.replicate 2 Value.null).size + 82 ≤ _; rw [Array.size_replicate]; omega) (fun acts2 => ?_)
  have z1 : (s.pushCell (o2c cc)).heap.size = s.heap.size + 1 := by show (s.heap.push _).size = _; rw [Array.size_push]
  rw [z1]
  refine ⟨o2c cc, ?_, ?_, ?_, (hfit _).1, ?_⟩
  · show ((s.heap.push (o2c cc)).push (i82 comp))[s.heap.size]? = _
    rw [Array.getElem?_push, if_neg (by rw [Array.size_push]; omega), Array.getElem?_push_size]
  · exact fun z => by cases z
  · show 0 < (Array.replicate 2 Value.null).size
    rw [Array.size_replicate]; omega
  have z2 : (((s.pushCell (o2c cc)).pushCell (i82 comp)).setCell s.heap.size ((o2c cc).setSlot 0 (.ref (s.heap.size + 1)))).heap.size = s.heap.size + 2 := by
    show (((s.heap.push (o2c cc)).push (i82 comp)).setIfInBounds _ _).size = _
    rw [Array.size_setIfInBounds, Array.size_push, Array.size_push]
  rw [show ∀ (f : Unit → Sem (ForInStep PUnit)), (Sem.pure ()).bind f = f () from fun _ => rfl]
  simp only [wp_bind', wp_pure', W.writeLoc]
  refine mk_1 (s := ((s.pushCell (o2c cc)).pushCell (i82 comp)).setCell s.heap.size ((o2c cc).setSlot 0 (.ref (s.heap.size + 1)))) hkk hkindk hL hH (by rw [z2]; omega) (by show s.slotsUsed + (Array.replicate 2 Value.null).size + (Array.replicate 82 (Value.int 0)).size + 82 ≤ _; rw [Array.size_replicate, Array.size_replicate]; omega) (fun acts3 => ?_)
  rw [z2]
  refine ⟨(o2c cc).setSlot 0 (.ref (s.heap.size + 1)), ?_, ?_, ?_, (hfit _).2, hQ _⟩
  · show ((((s.heap.push (o2c cc)).push (i82 comp)).setIfInBounds s.heap.size ((o2c cc).setSlot 0 (.ref (s.heap.size + 1)))).push (i82 comp))[s.heap.size]? = _
    rw [Array.getElem?_push, if_neg (by rw [Array.size_setIfInBounds, Array.size_push, Array.size_push]; omega)]
    rw [Array.getElem?_setIfInBounds_self_of_lt (by rw [Array.size_push, Array.size_push]; omega)]
  · exact fun z => by cases z
  · show 1 < ((Array.replicate 2 Value.null).setIfInBounds 0 _).size
    rw [Array.size_setIfInBounds, Array.size_replicate]; omega
theorem mult_wp {Q2 : Unit → Pre} {E : CtlPost} {d : Bool} {acts : List Action} {T : State} {g : JFrame} {index : Nat} {vm₁ : Vm} {rest : List Value} {cc comp ci : ClassId} {kc kk : Class} (top : T.topJava?.isSome) (hg₁ : (Jvm.resolveClass g.method.cls index).Gives e.toSetting T.vm (.ok cc) vm₁) (hr : vm₁.classReady g.method.cls index cc) (hsz : vm₁.classes.size ≤ T.vm.classes.size) (hstack : g.stack = .int 82 :: .int 2 :: rest) (hkc : vm₁.classes[cc]? = some kc) (hkindc : kc.kind = .array comp (.array .int)) (hkk : vm₁.classes[comp]? = some kk) (hkindk : kk.kind = .array ci .int) (hL2 : ¬ 2 > e.platform.arrayLengthLimit) (hL : ¬ 82 > e.platform.arrayLengthLimit) (hH2 : ¬ 2 * componentBytes (.array .int) > e.platform.maxHeapBytes) (hH : ¬ 82 * componentBytes .int > e.platform.maxHeapBytes) (h1 : T.heap.size + 2 < e.platform.maxCells) (h2 : T.slotsUsed + 166 ≤ e.platform.maxSlots) (hQ : ∀ acts', Q2 () true acts' ((mst (T.setVm vm₁) cc comp).setTop { g with stack := .ref T.heap.size :: rest })) : wp (Jvm.Op.multianewarray.sem index 2) Q2 E e d acts (T.setTop g) := by
  simp only [Jvm.Op.multianewarray.sem, wp_bind']
  refine (W.resolveClassAt_transfer (s := T.setTop g) (State.method?_setTop g top) hg₁ hr hsz).mpr ?_
  refine (W.resolveClassAt_ready (s := (T.setVm vm₁).setTop g) (State.method?_setTop (s := T.setVm vm₁) g top) hr).mpr ?_
  rw [wp_bind']
  refine (popN_top (s := T.setVm vm₁) (args := [.int 2, .int 82]) (rest := rest) top (by rw [hstack]; rfl)).mpr ?_
  simp only [List.mapM_cons, List.mapM_nil, wp_bind', wp_pure']
  refine mk_2 (s := (T.setVm vm₁).setTop { g with stack := rest }) hkc hkindc hkk hkindk hL2 hL hH2 hH h1 h2 (fun acts1 => ?_)
  simp only [wp_bind', W.mark, W.pushRef]
  refine ⟨{ g with stack := rest }, ?_, ?_⟩
  · exact State.topJava?_setTop' (s := mst (T.setVm vm₁) cc comp) _ top
  · rw [show ∀ g2 : JFrame, mst ((T.setVm vm₁).setTop g2) cc comp = (mst (T.setVm vm₁) cc comp).setTop g2 from fun _ => rfl, State.setTop_setTop]; exact hQ acts1
theorem w_mult {cc : ByteArray} (hexec : p.tables.exec = Jvm.exec) (hb : c.code = cc) {own : String} {index : Nat} (hown : s.vm.findClass own = some m.cls) (hclink : (Cond.classLink own index "[[I").before args s = true) {g : JFrame} (hg : g.method = m) (hdg : decode cc g.pc = .ok (.multianewarray index 2, 4)) {rest : List Value} (hstack : g.stack = .int 82 :: .int 2 :: rest) (hcells : cells + 3 ≤ R.cells) (hslots : slots + 166 ≤ R.slots)
    {cA comp ci : ClassId} {kc kk : Class} (hfc : s.vm.findClass "[[I" = some cA) (hkc : s.vm.classes[cA]? = some kc) (hkindc : kc.kind = .array comp (.array .int)) (hkk : s.vm.classes[comp]? = some kk) (hkindk : kk.kind = .array ci .int)
    (kk9 : ∀ T1 : State, T1.heap = ((((H.push (o2c cA)).push (i82 comp)).setIfInBounds H.size ((o2c cA).setSlot 0 (.ref (H.size + 1)))).push (i82 comp)).setIfInBounds H.size (((o2c cA).setSlot 0 (.ref (H.size + 1))).setSlot 1 (.ref (H.size + 2))) → Stand p l e R s m args below meth c T1 (locs ++ [⟨H.size, 0⟩] ++ [⟨H.size, 1⟩]) (cells + 3) (slots + 166) → ∃ t, Steps p.tables e below (T1.setTop { g with pc := g.pc + 4, stack := .ref H.size :: rest }) t ∧ Q t) : W p l e R s m args below meth c H locs cells slots Q g := by
  intro T hT X
  subst hT; subst hb; subst hg
  have hpl : e.platform.magicAccessors = ({} : Platform).magicAccessors := by rw [X.admits.platform]
  obtain ⟨cA', hfcc, hcl⟩ := Cond.classLink_spec hown hclink e.platform hpl
  cases hfc.symm.trans hfcc
  obtain ⟨hg₁, hwarm₁, hready₁⟩ := State.classEntry (e := e) X.warmed hcl
  generalize T.vm.noted g.method.cls index (.cls cA) = vm₁ at hg₁ hwarm₁ hready₁
  have hal : s.vm.Alike vm₁ := hwarm₁.alike
  obtain ⟨kc₁, hkc₁, hec⟩ := hal.2.2 _ _ hkc
  obtain ⟨kk₁, hkk₁, hek⟩ := hal.2.2 _ _ hkk
  have hkindc₁ : kc₁.kind = .array comp (.array .int) := by rw [hec]; exact hkindc
  have hkindk₁ : kk₁.kind = .array ci .int := by rw [hek]; exact hkindk
  have hL2 : ¬ 2 > e.platform.arrayLengthLimit := by rw [Launch.admits_arrayLengthLimit X.admits]; omega
  have hL : ¬ 82 > e.platform.arrayLengthLimit := by rw [Launch.admits_arrayLengthLimit X.admits]; omega
  have hH2 : ¬ 2 * componentBytes (.array .int) > e.platform.maxHeapBytes := by rw [Launch.admits_maxHeapBytes X.admits]; show ¬ 2 * 4 > 536870912; omega
  have hH : ¬ 82 * componentBytes .int > e.platform.maxHeapBytes := by rw [Launch.admits_maxHeapBytes X.admits]; show ¬ 82 * 4 > 536870912; omega
  obtain ⟨hr1, hr2⟩ := X.heapHas hcells hslots
  have X₁ := X.noted hwarm₁
  have hsz : vm₁.classes.size ≤ T.vm.classes.size := by no_record
  have Y1 := X₁.pushed (o2c cA)
  have Y2 := Y1.pushed (i82 comp)
  have c1 : ((T.heap.push (o2c cA)).push (i82 comp))[T.heap.size]? = some (o2c cA) := by
    rw [Array.getElem?_push, if_neg (by rw [Array.size_push]; omega), Array.getElem?_push_size]
  have Y3 := Y2.stored (a := T.heap.size) (cell := o2c cA) c1 0 (.ref (T.heap.size + 1))
  have Y4 := Y3.pushed (i82 comp)
  have c2 : ((((T.heap.push (o2c cA)).push (i82 comp)).setIfInBounds T.heap.size ((o2c cA).setSlot 0 (.ref (T.heap.size + 1)))).push (i82 comp))[T.heap.size]? = some ((o2c cA).setSlot 0 (.ref (T.heap.size + 1))) := by
    rw [Array.getElem?_push, if_neg (by rw [Array.size_setIfInBounds, Array.size_push, Array.size_push]; omega)]
    rw [Array.getElem?_setIfInBounds_self_of_lt (by rw [Array.size_push, Array.size_push]; omega)]
  have Y5 := Y4.stored (a := T.heap.size) (cell := (o2c cA).setSlot 0 (.ref (T.heap.size + 1))) c2 1 (.ref (T.heap.size + 2))
  have n1 : cells + 1 + 1 + 1 = cells + 3 := by omega
  have n2 : slots + (o2c cA).slots.size + (i82 comp).slots.size + (i82 comp).slots.size = slots + 166 := by
    show slots + (Array.replicate 2 Value.null).size + (Array.replicate 82 (Value.int 0)).size + (Array.replicate 82 (Value.int 0)).size = _
    rw [Array.size_replicate, Array.size_replicate]
  rw [n1, n2] at Y5
  obtain ⟨t, ht, hQt⟩ := kk9 (mst (T.setVm vm₁) cA comp) rfl Y5
  refine ⟨t, ?_, hQt⟩
  refine Steps.instr (c := _) (by simpa using X.here) ?_
  simp only [jvm, wpRun, exec, X.here.top, hexec, hdg, State.topJava?_setTop']
  refine mult_wp X.here.top hg₁ hready₁ hsz hstack hkc₁ hkindc₁ hkk₁ hkindk₁ hL2 hL hH2 hH (by omega) (by omega) (fun acts1 => ?_)
  intro acts2
  have ht9 : (mst (T.setVm vm₁) cA comp).topJava?.isSome := X.here.top
  have e9 : ∀ (U : State) (a : JFrame), (U.setTop a).modifyTopJava (fun f => { f with pc := f.pc + 4 }) = U.setTop { a with pc := a.pc + 4 } := fun U a => State.modifyTopJava_modifyTopJava U _ _
  simp only [jvm, afterInstr]
  rw [e9]
  exact ht
end MW2
theorem vD_push {A : Nat → Prop} {ws : va_W} {a : Nat} {e : va_E} (hD : va_D A ws) (hlt : ∀ (k : Nat) (q : Nat × va_E), ws[k]? = some q → q.1 < a) (hA : A a) : va_D A (ws ++ [(a, e)]) := by
  have key : ∀ (k : Nat) (q : Nat × va_E), (ws ++ [(a, e)])[k]? = some q → (ws[k]? = some q ∧ q.1 < a) ∨ (k = ws.length ∧ q.1 = a) := by
    intro k q hk
    by_cases hl : k < ws.length
    · rw [List.getElem?_append_left hl] at hk
      exact Or.inl ⟨hk, hlt k q hk⟩
    · rw [List.getElem?_append_right (by omega)] at hk
      have hz : k - ws.length < 1 := (List.getElem?_eq_some_iff.mp hk).1
      have hk0 : k = ws.length := by omega
      subst hk0
      rw [Nat.sub_self] at hk
      cases hk
      exact Or.inr ⟨rfl, rfl⟩
  refine ⟨fun i j x y hi hj hxy => ?_, fun k q hk => ?_⟩
  · rcases key i x hi with ⟨h1, l1⟩ | ⟨h1, l1⟩ <;> rcases key j y hj with ⟨h2, l2⟩ | ⟨h2, l2⟩
    · exact hD.1 i j x y h1 h2 hxy
    · omega
    · omega
    · omega
  · rcases key k q hk with ⟨h1, -⟩ | ⟨-, h1⟩
    · exact hD.2 k q h1
    · rw [h1]; exact hA
theorem lt_push {ws : va_W} {a b : Nat} {e : va_E} (h : ∀ (k : Nat) (q : Nat × va_E), ws[k]? = some q → q.1 < a) (hab : a < b) : ∀ (k : Nat) (q : Nat × va_E), (ws ++ [(a, e)])[k]? = some q → q.1 < b := by
  intro k q hk
  by_cases hl : k < ws.length
  · rw [List.getElem?_append_left hl] at hk
    have := h k q hk
    omega
  · rw [List.getElem?_append_right (by omega)] at hk
    have hz : k - ws.length < 1 := (List.getElem?_eq_some_iff.mp hk).1
    rw [show k - ws.length = 0 by omega] at hk
    cases hk
    exact hab
theorem vP_push {D : va_G} {cl : List vw_C} {ws : va_W} {a : Nat} {e : va_E} {H : Heap} (h : va_P D cl ws H) (h1 : va_at D cl (a, e) H) : va_P D cl (ws ++ [(a, e)]) H := by
  refine h.app (fun k x hx => ?_)
  have hz : k < 1 := (List.getElem?_eq_some_iff.mp hx).1
  rw [show k = 0 by omega] at hx
  cases hx
  exact h1
abbrev rw2 (a b : Nat) : Nat → Option Nat := fun i => if i = 0 then some a else if i = 1 then some b else none
theorem hp_2 {H : Heap} {o0 o1 o2 b : Cell} (hp : Heap) (e : hp = ((((H.push o0).push b).setIfInBounds H.size o1).push b).setIfInBounds H.size o2) : hp.size = H.size + 3 ∧ hp[H.size]? = some o2 ∧ hp[H.size + 1]? = some b ∧ hp[H.size + 2]? = some b ∧ ∀ q : Nat, q < H.size → hp[q]? = H[q]? := by
  have s2 : (((H.push o0).push b).setIfInBounds H.size o1).size = H.size + 2 := by rw [Array.size_setIfInBounds, Array.size_push, Array.size_push]
  refine ⟨?_, ?_, ?_, ?_, fun q hq => ?_⟩
  · rw [e, Array.size_setIfInBounds, Array.size_push, s2]
  · rw [e, Array.getElem?_setIfInBounds_self_of_lt (by rw [Array.size_push, s2]; omega)]
  · rw [e, Array.getElem?_setIfInBounds_ne (by omega), Array.getElem?_push, if_neg (by rw [s2]; omega), Array.getElem?_setIfInBounds_ne (by omega), Array.getElem?_push, if_pos (by rw [Array.size_push])]
  · rw [e, Array.getElem?_setIfInBounds_ne (by omega), Array.getElem?_push, if_pos s2.symm]
  · rw [e, Array.getElem?_setIfInBounds_ne (by omega), Array.getElem?_push, if_neg (by rw [s2]; omega), Array.getElem?_setIfInBounds_ne (by omega), Array.getElem?_push, if_neg (by rw [Array.size_push]; omega), Array.getElem?_push, if_neg (by omega)]
theorem o2_arr (cA : ClassId) (a b : Nat) : ((o2c cA).setSlot 0 (.ref a)).setSlot 1 (.ref b) = arrV cA 2 (fun j => va_rf (rw2 a b j)) := rfl
section MW3
variable {G : GP} {Y : MI} {pc ix : Nat} {ls : List (Option Value)} {st : List Value} {M W : Wd} {kr nr : Nat} {Q : Option Value → Wd → Prop} {L : List (Nat × En)}
theorem Ev.mlt (hd : Dc Y pc (.multianewarray ix 2) 4) (hl : Cond.classLink Y.1.cls ix "[[I" ∈ GW) (k : ∀ q : Nat, (∀ n, q ≤ n → gt W n = none) → Ev G Y (pc + 4) ls (.ref q :: st) (((W ++ [(q, ra 4 2 (rw2 (q + 1) (q + 2)))]) ++ [(q + 1, ia 0 82 (fun _ => 0))]) ++ [(q + 2, ia 0 82 (fun _ => 0))]) kr nr Q) : Ev G Y pc ls (.int 82 :: .int 2 :: st) W (kr + 3) (nr + 166) Q := by
  intro p e R s m args below meth c Z C hR arr H locs cells slots hl9 hP hS h1 h2
  have hts := C.2.2.2.2.1
  have hK := C.2.2.2.2.2.1.1
  have hAP : va_AP s := C.2.2.2.2.2.1.2.2.2.2.2.2.2.2.2.1
  obtain ⟨comp, cA, kA, f1, f2, f3, f4, f5⟩ := arrayOverA_spec hAP
  have k0 := (hK.2 0 _ rfl)
  have k4 := (hK.2 4 _ rfl)
  have ec : comp = gC G 0 := Option.some.inj (f1.symm.trans k0.2)
  have eA : cA = gC G 4 := Option.some.inj (f5.symm.trans k4.2)
  obtain ⟨-, kk, g1, ci, g2⟩ := k0.1 0 (fun _ => .null)
  have hlt : ∀ (k : Nat) (q : Nat × va_E), (ew (gC G) W)[k]? = some q → q.1 < H.size := fun k q hk => (hP.1 k q hk).lt
  refine w_mult C.1 C.2.1 C.2.2.2.1 (hts _ hl) rfl hd rfl (by omega) (by omega) f5 f3 f4 (by rw [ec]; exact g1) g2 (fun T1 hT1 X1 => ?_)
  obtain ⟨z1, z2, z3, z4, z5⟩ := hp_2 T1.heap hT1
  have hg : gB G ≤ H.size := hP.2.2
  have hfr : ∀ n, H.size ≤ n → gt W n = none := fun n hn => by
    cases hq : gt W n with
    | none => rfl
    | some x =>
      obtain ⟨j, j1, -⟩ := gt_pl (cA := gC G) hq
      have := hlt j _ j1
      omega
  have hp0 : va_P G.2.1 vwCl (ew (gC G) W) T1.heap := hP.1.kept (fun k x hx => z5 x.1 (hlt k x hx))
  have hPic : Pic G (((W ++ [(H.size, ra 4 2 (rw2 (H.size + 1) (H.size + 2)))]) ++ [(H.size + 1, ia 0 82 (fun _ => 0))]) ++ [(H.size + 2, ia 0 82 (fun _ => 0))]) T1.heap := by
    have e3 : ew (gC G) (((W ++ [(H.size, ra 4 2 (rw2 (H.size + 1) (H.size + 2)))]) ++ [(H.size + 1, ia 0 82 (fun _ => 0))]) ++ [(H.size + 2, ia 0 82 (fun _ => 0))]) = ((ew (gC G) W ++ [(H.size, emb (gC G) (ra 4 2 (rw2 (H.size + 1) (H.size + 2))))]) ++ [(H.size + 1, emb (gC G) (ia 0 82 (fun _ => 0)))]) ++ [(H.size + 2, emb (gC G) (ia 0 82 (fun _ => 0)))] := by simp [ew]
    refine ⟨?_, ?_, by omega⟩
    · rw [e3]
      refine vP_push (vP_push (vP_push hp0 ?_) ?_) ?_
      · show T1.heap[H.size]? = some (vp_cell _ _)
        rw [z2, o2_arr, eA]
        rfl
      · show T1.heap[H.size + 1]? = some (vp_cell _ _)
        rw [z3, ec, vp_cell_i, ← arrV_new]
      · show T1.heap[H.size + 2]? = some (vp_cell _ _)
        rw [z4, ec, vp_cell_i, ← arrV_new]
    · rw [e3]
      have q0 := vD_push (e := emb (gC G) (ra 4 2 (rw2 (H.size + 1) (H.size + 2)))) hP.2.1 hlt hg
      have l0 := lt_push (e := emb (gC G) (ra 4 2 (rw2 (H.size + 1) (H.size + 2)))) hlt (Nat.lt_succ_self _)
      have q1 := vD_push (e := emb (gC G) (ia 0 82 (fun _ => 0))) q0 l0 (show gB G ≤ _ by omega)
      exact vD_push q1 (lt_push l0 (Nat.lt_succ_self _)) (show gB G ≤ _ by omega)
  have hS1 : va_S (gA G) s.heap T1.heap (locs ++ [⟨H.size, 0⟩] ++ [⟨H.size, 1⟩]) := by
    refine ⟨Nat.le_trans hS.1 (by omega), fun x x1 x2 => (z5 x (Nat.lt_of_lt_of_le x1 hS.1)).trans (hS.2.1 x x1 x2), fun x hx => ?_⟩
    rcases List.mem_append.mp hx with hx | hx
    · rcases List.mem_append.mp hx with hx | hx
      · exact hS.2.2 x hx
      · rw [List.mem_singleton.mp hx]; exact hg
    · rw [List.mem_singleton.mp hx]; exact hg
  exact k H.size hfr p e R s m args below meth c Z C hR arr T1.heap _ _ _ hl9 hPic hS1 (by omega) (by omega) T1 rfl X1
theorem Ev.knM (hd : Dc Y pc (.multianewarray ix 2) 4) (hl : Cond.classLink Y.1.cls ix "[[I" ∈ GW) (hC : Cw M L W) (k : ∀ (o i0 i1 : Nat) (W' : Wd), gt M o = none → gt M i0 = none → gt M i1 = none → Cw M (L ++ [(o, ra 4 2 (rw2 i0 i1)), (i0, ia 0 82 (fun _ => 0)), (i1, ia 0 82 (fun _ => 0))]) W' → Ev G Y (pc + 4) ls (.ref o :: st) W' kr nr Q) : Ev G Y pc ls (.int 82 :: .int 2 :: st) W (kr + 3) (nr + 166) Q := by
  refine Ev.mlt hd hl (fun q hq => ?_)
  have c0 := hC.nw (e := ra 4 2 (rw2 (q + 1) (q + 2))) (hq q (Nat.le_refl _))
  have n1 : gt (W ++ [(q, ra 4 2 (rw2 (q + 1) (q + 2)))]) (q + 1) = none := by rw [gt_old (by omega)]; exact hq _ (by omega)
  have c1 := c0.nw (e := ia 0 82 (fun _ => 0)) n1
  have n2 : gt ((W ++ [(q, ra 4 2 (rw2 (q + 1) (q + 2)))]) ++ [(q + 1, ia 0 82 (fun _ => 0))]) (q + 2) = none := by rw [gt_old (by omega), gt_old (by omega)]; exact hq _ (by omega)
  have c2 := c1.nw (e := ia 0 82 (fun _ => 0)) n2
  refine k q (q + 1) (q + 2) _ (hC.fresh (hq q (Nat.le_refl _))) (hC.fresh (hq _ (by omega))) (hC.fresh (hq _ (by omega))) ?_
  rw [List.append_assoc, List.append_assoc] at c2
  exact c2
end MW3
