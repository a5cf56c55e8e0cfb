/-- contracts by what they give back: an int, a long, nothing -/
abbrev CtI (G : GP) (Y : MI) (As : List Value) (M : Wd) (mc ms : Nat) (P : Int32 → Wd → Prop) : Prop := Ct G Y As M mc ms (fun v M' => ∃ x : Int32, v = some (.int x) ∧ P x M')
abbrev CtL (G : GP) (Y : MI) (As : List Value) (M : Wd) (mc ms : Nat) (P : Int64 → Wd → Prop) : Prop := Ct G Y As M mc ms (fun v M' => ∃ x : Int64, v = some (.long x) ∧ P x M')
abbrev CtV (G : GP) (Y : MI) (As : List Value) (M : Wd) (mc ms : Nat) (P : Wd → Prop) : Prop := Ct G Y As M mc ms (fun v M' => v = none ∧ P M')
section ET
variable {G : GP} {Y Yc : MI} {pc : Nat} {ls : List (Option Value)} {st rest : List Value} {M : Wd} {kr nr n i a ci : Nat} {Q : Option Value → Wd → Prop} {As fs : List Value}
theorem Ev.cvI {P : Int32 → Wd → Prop} (hd : Dc Y pc (.invokevirtual i) 3) (hl : Cond.methodLink Y.1.cls i Yc.1 ∈ GW) (hm : MV Yc n) (hr : rmok Yc Y = true) (hc : CtI G Yc (.ref a :: As) M 0 0 P) (hM : ∃ fs, gt M a = some (ob ci fs)) (hci : vwCl[ci]?.map (·.1) = some Yc.1.cls) (hn : As.length = n) (hst : st = As.reverse ++ .ref a :: rest) (hw : Nat.ble (rest.map fun v => v.category).sum 8 = true)
    (k : ∀ (x : Int32) (M' : Wd), P x M' → Ev G Y (pc + 3) ls (.int x :: rest) M' kr nr Q) : Ev G Y pc ls st M kr nr Q := by
  obtain ⟨fs, hM⟩ := hM
  exact Ev.cv hd hl hm hr hM hci hc hn hst hw (Nat.zero_le _) (Nat.zero_le _) (fun v M' h => by obtain ⟨x, rfl, h⟩ := h; exact k x M' h)
theorem Ev.cvL {P : Int64 → Wd → Prop} (hd : Dc Y pc (.invokevirtual i) 3) (hl : Cond.methodLink Y.1.cls i Yc.1 ∈ GW) (hm : MV Yc n) (hr : rmok Yc Y = true) (hc : CtL G Yc (.ref a :: As) M 0 0 P) (hM : ∃ fs, gt M a = some (ob ci fs)) (hci : vwCl[ci]?.map (·.1) = some Yc.1.cls) (hn : As.length = n) (hst : st = As.reverse ++ .ref a :: rest) (hw : Nat.ble (rest.map fun v => v.category).sum 8 = true)
    (k : ∀ (x : Int64) (M' : Wd), P x M' → Ev G Y (pc + 3) ls (.long x :: rest) M' kr nr Q) : Ev G Y pc ls st M kr nr Q := by
  obtain ⟨fs, hM⟩ := hM
  exact Ev.cv hd hl hm hr hM hci hc hn hst hw (Nat.zero_le _) (Nat.zero_le _) (fun v M' h => by obtain ⟨x, rfl, h⟩ := h; exact k x M' h)
theorem Ev.cvV {P : Wd → Prop} (hd : Dc Y pc (.invokevirtual i) 3) (hl : Cond.methodLink Y.1.cls i Yc.1 ∈ GW) (hm : MV Yc n) (hr : rmok Yc Y = true) (hc : CtV G Yc (.ref a :: As) M 0 0 P) (hM : ∃ fs, gt M a = some (ob ci fs)) (hci : vwCl[ci]?.map (·.1) = some Yc.1.cls) (hn : As.length = n) (hst : st = As.reverse ++ .ref a :: rest) (hw : Nat.ble (rest.map fun v => v.category).sum 8 = true)
    (k : ∀ (M' : Wd), P M' → Ev G Y (pc + 3) ls rest M' kr nr Q) : Ev G Y pc ls st M kr nr Q := by
  obtain ⟨fs, hM⟩ := hM
  exact Ev.cv hd hl hm hr hM hci hc hn hst hw (Nat.zero_le _) (Nat.zero_le _) (fun v M' h => by obtain ⟨rfl, h⟩ := h; exact k M' h)
theorem Ev.csI {P : Int32 → Wd → Prop} (hd : Dc Y pc (.invokestatic i) 3) (hl : Cond.methodLink Y.1.cls i Yc.1 ∈ GW) (hm : MS Yc n) (hr : rmok Yc Y = true) (hc : CtI G Yc As M 0 0 P) (hn : As.length = n) (hst : st = As.reverse ++ rest) (hw : Nat.ble (rest.map fun v => v.category).sum 8 = true)
    (k : ∀ (x : Int32) (M' : Wd), P x M' → Ev G Y (pc + 3) ls (.int x :: rest) M' kr nr Q) : Ev G Y pc ls st M kr nr Q :=
  Ev.cs hd hl hm hr hc hn hst hw (Nat.zero_le _) (Nat.zero_le _) (fun v M' h => by obtain ⟨x, rfl, h⟩ := h; exact k x M' h)
theorem Ev.csV {P : Wd → Prop} (hd : Dc Y pc (.invokestatic i) 3) (hl : Cond.methodLink Y.1.cls i Yc.1 ∈ GW) (hm : MS Yc n) (hr : rmok Yc Y = true) (hc : CtV G Yc As M 0 0 P) (hn : As.length = n) (hst : st = As.reverse ++ rest) (hw : Nat.ble (rest.map fun v => v.category).sum 8 = true)
    (k : ∀ (M' : Wd), P M' → Ev G Y (pc + 3) ls rest M' kr nr Q) : Ev G Y pc ls st M kr nr Q :=
  Ev.cs hd hl hm hr hc hn hst hw (Nat.zero_le _) (Nat.zero_le _) (fun v M' h => by obtain ⟨rfl, h⟩ := h; exact k M' h)
theorem Ev.csNI {host : String} {P : Int32 → Wd → Prop} (hd : Dc Y pc (.invokestatic i) 3) (hl : ∀ s : State, Nx s → va_Nw (.methodLinkNest Y.1.cls i Yc.1 host) s) (hm : MS Yc n) (hr : rmok Yc Y = true) (hc : CtI G Yc As M 0 0 P) (hn : As.length = n) (hst : st = As.reverse ++ rest) (hw : Nat.ble (rest.map fun v => v.category).sum 8 = true)
    (k : ∀ (x : Int32) (M' : Wd), P x M' → Ev G Y (pc + 3) ls (.int x :: rest) M' kr nr Q) : Ev G Y pc ls st M kr nr Q :=
  Ev.csN hd hl hm hr hc hn hst hw (Nat.zero_le _) (Nat.zero_le _) (fun v M' h => by obtain ⟨x, rfl, h⟩ := h; exact k x M' h)
theorem Ev.min {x y : Int32} (hd : Dc Y pc (.invokestatic i) 3) (hl : MW Y.1.cls i Lib.Math.min.name Lib.Math.min.code 2) (hr : (Nat.ble 1 Y.2.2.2.2.1 && Nat.ble 21 Y.2.2.2.2.2) = true) (hw : Nat.ble (rest.map fun v => v.category).sum 8 = true) (k : Ev G Y (pc + 3) ls (.int (if y < x then y else x) :: rest) M kr nr Q) : Ev G Y pc ls (.int y :: .int x :: rest) M kr nr Q := by
  intro p e R s m args below meth c Z C hR arr H locs cells slots hl9 hP hS h1 h2
  have hts := C.2.2.2.2.1
  have hr2 := Bool.and_eq_true_iff.mp hr
  have f1 := Nat.le_of_ble_eq_true hr2.1
  have f2 := Nat.le_of_ble_eq_true hr2.2
  have f3 := Nat.le_of_ble_eq_true hw
  have f4 := C.2.2.2.2.2.2.1
  have f5 := C.2.2.2.2.2.2.2.1
  exact va_mmin C.1 C.2.1 (by rw [C.2.2.1]; exact hl9.1.symm) C.2.2.2.1 (hts _ hl.1) (hts _ hl.2.1) (hts _ hl.2.2.1) (hts _ hl.2.2.2) (by omega) (by omega) (by omega) (by omega) hd (k p e R s m args below meth c Z C hR arr H locs cells slots hl9 hP hS h1 h2)
theorem Ev.max {x y : Int32} (hd : Dc Y pc (.invokestatic i) 3) (hl : MW Y.1.cls i Lib.Math.max.name Lib.Math.max.code 2) (hr : (Nat.ble 1 Y.2.2.2.2.1 && Nat.ble 21 Y.2.2.2.2.2) = true) (hw : Nat.ble (rest.map fun v => v.category).sum 8 = true) (k : Ev G Y (pc + 3) ls (.int (if x < y then y else x) :: rest) M kr nr Q) : Ev G Y pc ls (.int y :: .int x :: rest) M kr nr Q := by
  intro p e R s m args below meth c Z C hR arr H locs cells slots hl9 hP hS h1 h2
  have hts := C.2.2.2.2.1
  have hr2 := Bool.and_eq_true_iff.mp hr
  have f1 := Nat.le_of_ble_eq_true hr2.1
  have f2 := Nat.le_of_ble_eq_true hr2.2
  have f3 := Nat.le_of_ble_eq_true hw
  have f4 := C.2.2.2.2.2.2.1
  have f5 := C.2.2.2.2.2.2.2.1
  exact va_mmax C.1 C.2.1 (by rw [C.2.2.1]; exact hl9.1.symm) C.2.2.2.1 (hts _ hl.1) (hts _ hl.2.1) (hts _ hl.2.2.1) (hts _ hl.2.2.2) (by omega) (by omega) (by omega) (by omega) hd (k p e R s m args below meth c Z C hR arr H locs cells slots hl9 hP hS h1 h2)
theorem Ev.abs {x : Int32} (hd : Dc Y pc (.invokestatic i) 3) (hl : MW Y.1.cls i Lib.Math.abs.name Lib.Math.abs.code 1) (hr : (Nat.ble 1 Y.2.2.2.2.1 && Nat.ble 21 Y.2.2.2.2.2) = true) (hw : Nat.ble (rest.map fun v => v.category).sum 8 = true) (k : Ev G Y (pc + 3) ls (.int (if 0 ≤ x then x else 0 - x) :: rest) M kr nr Q) : Ev G Y pc ls (.int x :: rest) M kr nr Q := by
  intro p e R s m args below meth c Z C hR arr H locs cells slots hl9 hP hS h1 h2
  have hts := C.2.2.2.2.1
  have hr2 := Bool.and_eq_true_iff.mp hr
  have f1 := Nat.le_of_ble_eq_true hr2.1
  have f2 := Nat.le_of_ble_eq_true hr2.2
  have f3 := Nat.le_of_ble_eq_true hw
  have f4 := C.2.2.2.2.2.2.1
  have f5 := C.2.2.2.2.2.2.2.1
  exact va_mabs C.1 C.2.1 (by rw [C.2.2.1]; exact hl9.1.symm) C.2.2.2.1 (hts _ hl.1) (hts _ hl.2.1) (hts _ hl.2.2.1) (hts _ hl.2.2.2) (by omega) (by omega) (by omega) (by omega) hd (k p e R s m args below meth c Z C hR arr H locs cells slots hl9 hP hS h1 h2)
theorem Ev.copy {a0 n0 n1 : Nat} {f g : Nat → Int32} {sp dp z : Int32} (hd : Dc Y pc (.invokestatic i) 3) (hl : AW Y.1.cls i) (hnat : (Cond.native arraycopyName).onTables = true → True) (hM0 : gt M a0 = some (ia 0 n0 f)) (hM1 : gt M a = some (ia 0 n1 g)) (g1 : ¬ sp < 0) (g2 : ¬ dp < 0) (g3 : ¬ z < 0) (g4 : sp.toNatClampNeg + z.toNatClampNeg ≤ n0) (g5 : dp.toNatClampNeg + z.toNatClampNeg ≤ n1) (hr : (Nat.ble 1 Y.2.2.2.2.1 && Nat.ble (8 + (nativeFrameWords "java/lang/System" "arraycopy" 5 + 11)) Y.2.2.2.2.2) = true) (hw : Nat.ble (rest.map fun v => v.category).sum 8 = true)
    (k : Ev G Y (pc + 3) ls rest (up M a (ia 0 n1 (va_cpy f g sp.toNatClampNeg dp.toNatClampNeg z.toNatClampNeg))) kr nr Q) : Ev G Y pc ls (.int z :: .int dp :: .ref a :: .int sp :: .ref a0 :: rest) M kr nr Q := by
  intro p e R s m args below meth c Z C hR arr H locs cells slots hl9 hP hS h1 h2
  have hts := C.2.2.2.2.1
  have hr2 := Bool.and_eq_true_iff.mp hr
  have f1 := Nat.le_of_ble_eq_true hr2.1
  have f2 := Nat.le_of_ble_eq_true hr2.2
  have f3 := Nat.le_of_ble_eq_true hw
  have f4 := C.2.2.2.2.2.2.1
  have f5 := C.2.2.2.2.2.2.2.1
  obtain ⟨q0, hq0, -⟩ := gt_pl (cA := gC G) hM0
  obtain ⟨q1, hq1, hu⟩ := gt_pl (cA := gC G) hM1
  refine va_copyi C.1 C.2.1 (by rw [C.2.2.1]; exact hl9.1.symm) C.2.2.2.1 (hts _ hl.1) (hts _ hl.2.1) (hts _ hl.2.2.1) (hts _ hl.2.2.2) C.2.2.2.2.2.1.1 hP.1 hP.2.1 hS q0 q1 0 0 hq0 hq1 rfl rfl rfl g1 g2 g3 g4 g5 (fun _ _ => rfl) (by omega) (by omega) hd (fun H1 locs1 t1 t2 t3 => ?_)
  exact k p e R s m args below meth c Z C hR arr H1 locs1 cells slots hl9 (Pic.set (hu _) t1 t2 t3 C.2.2.2.2.2.2.2.2.2.2.2.1) t3 h1 h2
theorem Pic.nw {G : GP} {M : Wd} {q : Nat} {x : En} {H1 : Heap} {s : State} {locs : List Loc} (h1 : va_P G.2.1 vwCl (ew (gC G) M ++ [(q, emb (gC G) x)]) H1) (h2 : va_D (gA G) (ew (gC G) M ++ [(q, emb (gC G) x)])) (hS : va_S (gA G) s.heap H1 locs) (hB : gB G ≤ s.heap.size) : Pic G (M ++ [(q, x)]) H1 := by
  have e : ew (gC G) (M ++ [(q, x)]) = ew (gC G) M ++ [(q, emb (gC G) x)] := by simp [ew]
  exact ⟨by rw [e]; exact h1, by rw [e]; exact h2, Nat.le_trans hB hS.1⟩
theorem Ev.new {N : Nat} (hd : Dc Y pc (.new i) 3) (hl : NL Y.1.cls i ci N fs) (k : ∀ q : Nat, gt M q = none → Ev G Y (pc + 3) ls (.ref q :: st) (M ++ [(q, ob ci fs)]) kr nr Q) : Ev G Y pc ls st M (kr + 1) (nr + N) Q := by
  obtain ⟨C', T, ty, ⟨hc, hin, hty, hnm⟩, w1, w2, w3, hfs⟩ := hl
  intro p e R s m args below meth c Z C hR arr H locs cells slots hl9 hP hS h1 h2
  have hts := C.2.2.2.2.1
  refine va_new C.1 C.2.1 hts hin ty hty C.2.2.2.1 (hts _ w1) (hts _ w2) (hts _ w3) C.2.2.2.2.2.1.1 hP.1 hP.2.1 hS (fun q h => Nat.le_trans C.2.2.2.2.2.2.2.2.2.2.2.1 h) hc hfs (by omega) (by omega) hd (fun q H1 t1 t2 t3 => ?_)
  exact k q (gt_fresh t2) p e R s m args below meth c Z C hR arr H1 locs _ _ hl9 (Pic.nw (x := ob ci fs) t1 t2 t3 C.2.2.2.2.2.2.2.2.2.2.2.1) t3 (by omega) (by omega)
theorem ra_same {G : GP} {s : State} {t : Nat} {cx : ClassId} {ty : FieldType} (hk : va_K G.2.1 vwCl (tysA (gC G) ++ [(cx, ty)]) s) (ht : (tysA (gC G))[t]? = some (gC G t, ty)) (hn : ∀ x, va_RA s x ty → s.vm.findClass ("[" ++ ty.toString) = some x) : cx = gC G t := by
  have h1 := (hk.2 6 (cx, ty) rfl).2
  have h2 := (hk.2 t (gC G t, ty) (by rw [List.getElem?_append_left (List.getElem?_eq_some_iff.mp ht).1]; exact ht)).2
  exact Option.some.inj ((hn _ h1).symm.trans (hn _ h2))
theorem Ev.newi {z : Int32} {N : Nat} (hd : Dc Y pc (.newarray .int) 2) (hwd : Cond.arrayClass .int ∈ GW) (hz : ¬ z < 0) (hN : z.toNatClampNeg = N) (hb : Nat.ble (N * 4) 536870912 = true) (k : ∀ q : Nat, gt M q = none → Ev G Y (pc + 2) ls (.ref q :: st) (M ++ [(q, ia 0 N (fun _ => 0))]) kr nr Q) : Ev G Y pc ls (.int z :: st) M (kr + 1) (nr + N) Q := by
  intro p e R s m args below meth c Z C hR arr H locs cells slots hl9 hP hS h1 h2
  have hts := C.2.2.2.2.1
  refine va_newa (atype := .int) (ty := .int) (a0 := (N, .inl (fun _ => 0))) C.1 C.2.1 (hts _ hwd) rfl C.2.2.2.2.2.1.1 hP.1 hP.2.1 hS (fun q h => Nat.le_trans C.2.2.2.2.2.2.2.2.2.2.2.1 h) (fun _ => rfl) hz hN (Nat.le_of_ble_eq_true hb) (by omega) (by omega) hd (fun q cx H1 hk t1 t2 t3 => ?_)
  have hcx := ra_same (t := 0) hk rfl (fun _ h => h)
  subst hcx
  exact k q (gt_fresh t2) p e R s m args below meth c Z C hR arr H1 locs _ _ hl9 (Pic.nw (x := ia 0 N (fun _ => 0)) t1 t2 t3 C.2.2.2.2.2.2.2.2.2.2.2.1) t3 (by omega) (by omega)
theorem Ev.newb {z : Int32} {N : Nat} (hd : Dc Y pc (.newarray .byte) 2) (hwd : Cond.arrayClass .byte ∈ GW) (hz : ¬ z < 0) (hN : z.toNatClampNeg = N) (hb : Nat.ble (N * 1) 536870912 = true) (k : ∀ q : Nat, gt M q = none → Ev G Y (pc + 2) ls (.ref q :: st) (M ++ [(q, ia 1 N (fun _ => 0))]) kr nr Q) : Ev G Y pc ls (.int z :: st) M (kr + 1) (nr + N) Q := by
  intro p e R s m args below meth c Z C hR arr H locs cells slots hl9 hP hS h1 h2
  have hts := C.2.2.2.2.1
  refine va_newa (atype := .byte) (ty := .byte) (a0 := (N, .inl (fun _ => 0))) C.1 C.2.1 (hts _ hwd) rfl C.2.2.2.2.2.1.1 hP.1 hP.2.1 hS (fun q h => Nat.le_trans C.2.2.2.2.2.2.2.2.2.2.2.1 h) (fun _ => rfl) hz hN (Nat.le_of_ble_eq_true hb) (by omega) (by omega) hd (fun q cx H1 hk t1 t2 t3 => ?_)
  have hcx := ra_same (t := 1) hk rfl (fun _ h => h)
  subst hcx
  exact k q (gt_fresh t2) p e R s m args below meth c Z C hR arr H1 locs _ _ hl9 (Pic.nw (x := ia 1 N (fun _ => 0)) t1 t2 t3 C.2.2.2.2.2.2.2.2.2.2.2.1) t3 (by omega) (by omega)
theorem Ev.newz {z : Int32} {N : Nat} (hd : Dc Y pc (.newarray .boolean) 2) (hwd : Cond.arrayClass .boolean ∈ GW) (hz : ¬ z < 0) (hN : z.toNatClampNeg = N) (hb : Nat.ble (N * 1) 536870912 = true) (k : ∀ q : Nat, gt M q = none → Ev G Y (pc + 2) ls (.ref q :: st) (M ++ [(q, ia 2 N (fun _ => 0))]) kr nr Q) : Ev G Y pc ls (.int z :: st) M (kr + 1) (nr + N) Q := by
  intro p e R s m args below meth c Z C hR arr H locs cells slots hl9 hP hS h1 h2
  have hts := C.2.2.2.2.1
  refine va_newa (atype := .boolean) (ty := .boolean) (a0 := (N, .inl (fun _ => 0))) C.1 C.2.1 (hts _ hwd) rfl C.2.2.2.2.2.1.1 hP.1 hP.2.1 hS (fun q h => Nat.le_trans C.2.2.2.2.2.2.2.2.2.2.2.1 h) (fun _ => rfl) hz hN (Nat.le_of_ble_eq_true hb) (by omega) (by omega) hd (fun q cx H1 hk t1 t2 t3 => ?_)
  have hcx := ra_same (t := 2) hk rfl (fun _ h => h)
  subst hcx
  exact k q (gt_fresh t2) p e R s m args below meth c Z C hR arr H1 locs _ _ hl9 (Pic.nw (x := ia 2 N (fun _ => 0)) t1 t2 t3 C.2.2.2.2.2.2.2.2.2.2.2.1) t3 (by omega) (by omega)
theorem Ev.newl {z : Int32} {N : Nat} (hd : Dc Y pc (.newarray .long) 2) (hwd : Cond.arrayClass .long ∈ GW) (hz : ¬ z < 0) (hN : z.toNatClampNeg = N) (hb : Nat.ble (N * 8) 536870912 = true) (k : ∀ q : Nat, gt M q = none → Ev G Y (pc + 2) ls (.ref q :: st) (M ++ [(q, la N (fun _ => 0))]) kr nr Q) : Ev G Y pc ls (.int z :: st) M (kr + 1) (nr + N) Q := by
  intro p e R s m args below meth c Z C hR arr H locs cells slots hl9 hP hS h1 h2
  have hts := C.2.2.2.2.1
  refine va_newa (atype := .long) (ty := .long) (a0 := (N, .inr (.inl (fun _ => 0)))) C.1 C.2.1 (hts _ hwd) rfl C.2.2.2.2.2.1.1 hP.1 hP.2.1 hS (fun q h => Nat.le_trans C.2.2.2.2.2.2.2.2.2.2.2.1 h) (fun _ => rfl) hz hN (Nat.le_of_ble_eq_true hb) (by omega) (by omega) hd (fun q cx H1 hk t1 t2 t3 => ?_)
  have hcx := ra_same (t := 3) hk rfl (fun _ h => h)
  subst hcx
  exact k q (gt_fresh t2) p e R s m args below meth c Z C hR arr H1 locs _ _ hl9 (Pic.nw (x := la N (fun _ => 0)) t1 t2 t3 C.2.2.2.2.2.2.2.2.2.2.2.1) t3 (by omega) (by omega)
end ET
