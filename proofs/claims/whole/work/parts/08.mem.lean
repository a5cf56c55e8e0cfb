theorem Pic.set {G : GP} {M : Wd} {a q0 : Nat} {x : En} {H1 : Heap} {s : State} {locs : List Loc} (hu : ew (gC G) (up M a x) = (ew (gC G) M).set q0 (a, emb (gC G) x)) (h1 : va_P G.2.1 vwCl ((ew (gC G) M).set q0 (a, emb (gC G) x)) H1) (h2 : va_D (gA G) ((ew (gC G) M).set q0 (a, emb (gC G) x))) (hS : va_S (gA G) s.heap H1 locs) (hB : gB G ≤ s.heap.size) : Pic G (up M a x) H1 := by
  refine ⟨by rw [hu]; exact h1, by rw [hu]; exact h2, Nat.le_trans hB hS.1⟩
section EM
variable {G : GP} {Y : MI} {pc : Nat} {ls : List (Option Value)} {st : List Value} {M : Wd} {kr nr : Nat} {Q : Option Value → Wd → Prop}
theorem Ev.getf {a ci kx i : Nat} {fs : List Value} {v : Value} {fin : Bool} {ft : FieldType} (hd : Dc Y pc (.getfield i) 3) (hf : FL Y.1.cls i ci kx fin ft) (hM : gt M a = some (ob ci fs)) (hv : fs[kx]? = some v) (k : Ev G Y (pc + 3) ls (v :: st) M kr nr Q) : Ev G Y pc ls (.ref a :: st) M kr nr Q := by
  obtain ⟨C', T, N, ty, ⟨hc, hin, hty, hnm⟩, hk, hw, hfin, hft, -⟩ := hf
  intro p e R s m args below meth c Z C hR arr H locs cells slots hl hP hS h1 h2
  obtain ⟨q0, hq, -⟩ := gt_pl (cA := gC G) hM
  exact va_get C.1 C.2.1 C.2.2.2.2.1 hin C.2.2.2.1 C.2.2.2.2.2.1.1 hP.1 q0 hq hc kx hk (C.2.2.2.2.1 _ hw) (fun _ h9 => h9) hv hd (k p e R s m args below meth c Z C hR arr H locs cells slots hl hP hS h1 h2)
theorem Ev.getN {a ci kx i : Nat} {fs : List Value} {v : Value} (hd : Dc Y pc (.getfield i) 3) (hf : FN Y.1.cls i ci kx) (hM : gt M a = some (ob ci fs)) (hv : fs[kx]? = some v) (k : Ev G Y (pc + 3) ls (v :: st) M kr nr Q) : Ev G Y pc ls (.ref a :: st) M kr nr Q := by
  obtain ⟨C', T, N, ty, host, ⟨hc, hin, hty, hnm⟩, hk, hw⟩ := hf
  intro p e R s m args below meth c Z C hR arr H locs cells slots hl hP hS h1 h2
  obtain ⟨q0, hq, -⟩ := gt_pl (cA := gC G) hM
  exact va_getN C.1 C.2.1 C.2.2.2.2.1 hin C.2.2.2.1 C.2.2.2.2.2.1.1 hP.1 q0 hq hc kx hk (va_Nw.use rfl (hw s C.2.2.2.2.2.1.2.1)) (fun _ h9 => h9) hv hd (k p e R s m args below meth c Z C hR arr H locs cells slots hl hP hS h1 h2)
theorem Ev.put {a ci kx i : Nat} {fs : List Value} {v : Value} {ft : FieldType} (hd : Dc Y pc (.putfield i) 3) (hf : FL Y.1.cls i ci kx false ft) (hM : gt M a = some (ob ci fs)) (hn : narrow ft v = v) (hfit : fits ft v = true) (hlen : Nat.blt kx fs.length = true) (k : Ev G Y (pc + 3) ls st (up M a (ob ci (fs.set kx v))) kr nr Q) : Ev G Y pc ls (v :: .ref a :: st) M kr nr Q := by
  obtain ⟨C', T, N, ty, ⟨hc, hin, hty, hnm⟩, hk, hw, hfin, hft, -⟩ := hf
  intro p e R s m args below meth c Z C hR arr H locs cells slots hl hP hS h1 h2
  obtain ⟨q0, hq, hu⟩ := gt_pl (cA := gC G) hM
  subst hft
  refine va_put C.1 C.2.1 C.2.2.2.2.1 hin ty hty hnm C.2.2.2.1 C.2.2.2.2.2.1.1 hP.1 hP.2.1 hS q0 hq hc kx hk (C.2.2.2.2.1 _ hw) (fun _ h9 => h9) hfin (hty kx hk) hn hfit (Nat.le_of_ble_eq_true hlen) hd (fun H1 locs1 g1 g2 g3 => ?_)
  exact k p e R s m args below meth c Z C hR arr H1 locs1 cells slots hl (Pic.set (hu _) g1 g2 g3 C.2.2.2.2.2.2.2.2.2.2.2.1) g3 h1 h2
theorem Ev.putF {a ci kx i : Nat} {fs : List Value} {v : Value} {ft : FieldType} (hd : Dc Y pc (.putfield i) 3) (hi : Y.1.name = "<init>") (hf : FL Y.1.cls i ci kx true ft) (hM : gt M a = some (ob ci fs)) (hn : narrow ft v = v) (hfit : fits ft v = true) (hlen : Nat.blt kx fs.length = true) (k : Ev G Y (pc + 3) ls st (up M a (ob ci (fs.set kx v))) kr nr Q) : Ev G Y pc ls (v :: .ref a :: st) M kr nr Q := by
  obtain ⟨C', T, N, ty, ⟨hc, hin, hty, hnm⟩, hk, hw, hfin, hft, hown⟩ := hf
  intro p e R s m args below meth c Z C hR arr H locs cells slots hl hP hS h1 h2
  obtain ⟨q0, hq, hu⟩ := gt_pl (cA := gC G) hM
  subst hft
  refine va_putF C.1 C.2.1 C.2.2.2.2.1 hin ty hty hnm C.2.2.2.1 C.2.2.2.2.2.1.1 hP.1 hP.2.1 hS q0 hq hc kx hk (C.2.2.2.2.1 _ hw) (fun _ h9 => h9) hfin (C.2.2.2.2.2.2.2.2.1.trans hi) (hown rfl) (hty kx hk) hn hfit (Nat.le_of_ble_eq_true hlen) hd (fun H1 locs1 g1 g2 g3 => ?_)
  exact k p e R s m args below meth c Z C hR arr H1 locs1 cells slots hl (Pic.set (hu _) g1 g2 g3 C.2.2.2.2.2.2.2.2.2.2.2.1) g3 h1 h2
theorem Ev.iald {a n : Nat} {f : Nat → Int32} {x : Int32} (hd : Dc Y pc .iaload 1) (hM : gt M a = some (ia 0 n f)) (hi : vp_in x n) (k : Ev G Y (pc + 1) ls (.int (f x.toNatClampNeg) :: st) M kr nr Q) : Ev G Y pc ls (.int x :: .ref a :: st) M kr nr Q := by
  intro p e R s m args below meth c Z C hR arr H locs cells slots hl hP hS h1 h2
  obtain ⟨q0, hq, -⟩ := gt_pl (cA := gC G) hM
  exact va_iald C.1 C.2.1 C.2.2.2.2.2.1.1 hP.1 q0 0 hq rfl hi hd (k p e R s m args below meth c Z C hR arr H locs cells slots hl hP hS h1 h2)
theorem Ev.bald {a n : Nat} {f : Nat → Int32} {x : Int32} (hd : Dc Y pc .baload 1) (hM : gt M a = some (ia 1 n f)) (hi : vp_in x n) (k : Ev G Y (pc + 1) ls (.int (f x.toNatClampNeg) :: st) M kr nr Q) : Ev G Y pc ls (.int x :: .ref a :: st) M kr nr Q := by
  intro p e R s m args below meth c Z C hR arr H locs cells slots hl hP hS h1 h2
  obtain ⟨q0, hq, -⟩ := gt_pl (cA := gC G) hM
  exact va_bald C.1 C.2.1 C.2.2.2.2.2.1.1 hP.1 q0 1 hq rfl hi hd (k p e R s m args below meth c Z C hR arr H locs cells slots hl hP hS h1 h2)
theorem Ev.zald {a n : Nat} {f : Nat → Int32} {x : Int32} (hd : Dc Y pc .baload 1) (hM : gt M a = some (ia 2 n f)) (hi : vp_in x n) (k : Ev G Y (pc + 1) ls (.int (f x.toNatClampNeg) :: st) M kr nr Q) : Ev G Y pc ls (.int x :: .ref a :: st) M kr nr Q := by
  intro p e R s m args below meth c Z C hR arr H locs cells slots hl hP hS h1 h2
  obtain ⟨q0, hq, -⟩ := gt_pl (cA := gC G) hM
  exact va_zald C.1 C.2.1 C.2.2.2.2.2.1.1 hP.1 q0 2 hq rfl hi hd (k p e R s m args below meth c Z C hR arr H locs cells slots hl hP hS h1 h2)
theorem Ev.lald {a n : Nat} {f : Nat → Int64} {x : Int32} (hd : Dc Y pc .laload 1) (hM : gt M a = some (la n f)) (hi : vp_in x n) (k : Ev G Y (pc + 1) ls (.long (f x.toNatClampNeg) :: st) M kr nr Q) : Ev G Y pc ls (.int x :: .ref a :: st) M kr nr Q := by
  intro p e R s m args below meth c Z C hR arr H locs cells slots hl hP hS h1 h2
  obtain ⟨q0, hq, -⟩ := gt_pl (cA := gC G) hM
  exact va_lald C.1 C.2.1 C.2.2.2.2.2.1.1 hP.1 q0 3 hq rfl hi hd (k p e R s m args below meth c Z C hR arr H locs cells slots hl hP hS h1 h2)
theorem Ev.iast {a n : Nat} {f : Nat → Int32} {x v : Int32} (hd : Dc Y pc .iastore 1) (hM : gt M a = some (ia 0 n f)) (hi : vp_in x n) (k : Ev G Y (pc + 1) ls st (up M a (ia 0 n (upd f x.toNatClampNeg v))) kr nr Q) : Ev G Y pc ls (.int v :: .int x :: .ref a :: st) M kr nr Q := by
  intro p e R s m args below meth c Z C hR arr H locs cells slots hl hP hS h1 h2
  obtain ⟨q0, hq, hu⟩ := gt_pl (cA := gC G) hM
  refine va_iast C.1 C.2.1 C.2.2.2.2.2.1.1 hP.1 hP.2.1 hS q0 0 hq rfl hi hd (fun H1 locs1 g1 g2 g3 => ?_)
  exact k p e R s m args below meth c Z C hR arr H1 locs1 cells slots hl (Pic.set (hu _) g1 g2 g3 C.2.2.2.2.2.2.2.2.2.2.2.1) g3 h1 h2
theorem Ev.bast {a n : Nat} {f : Nat → Int32} {x v : Int32} (hd : Dc Y pc .bastore 1) (hM : gt M a = some (ia 1 n f)) (hi : vp_in x n) (k : Ev G Y (pc + 1) ls st (up M a (ia 1 n (upd f x.toNatClampNeg (vp_nar .byte v)))) kr nr Q) : Ev G Y pc ls (.int v :: .int x :: .ref a :: st) M kr nr Q := by
  intro p e R s m args below meth c Z C hR arr H locs cells slots hl hP hS h1 h2
  obtain ⟨q0, hq, hu⟩ := gt_pl (cA := gC G) hM
  refine va_bast C.1 C.2.1 C.2.2.2.2.2.1.1 hP.1 hP.2.1 hS q0 1 hq rfl hi hd (fun H1 locs1 g1 g2 g3 => ?_)
  exact k p e R s m args below meth c Z C hR arr H1 locs1 cells slots hl (Pic.set (hu _) g1 g2 g3 C.2.2.2.2.2.2.2.2.2.2.2.1) g3 h1 h2
theorem Ev.zast {a n : Nat} {f : Nat → Int32} {x v : Int32} (hd : Dc Y pc .bastore 1) (hM : gt M a = some (ia 2 n f)) (hi : vp_in x n) (k : Ev G Y (pc + 1) ls st (up M a (ia 2 n (upd f x.toNatClampNeg (vp_nar .boolean v)))) kr nr Q) : Ev G Y pc ls (.int v :: .int x :: .ref a :: st) M kr nr Q := by
  intro p e R s m args below meth c Z C hR arr H locs cells slots hl hP hS h1 h2
  obtain ⟨q0, hq, hu⟩ := gt_pl (cA := gC G) hM
  refine va_zast C.1 C.2.1 C.2.2.2.2.2.1.1 hP.1 hP.2.1 hS q0 2 hq rfl hi hd (fun H1 locs1 g1 g2 g3 => ?_)
  exact k p e R s m args below meth c Z C hR arr H1 locs1 cells slots hl (Pic.set (hu _) g1 g2 g3 C.2.2.2.2.2.2.2.2.2.2.2.1) g3 h1 h2
theorem Ev.last {a n : Nat} {f : Nat → Int64} {x : Int32} {v : Int64} (hd : Dc Y pc .lastore 1) (hM : gt M a = some (la n f)) (hi : vp_in x n) (k : Ev G Y (pc + 1) ls st (up M a (la n (vp_updL f x.toNatClampNeg v))) kr nr Q) : Ev G Y pc ls (.long v :: .int x :: .ref a :: st) M kr nr Q := by
  intro p e R s m args below meth c Z C hR arr H locs cells slots hl hP hS h1 h2
  obtain ⟨q0, hq, hu⟩ := gt_pl (cA := gC G) hM
  refine va_last C.1 C.2.1 C.2.2.2.2.2.1.1 hP.1 hP.2.1 hS q0 3 hq rfl hi hd (fun H1 locs1 g1 g2 g3 => ?_)
  exact k p e R s m args below meth c Z C hR arr H1 locs1 cells slots hl (Pic.set (hu _) g1 g2 g3 C.2.2.2.2.2.2.2.2.2.2.2.1) g3 h1 h2
theorem Ev.bkld {a n : Nat} {f : Nat → Option Nat} {x : Int32} (hd : Dc Y pc .aaload 1) (hM : gt M a = some (ra 5 n f)) (hi : vp_in x n) {q : Nat} (hq : f x.toNatClampNeg = some q) (k : Ev G Y (pc + 1) ls (.ref q :: st) M kr nr Q) : Ev G Y pc ls (.int x :: .ref a :: st) M kr nr Q := by
  intro p e R s m args below meth c Z C hR arr H locs cells slots hl hP hS h1 h2
  obtain ⟨q0, hq0, -⟩ := gt_pl (cA := gC G) hM
  refine va_aldq C.1 C.2.1 C.2.2.2.2.2.1.1 hP.1 q0 5 hq0 rfl hi hd ?_
  rw [hq]
  exact k p e R s m args below meth c Z C hR arr H locs cells slots hl hP hS h1 h2
theorem Ev.arld {a n : Nat} {f : Nat → Option Nat} {x : Int32} (hd : Dc Y pc .aaload 1) (hM : gt M a = some (ra 4 n f)) (hi : vp_in x n) {q : Nat} (hq : f x.toNatClampNeg = some q) (k : Ev G Y (pc + 1) ls (.ref q :: st) M kr nr Q) : Ev G Y pc ls (.int x :: .ref a :: st) M kr nr Q := by
  intro p e R s m args below meth c Z C hR arr H locs cells slots hl hP hS h1 h2
  obtain ⟨q0, hq0, -⟩ := gt_pl (cA := gC G) hM
  have hlt : x.toNatClampNeg < n := Nat.not_le.mp fun q => hi (Or.inr q)
  exact W.aald (v := .ref q) (ty := .array .int) C.1 C.2.1 (hP.1 q0 _ hq0) ((C.2.2.2.2.2.1.1.2 4 _ rfl).1 n (fun j => va_rf (f j))) rfl (fun q => by cases q) (by show ¬ (x < 0 ∨ (arrV _ _ _).slots.size ≤ _); rw [arrV_size]; exact hi) (by show (arrV _ _ _).slots[_]? = _; rw [arrV_read _ _ hlt, hq]; rfl) rfl rfl hd (k p e R s m args below meth c Z C hR arr H locs cells slots hl hP hS h1 h2)
theorem Ev.bkst {a n v : Nat} {f : Nat → Option Nat} {x : Int32} {vs : List Value} (hd : Dc Y pc .aastore 1) (hM : gt M a = some (ra 5 n f)) (hv : gt M v = some (ob 2 vs)) (hi : vp_in x n) (k : Ev G Y (pc + 1) ls st (up M a (ra 5 n (va_up f x.toNatClampNeg (some v)))) kr nr Q) : Ev G Y pc ls (.ref v :: .int x :: .ref a :: st) M kr nr Q := by
  intro p e R s m args below meth c Z C hR arr H locs cells slots hl hP hS h1 h2
  obtain ⟨q0, hq, hu⟩ := gt_pl (cA := gC G) hM
  obtain ⟨q1, hq1, -⟩ := gt_pl (cA := gC G) hv
  refine va_astq C.1 C.2.1 C.2.2.2.2.2.1.1 hP.1 hP.2.1 hS q0 5 q1 2 hq rfl hq1 rfl hi hd (fun H1 locs1 g1 g2 g3 => ?_)
  exact k p e R s m args below meth c Z C hR arr H1 locs1 cells slots hl (Pic.set (hu _) g1 g2 g3 C.2.2.2.2.2.2.2.2.2.2.2.1) g3 h1 h2
theorem Ev.sld {x : Int32} (hY : Y.1.name = "law") (hd : Dc Y pc .iaload 1) (hi : vp_in x G.2.2.2.2.2.1) (k : Ev G Y (pc + 1) ls (.int (G.2.2.2.2.2.2 x.toNatClampNeg) :: st) M kr nr Q) : Ev G Y pc ls (.int x :: .ref G.2.2.2.2.1 :: st) M kr nr Q := by
  intro p e R s m args below meth c Z C hR arr H locs cells slots hl hP hS h1 h2
  obtain ⟨g1, g2, g3⟩ := C.2.2.2.2.2.2.2.2.2.2.2.2 hY
  exact va_sld C.1 C.2.1 g1 g2 g3 hS hi hd (k p e R s m args below meth c Z C hR arr H locs cells slots hl hP hS h1 h2)
theorem Ev.slen (hY : Y.1.name = "law") (hd : Dc Y pc .arraylength 1) (k : Ev G Y (pc + 1) ls (.int (Int32.ofNat G.2.2.2.2.2.1) :: st) M kr nr Q) : Ev G Y pc ls (.ref G.2.2.2.2.1 :: st) M kr nr Q := by
  intro p e R s m args below meth c Z C hR arr H locs cells slots hl hP hS h1 h2
  obtain ⟨g1, g2, g3⟩ := C.2.2.2.2.2.2.2.2.2.2.2.2 hY
  exact va_slen C.1 C.2.1 g1 g2 g3 hS hd (k p e R s m args below meth c Z C hR arr H locs cells slots hl hP hS h1 h2)
end EM
theorem Ev.getr {G : GP} {Y : MI} {pc : Nat} {ls : List (Option Value)} {st : List Value} {M : Wd} {kr nr : Nat} {Q : Option Value → Wd → Prop} {a ci kx i : Nat} {fs : List Value} {v : Value} (hd : Dc Y pc (.getfield i) 3) (hf : FR Y.1.cls i ci kx) (hM : gt M a = some (ob ci fs)) (hv : fs[kx]? = some v) (k : Ev G Y (pc + 3) ls (v :: st) M kr nr Q) : Ev G Y pc ls (.ref a :: st) M kr nr Q := by
  obtain ⟨C', T, N, ty, ⟨hc, hin, hty, hnm⟩, hk, hw⟩ := hf
  intro p e R s m args below meth c Z C hR arr H locs cells slots hl hP hS h1 h2
  obtain ⟨q0, hq, -⟩ := gt_pl (cA := gC G) hM
  exact va_get C.1 C.2.1 C.2.2.2.2.1 hin C.2.2.2.1 C.2.2.2.2.2.1.1 hP.1 q0 hq hc kx hk (C.2.2.2.2.1 _ hw) (fun _ h9 => h9) hv hd (k p e R s m args below meth c Z C hR arr H locs cells slots hl hP hS h1 h2)
