/-- the callee's frames and locals fit below the caller's -/
abbrev rmok (Yc Y : MI) : Bool := Nat.ble (Yc.2.2.2.2.1 + 1) Y.2.2.2.2.1 && Nat.ble (8 + (Yc.2.2.1 + 11) + Yc.2.2.2.2.2) Y.2.2.2.2.2
theorem rmok_of {Yc Y : MI} {R : Room} (h : rmok Yc Y = true) (h1 : Y.2.2.2.2.1 ≤ R.frames) (h2 : Y.2.2.2.2.2 ≤ R.locals) : Yc.2.2.2.2.1 + 1 ≤ R.frames ∧ 8 + (Yc.2.2.1 + 11) + Yc.2.2.2.2.2 ≤ R.locals := by
  have h := Bool.and_eq_true_iff.mp h
  exact ⟨Nat.le_trans (Nat.le_of_ble_eq_true h.1) h1, Nat.le_trans (Nat.le_of_ble_eq_true h.2) h2⟩
theorem gw_cons {Y : MI} (h : Cond.code Y.1 Y.2.1 Y.2.2.1 Y.2.2.2.1 ∈ GW) : GoodIn GW (Cond.code Y.1 Y.2.1 Y.2.2.1 Y.2.2.2.1 :: GW) := fun w hw => by
  rcases List.mem_cons.mp hw with e | e
  · subst e
    exact ⟨h, gw_good h⟩
  · exact ⟨e, gw_good e⟩
theorem ct_blind {G : GP} {M : Wd} {As : List Value} : FrameBlind (va_Pc As (fun U => Pic G M U.heap ∧ Kx G U)) := fun a U g mk q => ⟨q.1, q.2.1, Kx.same (s := U) (U := U.calling g mk a) rfl rfl q.2.2⟩
abbrev ctQ (G : GP) (Qc : Option Value → Wd → Prop) : Array Value → State → Outcome → State → Prop := fun _ st oc t => (∃ (v : Option Value) (M' : Wd), oc = .returned v ∧ Qc v M' ∧ Pic G M' t.heap ∧ Kx G t) ∧ va_F (gA G) st t
theorem ev_goes {G : GP} {p : Program} {e : Env} {R : Room} {s : State} {m : MethodId} {args : Array Value} {below : List Frame} {meth : Method} {c : Code} {H : Heap} {locs : List Loc} {cells slots mc ms pc : Nat} {Z : State → Prop} {arr : Array Slot} {st0 rest : List Value} {a : Array Value} {Qc : Option Value → Wd → Prop}
    (hr : va_Run p G.1 e R s m args below meth c H locs cells slots mc ms (F0 m pc arr st0) rest (ctQ G Qc a) (gA G)) (hS : va_S (gA G) s.heap H locs)
    (kk : ∀ (v : Option Value) (M' : Wd) (H1 : Heap) (locs1 : List Loc), Qc v M' → Pic G M' H1 → va_S (gA G) s.heap H1 locs1 → W p G.1 e R s m args below meth c H1 locs1 (cells + mc) (slots + ms) Z (F0 m (pc + 3) arr (v.toList ++ rest))) : W p G.1 e R s m args below meth c H locs cells slots Z (F0 m pc arr st0) := by
  intro T hT X
  obtain ⟨v, st₀, t, T', L, h0, X', hL, e1, e2, ⟨⟨v', M', hv, hQ, hP, hK⟩, hz, hk⟩, st⟩ := hr T hT X
  cases hv
  rw [h0] at hz hk
  obtain ⟨t2, a1, b1⟩ := kk v M' T'.heap (locs ++ L) hQ (by rw [e1]; exact hP)
    ⟨Nat.le_trans hS.1 (by rw [e1]; exact hz), fun q h1 h2 => by rw [e1, hk q (Nat.lt_of_lt_of_le h1 hS.1) h2]; exact hS.2.1 q h1 h2, fun q hq => by
      rcases List.mem_append.mp hq with h | h
      · exact hS.2.2 q h
      · exact hL q h⟩ T' rfl X'
  exact ⟨t2, st t2 a1, b1⟩
section EC
variable {G : GP} {Y Yc : MI} {pc : Nat} {ls : List (Option Value)} {st rest : List Value} {M : Wd} {kr nr mc ms n i a ci : Nat} {Q Qc : Option Value → Wd → Prop} {As fs : List Value}
theorem Ev.cv (hd : Dc Y pc (.invokevirtual i) 3) (hl : Cond.methodLink Y.1.cls i Yc.1 ∈ GW) (hm : MV Yc n) (hr : rmok Yc Y = true) (hM : gt M a = some (ob ci fs)) (hci : vwCl[ci]?.map (·.1) = some Yc.1.cls) (hc : Ct G Yc (.ref a :: As) M mc ms Qc) (hn : As.length = n) (hst : st = As.reverse ++ .ref a :: rest) (hw : Nat.ble (rest.map fun v => v.category).sum 8 = true) (h3 : mc ≤ kr) (h4 : ms ≤ nr)
    (k : ∀ (v : Option Value) (M' : Wd), Qc v M' → Ev G Y (pc + 3) ls (v.toList ++ rest) M' (kr - mc) (nr - ms) Q) : Ev G Y pc ls st M kr nr Q := by
  intro p e R s m args below meth c Z C hR arr H locs cells slots hl9 hP hS h1 h2
  subst hst
  obtain ⟨⟨q1, q2, q3, q4, q5⟩, q6, q7⟩ := hm
  obtain ⟨q0, hq, -⟩ := gt_pl (cA := gC G) hM
  obtain ⟨r, hr1, hr2⟩ := Option.map_eq_some_iff.mp hci
  have hts := C.2.2.2.2.1
  have hK := C.2.2.2.2.2.1
  have hrec := va_recv hK.1 hP.1 hr1 hq
  rw [hr2] at hrec
  refine ev_goes (Qc := Qc) (va_runV (As := As) (rest := rest) ⟨C.1, C.2.1, C.2.2.1, C.2.2.2.1, hts⟩ hc ⟨callB_of n hts (gw_cons q1) rfl rfl rfl (hts _ q2) (hts _ hl) ⟨q3, q4, q5⟩ (rmok_of hr C.2.2.2.2.2.2.1 C.2.2.2.2.2.2.2.1), hts _ q6, hts _ q7⟩ ⟨ct_blind, hrec, fun U hU hW => ⟨rfl, by rw [hU]; exact hP, hK.go hW hU hS⟩⟩ rfl hn hl9.1 rfl (lv_room (Nat.le_of_ble_eq_true hw)) hd ⟨by omega, by omega⟩) hS (fun v M' H1 locs1 g1 g2 g3 => ?_)
  exact k v M' g1 p e R s m args below meth c Z C hR arr H1 locs1 _ _ hl9 g2 g3 (by omega) (by omega)
theorem Ev.cs (hd : Dc Y pc (.invokestatic i) 3) (hl : Cond.methodLink Y.1.cls i Yc.1 ∈ GW) (hm : MS Yc n) (hr : rmok Yc Y = true) (hc : Ct G Yc As M mc ms Qc) (hn : As.length = n) (hst : st = As.reverse ++ rest) (hw : Nat.ble (rest.map fun v => v.category).sum 8 = true) (h3 : mc ≤ kr) (h4 : ms ≤ nr)
    (k : ∀ (v : Option Value) (M' : Wd), Qc v M' → Ev G Y (pc + 3) ls (v.toList ++ rest) M' (kr - mc) (nr - ms) Q) : Ev G Y pc ls st M kr nr Q := by
  intro p e R s m args below meth c Z C hR arr H locs cells slots hl9 hP hS h1 h2
  subst hst
  obtain ⟨⟨q1, q2, q3, q4, q5⟩, q6⟩ := hm
  have hts := C.2.2.2.2.1
  have hK := C.2.2.2.2.2.1
  refine ev_goes (Qc := Qc) (va_runS (As := As) (rest := rest) ⟨C.1, C.2.1, C.2.2.1, C.2.2.2.1, hts⟩ hc ⟨callB_of n hts (gw_cons q1) rfl rfl rfl (hts _ q2) (hts _ hl) ⟨q3, q4, q5⟩ (rmok_of hr C.2.2.2.2.2.2.1 C.2.2.2.2.2.2.2.1), hts _ q6⟩ ⟨ct_blind, fun U hU hW => ⟨rfl, by rw [hU]; exact hP, hK.go hW hU hS⟩⟩ rfl hn hl9.1 rfl (lv_room (Nat.le_of_ble_eq_true hw)) hd ⟨by omega, by omega⟩) hS (fun v M' H1 locs1 g1 g2 g3 => ?_)
  exact k v M' g1 p e R s m args below meth c Z C hR arr H1 locs1 _ _ hl9 g2 g3 (by omega) (by omega)
theorem Ev.csN {host : String} (hd : Dc Y pc (.invokestatic i) 3) (hl : ∀ s : State, Nx s → va_Nw (.methodLinkNest Y.1.cls i Yc.1 host) s) (hm : MS Yc n) (hr : rmok Yc Y = true) (hc : Ct G Yc As M mc ms Qc) (hn : As.length = n) (hst : st = As.reverse ++ rest) (hw : Nat.ble (rest.map fun v => v.category).sum 8 = true) (h3 : mc ≤ kr) (h4 : ms ≤ nr)
    (k : ∀ (v : Option Value) (M' : Wd), Qc v M' → Ev G Y (pc + 3) ls (v.toList ++ rest) M' (kr - mc) (nr - ms) Q) : Ev G Y pc ls st M kr nr Q := by
  intro p e R s m args below meth c Z C hR arr H locs cells slots hl9 hP hS h1 h2
  subst hst
  obtain ⟨⟨q1, q2, q3, q4, q5⟩, q6⟩ := hm
  have hts := C.2.2.2.2.1
  have hK := C.2.2.2.2.2.1
  refine ev_goes (Qc := Qc) (va_runSN (As := As) (rest := rest) ⟨C.1, C.2.1, C.2.2.1, C.2.2.2.1, hts⟩ hc ⟨va_cnB n hts (gw_cons q1) rfl rfl rfl (hl s hK.2.1) (hts _ q2) ⟨q3, q4, q5⟩ (rmok_of hr C.2.2.2.2.2.2.1 C.2.2.2.2.2.2.2.1), hts _ q6, trivial⟩ ⟨ct_blind, fun U hU hW => ⟨rfl, by rw [hU]; exact hP, hK.go hW hU hS⟩⟩ rfl hn hl9.1 rfl (lv_room (Nat.le_of_ble_eq_true hw)) hd ⟨by omega, by omega⟩) hS (fun v M' H1 locs1 g1 g2 g3 => ?_)
  exact k v M' g1 p e R s m args below meth c Z C hR arr H1 locs1 _ _ hl9 g2 g3 (by omega) (by omega)
theorem Ev.cn (hd : Dc Y pc (.invokespecial i) 3) (hl : Cond.methodLink Y.1.cls i Yc.1 ∈ GW) (hm : MC Yc n) (hret : Yc.2.2.2.1 = none) (hr : rmok Yc Y = true) (hc : Ct G Yc (.ref a :: As) M mc ms Qc) (hn : As.length = n) (hst : st = As.reverse ++ .ref a :: rest) (hw : Nat.ble (rest.map fun v => v.category).sum 8 = true) (h3 : mc ≤ kr) (h4 : ms ≤ nr)
    (k : ∀ (v : Option Value) (M' : Wd), Qc v M' → Ev G Y (pc + 3) ls (v.toList ++ rest) M' (kr - mc) (nr - ms) Q) : Ev G Y pc ls st M kr nr Q := by
  intro p e R s m args below meth c Z C hR arr H locs cells slots hl9 hP hS h1 h2
  subst hst
  obtain ⟨⟨q1, q2, q3, q4, q5⟩, q6, q7⟩ := hm
  have hts := C.2.2.2.2.1
  have hK := C.2.2.2.2.2.1
  have hcb := callB_of (R := R) (own := Y.1.cls) (index := i) n hts (gw_cons q1) rfl (rm := { frames := Yc.2.2.2.2.1, cells := mc, slots := ms, locals := Yc.2.2.2.2.2 }) rfl rfl (hts _ q2) (hts _ hl) ⟨q3, q4, q5⟩ (rmok_of hr C.2.2.2.2.2.2.1 C.2.2.2.2.2.2.2.1)
  unfold Ct at hc
  rw [hret] at hc hcb
  refine ev_goes (Qc := Qc) (va_runI (As := As) (rest := rest) ⟨C.1, C.2.1, C.2.2.1, C.2.2.2.1, hts⟩ hc ⟨hcb, q6, hts _ q7⟩ ⟨ct_blind, fun U hU hW => ⟨rfl, by rw [hU]; exact hP, hK.go hW hU hS⟩⟩ rfl hn hl9.1 rfl (lv_room (Nat.le_of_ble_eq_true hw)) hd ⟨by omega, by omega⟩) hS (fun v M' H1 locs1 g1 g2 g3 => ?_)
  exact k v M' g1 p e R s m args below meth c Z C hR arr H1 locs1 _ _ hl9 g2 g3 (by omega) (by omega)
theorem Ev.cnN {host : String} (hd : Dc Y pc (.invokespecial i) 3) (hl : ∀ s : State, Nx s → va_Nw (.methodLinkNest Y.1.cls i Yc.1 host) s) (hm : MC Yc n) (hret : Yc.2.2.2.1 = none) (hr : rmok Yc Y = true) (hc : Ct G Yc (.ref a :: As) M mc ms Qc) (hn : As.length = n) (hst : st = As.reverse ++ .ref a :: rest) (hw : Nat.ble (rest.map fun v => v.category).sum 8 = true) (h3 : mc ≤ kr) (h4 : ms ≤ nr)
    (k : ∀ (v : Option Value) (M' : Wd), Qc v M' → Ev G Y (pc + 3) ls (v.toList ++ rest) M' (kr - mc) (nr - ms) Q) : Ev G Y pc ls st M kr nr Q := by
  intro p e R s m args below meth c Z C hR arr H locs cells slots hl9 hP hS h1 h2
  subst hst
  obtain ⟨⟨q1, q2, q3, q4, q5⟩, q6, q7⟩ := hm
  have hts := C.2.2.2.2.1
  have hK := C.2.2.2.2.2.1
  have hcb := va_cnB (R := R) (host := host) (own := Y.1.cls) (index := i) n hts (gw_cons q1) rfl (rm := { frames := Yc.2.2.2.2.1, cells := mc, slots := ms, locals := Yc.2.2.2.2.2 }) rfl rfl (hl s hK.2.1) (hts _ q2) ⟨q3, q4, q5⟩ (rmok_of hr C.2.2.2.2.2.2.1 C.2.2.2.2.2.2.2.1)
  unfold Ct at hc
  rw [hret] at hc hcb
  refine ev_goes (Qc := Qc) (va_runIN (As := As) (rest := rest) ⟨C.1, C.2.1, C.2.2.1, C.2.2.2.1, hts⟩ hc ⟨hcb, q6, hts _ q7⟩ ⟨ct_blind, fun U hU hW => ⟨rfl, by rw [hU]; exact hP, hK.go hW hU hS⟩⟩ rfl hn hl9.1 rfl (lv_room (Nat.le_of_ble_eq_true hw)) hd ⟨by omega, by omega⟩) hS (fun v M' H1 locs1 g1 g2 g3 => ?_)
  exact k v M' g1 p e R s m args below meth c Z C hR arr H1 locs1 _ _ hl9 g2 g3 (by omega) (by omega)
theorem Ev.objI {hi : Nat} (hd : Dc Y pc (.invokespecial i) 3) (hl : Cond.methodLink Y.1.cls i objectInit ∈ GW) (hx : Cond.instanceMethod objectInit ∈ GW) (hy : Cond.code objectInit ⟨#[0xb1]⟩ 1 none ∈ GW) (hr : (Nat.ble 1 Y.2.2.2.2.1 && Nat.ble 20 Y.2.2.2.2.2) = true) (hw : Nat.ble (rest.map fun v => v.category).sum 8 = true) (k : Ev G Y (pc + 3) ls rest M kr nr Q) : Ev G Y pc ls (.ref a :: rest) M kr nr Q := by
  intro p e R s m args below meth c Z C hR arr H locs cells slots hl9 hP hS h1 h2
  have hts := C.2.2.2.2.1
  have hr2 := Bool.and_eq_true_iff.mp hr
  have f1 := Nat.le_of_ble_eq_true hr2.1
  have f2 := Nat.le_of_ble_eq_true hr2.2
  have f3 := Nat.le_of_ble_eq_true hw
  have f4 := C.2.2.2.2.2.2.1
  have f5 := C.2.2.2.2.2.2.2.1
  refine W.objInit C.1 C.2.1 C.2.2.2.1 (hts _ hl) (hts _ hx) (hts _ hy) rfl (by rw [C.2.2.1]; exact hl9.1) rfl hd (by omega) (by show 2 * 0 + _ + 12 ≤ _; omega) ?_
  exact k p e R s m args below meth c Z C hR arr H locs cells slots hl9 hP hS h1 h2
end EC
