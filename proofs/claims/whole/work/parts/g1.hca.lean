/-! calls of the helpers -/
theorem goesH {G : GP} {p : Program} {e : Env} {R : Room} {s : State} {m : MethodId} {args : Array Value} {below : List Frame} {meth : Method} {c : Code} {H : Heap} {locs : List Loc} {cells slots mc ms pc : Nat} {Z : State → Prop} {arr : Array Slot} {st0 rest : List Value} {a : Array Value} {Qc : Option Value → Wd → Prop}
    (hr : vx_Run p G.1 e R s m args below meth c H locs cells slots mc ms (F0 m pc arr st0) rest (ctQ G Qc a) (fun _ _ _ => False) (gA G)) (hS : va_S (gA G) s.heap H locs)
    (kk : ∀ (v : Option Value) (M' : Wd) (H1 : Heap) (locs1 : List Loc), Qc v M' → Pic G M' H1 → va_S (gA G) s.heap H1 locs1 → W p G.1 e R s m args below meth c H1 locs1 (cells + mc) (slots + ms) Z (F0 m (pc + 3) arr (v.toList ++ rest))) : W p G.1 e R s m args below meth c H locs cells slots Z (F0 m pc arr st0) := by
  intro T hT X
  rcases hr T hT X with ⟨v, st₀, t, T', L, h0, X', hL, e1, e2, ⟨⟨v', M', hv, hQ, hP, hK⟩, hz, hk⟩, st⟩ | ⟨q, st₀, t, T', L, E, ce, h0, X', hL, e1, e2, hfalse, hce, hcv, hcl, st⟩
  · cases hv
    rw [h0] at hz hk
    obtain ⟨t2, a1, b1⟩ := kk v M' T'.heap (locs ++ L) hQ (by rw [e1]; exact hP)
      ⟨Nat.le_trans hS.1 (by rw [e1]; exact hz), fun q h1 h2 => by rw [e1, hk q (Nat.lt_of_lt_of_le h1 hS.1) h2]; exact hS.2.1 q h1 h2, fun q hq => by
        rcases List.mem_append.mp hq with h | h
        · exact hS.2.2 q h
        · exact hL q h⟩ T' rfl X'
    exact ⟨t2, st t2 a1, b1⟩
  · exact hfalse.elim
/-- what the tables say of a helper -/
def MH (Y : MI) (hh : List (Nat × Nat × Nat × Nat)) (n : Nat) : Prop := Cond.codeWith Y.1 Y.2.1 Y.2.2.1 Y.2.2.2.1 hh ∈ GW ∧ Cond.static Y.1 ∈ GW ∧ Cond.initialized Y.1.cls ∈ GW ∧ (Y.1.cls ≠ "java/lang/invoke/MethodHandle" ∧ Y.1.cls ≠ "java/lang/invoke/VarHandle" ∧ (parseMethodDescriptor Y.1.desc).map (fun d => d.parameters.length) = some n)
theorem hL_curve : MH mL_curve [(0, 10, 13, 13)] 4 := ⟨gw_in 869 (by decide +kernel) rfl, gw_in 868 (by decide +kernel) rfl, gw_in 79 (by decide +kernel) rfl, by decide, by decide, by decide +kernel⟩
theorem hL_crossed : MH mL_crossed [(0, 9, 12, 13)] 3 := ⟨gw_in 952 (by decide +kernel) rfl, gw_in 951 (by decide +kernel) rfl, gw_in 79 (by decide +kernel) rfl, by decide, by decide, by decide +kernel⟩
theorem hL_notice : MH mL_notice [(0, 9, 12, 13)] 3 := ⟨gw_in 964 (by decide +kernel) rfl, gw_in 963 (by decide +kernel) rfl, gw_in 79 (by decide +kernel) rfl, by decide, by decide, by decide +kernel⟩
theorem hL_past : MH mL_past [(0, 10, 13, 13)] 4 := ⟨gw_in 975 (by decide +kernel) rfl, gw_in 974 (by decide +kernel) rfl, gw_in 79 (by decide +kernel) rfl, by decide, by decide, by decide +kernel⟩
theorem Ev.csH {G : GP} {Y Yc : MI} {pc : Nat} {ls : List (Option Value)} {st rest : List Value} {M : Wd} {kr nr mc ms n i : Nat} {Q Qc : Option Value → Wd → Prop} {As : List Value} {hh : List (Nat × Nat × Nat × Nat)} (hd : Dc Y pc (.invokestatic i) 3) (hl : Cond.methodLink Y.1.cls i Yc.1 ∈ GW) (hm : MH Yc hh n) (hr : rmok Yc Y = true) (hc : CtH G Yc hh As M mc ms Qc) (hn : As.length = n) (hst : st = As.reverse ++ rest) (hw : Nat.ble (rest.map fun v => v.category).sum 8 = true) (h3 : mc ≤ kr) (h4 : ms ≤ nr)
    (k : ∀ (v : Option Value) (M' : Wd), Qc v M' → Ev G Y (pc + 3) ls (v.toList ++ rest) M' (kr - mc) (nr - ms) Q) : Ev G Y pc ls st M kr nr Q := by
  intro p e R s m args below meth c Z C hR arr H locs cells slots hl9 hP hS h1 h2
  subst hst
  obtain ⟨q1, q2, q3, q4⟩ := hm
  have hts := C.2.2.2.2.1
  have hK := C.2.2.2.2.2.1
  have hT : GoodIn GW (va_wsS Y.1.cls i Yc.1 (Cond.codeWith Yc.1 Yc.2.1 Yc.2.2.1 Yc.2.2.2.1 hh :: GW)) := fun w hw => by
    have hm : w ∈ GW := by
      rcases List.mem_append.mp hw with hw | hw
      · simp only [List.mem_cons, List.not_mem_nil, or_false] at hw
        rcases hw with rfl | rfl | rfl
        · exact hl
        · exact q2
        · exact q3
      · rcases List.mem_cons.mp hw with rfl | hw
        · exact q1
        · exact hw
    exact ⟨hm, gw_good hm⟩
  refine goesH (Qc := Qc) (vx_runSX (As := As) (rest := rest) ⟨C.1, C.2.1, C.2.2.1, C.2.2.2.1, hts⟩ hc (vx_cwSW n hts hT rfl rfl rfl q4 (rmok_of hr C.2.2.2.2.2.2.1 C.2.2.2.2.2.2.2.1)) ⟨ct_blind, fun U hU hW => ⟨rfl, by rw [hU]; exact hP, hK.go hW hU hS⟩⟩ rfl hn hl9.1 rfl (lv_room (Nat.le_of_ble_eq_true hw)) hd ⟨by omega, by omega⟩) hS (fun v M' H1 locs1 g1 g2 g3 => ?_)
  exact k v M' g1 p e R s m args below meth c Z C hR arr H1 locs1 _ _ hl9 g2 g3 (by omega) (by omega)
