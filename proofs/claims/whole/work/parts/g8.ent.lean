/-! the law's entry: classes, constants, statics -/
section ENT
variable {s : State} {args : Array Value}
theorem kn_of {own : String} {i ci N : Nat} {fs : List Value} (h : NL own i ci N fs) (hg : ∀ w ∈ GW, w.before args s = true) : ∃ z : ClassId × (Nat → Nat), ∀ q : vw_C, vwCl[ci]? = some q → u_Kn s q.1 q.2.1 q.2.2 z.1 z.2 := by
  obtain ⟨C, T, ty, ⟨h1, h2, -⟩, -, w2, -⟩ := h
  obtain ⟨cC, iS, hk⟩ := u_known hg h2 (hg _ w2)
  refine ⟨(cC, iS), fun q hq => ?_⟩
  cases h1.symm.trans hq
  exact hk
theorem lw_in {w : Cond} (i : Nat) (h : lw_tbl[i]? = some w) : w ∈ lw_tbl := List.mem_of_getElem? h
theorem en_K (hts : ∀ w ∈ lw_tbl, w.before args s = true) : ∃ (D : va_G) (cA : Nat → ClassId), ∀ f : Nat → ClassId, (∀ i, i < 6 → f i = cA i) → va_K D vwCl (tysA f) s := by
  have hg := gw_of hts
  have kn : ∀ c : Nat, ∃ z : ClassId × (Nat → Nat), ∀ q : vw_C, vwCl[c]? = some q → u_Kn s q.1 q.2.1 q.2.2 z.1 z.2 := fun c => by
    match c with
    | 0 => exact kn_of nX5_26 hg
    | 1 => exact kn_of nX0_11 hg
    | 2 => exact kn_of nX5_16 hg
    | 3 => exact kn_of nX0_18 hg
    | 4 => exact kn_of nX5_9 hg
    | 5 => exact kn_of nL_8 hg
    | 6 => exact kn_of nL_26 hg
    | j + 7 => exact ⟨(0, fun _ => 0), fun q hq => by cases hq⟩
  obtain ⟨z, hz⟩ := Classical.axiomOfChoice kn
  obtain ⟨c0, k0, p0, a0, b0, d0⟩ := Cond.arrayClass_spec (hg _ ac_int)
  obtain ⟨c1, k1, p1, a1, b1, d1⟩ := Cond.arrayClass_spec (hg _ ac_byte)
  obtain ⟨c2, k2, p2, a2, b2, d2⟩ := Cond.arrayClass_spec (hg _ ac_boolean)
  obtain ⟨c3, k3, p3, a3, b3, d3⟩ := Cond.arrayClass_spec (hg _ ac_long)
  obtain ⟨p4, c4, k4, r4, -, b4, d4, a4⟩ := arrayOverA_spec (t := .int) (hts _ (lw_in 291 (by decide +kernel)))
  obtain ⟨p5, c5, k5, r5, -, b5, d5, a5⟩ := Cond.arrayOver_spec (n := "OpenCross$Book") (hts _ (lw_in 346 (by decide +kernel)))
  refine ⟨(fun c => (z c).1, fun c => (z c).2), (fun i => if i = 0 then c0 else if i = 1 then c1 else if i = 2 then c2 else if i = 3 then c3 else if i = 4 then c4 else c5), fun f hf => ⟨fun c q hq => hz c q hq, fun k q hq => ?_⟩⟩
  have e0 : f 0 = c0 := hf 0 (by decide)
  have e1 : f 1 = c1 := hf 1 (by decide)
  have e2 : f 2 = c2 := hf 2 (by decide)
  have e3 : f 3 = c3 := hf 3 (by decide)
  have e4 : f 4 = c4 := hf 4 (by decide)
  have e5 : f 5 = c5 := hf 5 (by decide)
  rw [tysA, e0, e1, e2, e3, e4, e5] at hq
  match k, hq with
  | 0, hq =>
    cases hq
    exact ⟨fun n z => ⟨(fun k h => by cases h), k0, b0, p0, d0⟩, a0⟩
  | 1, hq =>
    cases hq
    exact ⟨fun n z => ⟨(fun k h => by cases h), k1, b1, p1, d1⟩, a1⟩
  | 2, hq =>
    cases hq
    exact ⟨fun n z => ⟨(fun k h => by cases h), k2, b2, p2, d2⟩, a2⟩
  | 3, hq =>
    cases hq
    exact ⟨fun n z => ⟨(fun k h => by cases h), k3, b3, p3, d3⟩, a3⟩
  | 4, hq =>
    cases hq
    exact ⟨fun n z => ⟨(fun k h => by cases h), k4, b4, p4, d4⟩, a4⟩
  | 5, hq =>
    cases hq
    exact ⟨fun n z => ⟨(fun k h => by cases h), k5, b5, p5, d5⟩, k5, p5, b5, d5, r5, a5⟩
  | j + 6, hq => cases hq
theorem en_N (hts : ∀ w ∈ lw_tbl, w.before args s = true) : Nx s := ⟨va_Nw.of rfl (hts _ (lw_in 108 (by decide +kernel))), va_Nw.of rfl (hts _ (lw_in 147 (by decide +kernel))), va_Nw.of rfl (hts _ (lw_in 199 (by decide +kernel))), va_Nw.of rfl (hts _ (lw_in 238 (by decide +kernel))), va_Nw.of rfl (hts _ (lw_in 478 (by decide +kernel))), va_Nw.of rfl (hts _ (lw_in 314 (by decide +kernel)))⟩
end ENT
