/-! the law: its script, its cases -/
abbrev gb (G : GP) : Nat := G.2.2.2.2.1
abbrev gL (G : GP) : Nat := G.2.2.2.2.2.1
abbrev gX (G : GP) : Nat → Int32 := G.2.2.2.2.2.2
theorem sx {i : Nat} (j : Nat) : nI i + nI j = nI (i + j) := (Int32.ofNat_add i j).symm
section LWR
variable {G : GP} {Y : MI} {pc : Nat} {ls : List (Option Value)} {st : List Value} {M : Wd} {kr nr kr' nr' : Nat} {Q : Option Value → Wd → Prop}
theorem Ev.more (k : Ev G Y pc ls st M kr nr Q) (h3 : kr ≤ kr') (h4 : nr ≤ nr') : Ev G Y pc ls st M kr' nr' Q := by
  intro p e R s m args below meth c Z C hR arr H locs cells slots hl hP hS h1 h2
  exact k p e R s m args below meth c Z C hR arr H locs cells slots hl hP hS (by omega) (by omega)
theorem Ev.fg2 {l0 l1 l2 l3 l4 x y : Option Value} (k : Ev G Y pc [l0, l1, l2, l3, l4, none, none] st M kr nr Q) : Ev G Y pc [l0, l1, l2, l3, l4, x, y] st M kr nr Q := by
  intro p e R s m args below meth c Z C hR arr H locs cells slots hl hP hS h1 h2
  refine k p e R s m args below meth c Z C hR arr H locs cells slots ⟨hl.1, hl.2.1, fun i v hi => ?_⟩ hP hS h1 h2
  match i, hi with
  | 0, hi => exact hl.2.2 0 v hi
  | 1, hi => exact hl.2.2 1 v hi
  | 2, hi => exact hl.2.2 2 v hi
  | 3, hi => exact hl.2.2 3 v hi
  | 4, hi => exact hl.2.2 4 v hi
  | 5, hi => exact absurd hi (by simp)
  | 6, hi => exact absurd hi (by simp)
  | j + 7, hi => exact absurd hi (by simp)
theorem Ev.scl {x : Int32} {n : Nat} (hd : Dc mL_law pc .iaload 1) (hx : x = nI n) (hn : n < gL G) (hL : gL G ≤ 4096) (k : Ev G mL_law (pc + 1) ls (.int (gX G n) :: st) M kr nr Q) : Ev G mL_law pc ls (.int x :: .ref (gb G) :: st) M kr nr Q := by
  intro p e R s m args below meth c Z C hR arr H locs cells slots hl hP hS h1 h2
  subst hx
  have hX := C.2.2.2.2.2.2.2.2.2.2.2.2 rfl
  have hn2 : n < G.2.2.2.2.2.1 := hn
  have hL2 : G.2.2.2.2.2.1 ≤ 4096 := hL
  refine va_sld C.1 C.2.1 hX.1 hX.2.1 hX.2.2 hS (nI_in hn2 (by omega)) hd ?_
  rw [nI_clamp (by omega)]
  exact k p e R s m args below meth c Z C hR arr H locs cells slots hl hP hS h1 h2
theorem Ev.sln (hd : Dc mL_law pc .arraylength 1) (k : Ev G mL_law (pc + 1) ls (.int (nI (gL G)) :: st) M kr nr Q) : Ev G mL_law pc ls (.ref (gb G) :: st) M kr nr Q := by
  intro p e R s m args below meth c Z C hR arr H locs cells slots hl hP hS h1 h2
  have hX := C.2.2.2.2.2.2.2.2.2.2.2.2 rfl
  exact va_slen C.1 C.2.1 hX.1 hX.2.1 hX.2.2 hS hd (k p e R s m args below meth c Z C hR arr H locs cells slots hl hP hS h1 h2)
end LWR
/-- the end of a case: the next turn -/
abbrev LK (G : GP) (q a : Nat → Nat) (o i k kr nr : Nat) (Q : Option Value → Wd → Prop) : Prop := ∀ (q' : Nat → Nat) (na' : Nat) (S' : Sg) (M' : Wd), q' 0 = q 0 → LI q' na' a o S' S' (k + 1) M' → Ev G mL_law 1226 [some (.ref (gb G)), some (.ref (q 0)), some (.ref (a 0)), some (.ref o), some (.int (nI i)), none, none] [] M' kr nr Q
theorem lc_0 {x : Int64} : lg_cmp x x = 0 := by
  simp [lg_cmp]
