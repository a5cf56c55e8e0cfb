/-! the reference walked with its world as one word -/
/-- all cells that there were stay, but those of L -/
def Fw (L : List Nat) (M M' : Wd) : Prop := ∀ b : Nat, b ∉ L → ∀ e : En, gt M b = some e → gt M' b = some e
theorem Fw.rf {L : List Nat} {M : Wd} : Fw L M M := fun _ _ _ h => h
theorem Fw.tr {L : List Nat} {M M1 M2 : Wd} (h : Fw L M M1) (h2 : Fw L M1 M2) : Fw L M M2 := fun b hb e he => h2 b hb e (h b hb e he)
theorem Fw.of {L : List Nat} {M M1 : Wd} (h : Fr L M M1) : Fw L M M1 := fun b hb _ he => (h b hb).trans he
theorem Fw.pt {L : List Nat} {M M1 : Wd} {a : Nat} {e : En} (h : Fw L M M1) (ha : a ∈ L) : Fw L M (up M1 a e) := fun b hb x hx => by
  have hne : b ≠ a := fun q => hb (by rw [q]; exact ha)
  exact gt_rd hne (h b hb x hx)
theorem Fw.nw {L : List Nat} {M M1 : Wd} {q : Nat} {e : En} (h : Fw L M M1) (hq : gt M1 q = none) : Fw L M (M1 ++ [(q, e)]) := fun b hb x hx => by
  have g := h b hb x hx
  have hne : b ≠ q := fun z => by rw [z, hq] at g; cases g
  exact gt_odr hne g
theorem Fw.mono {L L' : List Nat} {M M1 : Wd} (h : Fw L M M1) (hL : ∀ a, a ∈ L → a ∈ L') : Fw L' M M1 := fun b hb => h b (fun q => hb (hL b q))
/-- the reference's world, and nothing else has changed since M0 -/
def MZ (a : Nat → Nat) (M0 : Wd) (v : Nat → Int32) (L : Int64) (X : Nat → Nat → Int32) (M : Wd) : Prop := InjM a ∧ MX a v L X M ∧ Fw (mdl a) M0 M
abbrev moL (v : Nat → Int32) (L : Int64) (a : Nat → Nat) : List Value := [.int (v 0), .ref (a 1), .ref (a 2), .int (v 3), .ref (a 4), .int (v 5), .int (v 6), .ref (a 7), .int (v 8), .int (v 9), .int (v 10), .int (v 11), .int (v 12), .int (v 13), .long L, .int (v 15), .int (v 16), .ref (a 17), .int (v 18), .int (v 19), .int (v 20), .int (v 21), .ref (a 22), .ref (a 23), .ref (a 24), .ref (a 25), .ref (a 26), .ref (a 27), .int (v 28), .int (v 29), .int (v 30), .ref (a 31), .ref (a 32), .int (v 33), .ref (a 34), .ref (a 35), .int (v 36), .int (v 37), .int (v 38), .ref (a 39), .ref (a 40)]
theorem mq1 : (1, 0, 1189) ∈ mtb := by decide
theorem mq2 : (2, 0, 14268) ∈ mtb := by decide
theorem mq4 : (4, 0, 32) ∈ mtb := by decide
theorem mq7 : (7, 1, 800) ∈ mtb := by decide
theorem mq17 : (17, 0, 320) ∈ mtb := by decide
theorem mq22 : (22, 2, 41) ∈ mtb := by decide
theorem mq23 : (23, 0, 41) ∈ mtb := by decide
theorem mq24 : (24, 0, 1001) ∈ mtb := by decide
theorem mq25 : (25, 0, 1001) ∈ mtb := by decide
theorem mq26 : (26, 0, 1001) ∈ mtb := by decide
theorem mq27 : (27, 0, 1001) ∈ mtb := by decide
theorem mq31 : (31, 0, 82) ∈ mtb := by decide
theorem mq32 : (32, 0, 82) ∈ mtb := by decide
theorem mq34 : (34, 0, 41) ∈ mtb := by decide
theorem mq35 : (35, 2, 41) ∈ mtb := by decide
theorem mq39 : (39, 0, 82) ∈ mtb := by decide
theorem mq40 : (40, 0, 82) ∈ mtb := by decide
theorem MZ.rf {a : Nat → Nat} {v : Nat → Int32} {L : Int64} {X : Nat → Nat → Int32} {M : Wd} (hj : InjM a) (h : MX a v L X M) : MZ a M v L X M := ⟨hj, h, Fw.rf⟩
theorem MZ.to {a : Nat → Nat} {M0 M M1 : Wd} {v v' : Nat → Int32} {L L' : Int64} {X X' : Nat → Nat → Int32} (h : MZ a M0 v L X M) (h1 : MX a v' L' X' M1) (h2 : Fr (mdl a) M M1) : MZ a M0 v' L' X' M1 := ⟨h.1, h1, h.2.2.tr (Fw.of h2)⟩
theorem MZ.tw {a : Nat → Nat} {M0 M M1 : Wd} {v v' : Nat → Int32} {L L' : Int64} {X X' : Nat → Nat → Int32} (h : MZ a M0 v L X M) (h1 : MZ a M v' L' X' M1) : MZ a M0 v' L' X' M1 := ⟨h.1, h1.2.1, h.2.2.tr h1.2.2⟩
theorem MZ.xc {a : Nat → Nat} {M0 M : Wd} {v v' : Nat → Int32} {L : Int64} {X X' : Nat → Nat → Int32} (h : MZ a M0 v L X M) (hv : v = v') (hX : X = X') : MZ a M0 v' L X' M := by subst hv; subst hX; exact h
theorem tbl_lt {f t N : Nat} (h : (f, t, N) ∈ mtb) : N ≤ 100000 := by
  have : ∀ q ∈ mtb, q.2.2 ≤ 100000 := by decide
  exact this _ h
section MOK
variable {G : GP} {a : Nat → Nat} {M0 M : Wd} {v : Nat → Int32} {L : Int64} {X : Nat → Nat → Int32} {Y : MI} {pc i kx f N kr nr : Nat} {ls : List (Option Value)} {st : List Value} {Q : Option Value → Wd → Prop} {fin : Bool} {ft : FieldType} {x y : Int32}
theorem Ev.mgv (hd : Dc Y pc (.getfield i) 3) (hf : FL Y.1.cls i 6 kx fin ft) (hZ : MZ a M0 v L X M) (hv : (moL v L a)[kx]? = some (.int (v kx))) (k : Ev G Y (pc + 3) ls (.int (v kx) :: st) M kr nr Q) : Ev G Y pc ls (.ref (a 0) :: st) M kr nr Q := Ev.getf hd hf hZ.2.1.1 hv k
theorem Ev.mgr (hd : Dc Y pc (.getfield i) 3) (hf : FL Y.1.cls i 6 kx fin ft) (hZ : MZ a M0 v L X M) (hv : (moL v L a)[kx]? = some (.ref (a kx))) (k : Ev G Y (pc + 3) ls (.ref (a kx) :: st) M kr nr Q) : Ev G Y pc ls (.ref (a 0) :: st) M kr nr Q := Ev.getf hd hf hZ.2.1.1 hv k
theorem Ev.mgl (hd : Dc Y pc (.getfield i) 3) (hf : FL Y.1.cls i 6 14 fin ft) (hZ : MZ a M0 v L X M) (k : Ev G Y (pc + 3) ls (.long L :: st) M kr nr Q) : Ev G Y pc ls (.ref (a 0) :: st) M kr nr Q := Ev.getf hd hf hZ.2.1.1 rfl k
theorem Ev.mput (hd : Dc Y pc (.putfield i) 3) (hf : FL Y.1.cls i 6 kx false .int) (hZ : MZ a M0 v L X M) (hk : (moL v L a).set kx (.int x) = moL (upd v kx x) L a) (hl : Nat.blt kx (moL v L a).length = true) (k : ∀ M', MZ a M0 (upd v kx x) L X M' → Ev G Y (pc + 3) ls st M' kr nr Q) : Ev G Y pc ls (.int x :: .ref (a 0) :: st) M kr nr Q := by
  refine Ev.put hd hf hZ.2.1.1 rfl rfl hl ?_
  rw [hk]
  exact k _ ⟨hZ.1, hZ.2.1.sv hZ.1, hZ.2.2.pt (by simp [mdl])⟩
theorem Ev.mputl {z : Int64} (hd : Dc Y pc (.putfield i) 3) (hf : FL Y.1.cls i 6 14 false .long) (hZ : MZ a M0 v L X M) (k : ∀ M', MZ a M0 v z X M' → Ev G Y (pc + 3) ls st M' kr nr Q) : Ev G Y pc ls (.long z :: .ref (a 0) :: st) M kr nr Q := by
  refine Ev.put hd hf hZ.2.1.1 rfl rfl (by rfl) ?_
  exact k _ ⟨hZ.1, hZ.2.1.sv (w := v) (K := z) hZ.1, hZ.2.2.pt (by simp [mdl])⟩
theorem Ev.mld (hq : (f, 0, N) ∈ mtb) (j : Nat) (hd : Dc Y pc .iaload 1) (hZ : MZ a M0 v L X M) (hx : x = nI j) (hj : j < N) (k : Ev G Y (pc + 1) ls (.int (X f j) :: st) M kr nr Q) : Ev G Y pc ls (.int x :: .ref (a f) :: st) M kr nr Q := by
  have := tbl_lt hq
  have hb : vp_in (nI j) N := vp_in_nI hj (by omega)
  subst hx
  refine Ev.iald hd (hZ.2.1.2 _ hq) hb ?_
  rw [nI_clamp (by omega)]
  exact k
theorem Ev.mzld (hq : (f, 2, N) ∈ mtb) (j : Nat) (hd : Dc Y pc .baload 1) (hZ : MZ a M0 v L X M) (hx : x = nI j) (hj : j < N) (k : Ev G Y (pc + 1) ls (.int (X f j) :: st) M kr nr Q) : Ev G Y pc ls (.int x :: .ref (a f) :: st) M kr nr Q := by
  have := tbl_lt hq
  have hb : vp_in (nI j) N := vp_in_nI hj (by omega)
  subst hx
  refine Ev.zald hd (hZ.2.1.2 _ hq) hb ?_
  rw [nI_clamp (by omega)]
  exact k
theorem Ev.mbld (hq : (f, 1, N) ∈ mtb) (j : Nat) (hd : Dc Y pc .baload 1) (hZ : MZ a M0 v L X M) (hx : x = nI j) (hj : j < N) (k : Ev G Y (pc + 1) ls (.int (X f j) :: st) M kr nr Q) : Ev G Y pc ls (.int x :: .ref (a f) :: st) M kr nr Q := by
  have := tbl_lt hq
  have hb : vp_in (nI j) N := vp_in_nI hj (by omega)
  subst hx
  refine Ev.bald hd (hZ.2.1.2 _ hq) hb ?_
  rw [nI_clamp (by omega)]
  exact k
theorem Ev.mst (hq : (f, 0, N) ∈ mtb) (j : Nat) (hd : Dc Y pc .iastore 1) (hZ : MZ a M0 v L X M) (hx : x = nI j) (hj : j < N) (k : ∀ M', MZ a M0 v L (ux X f (upd (X f) j y)) M' → Ev G Y (pc + 1) ls st M' kr nr Q) : Ev G Y pc ls (.int y :: .int x :: .ref (a f) :: st) M kr nr Q := by
  have := tbl_lt hq
  have hb : vp_in (nI j) N := vp_in_nI hj (by omega)
  subst hx
  refine Ev.iast hd (hZ.2.1.2 _ hq) hb ?_
  rw [nI_clamp (by omega)]
  exact k _ ⟨hZ.1, MX.st hZ.1 hZ.2.1 _ hq, hZ.2.2.pt (mtb_in _ hq a)⟩
theorem Ev.mzst (hq : (f, 2, N) ∈ mtb) (j : Nat) (hd : Dc Y pc .bastore 1) (hZ : MZ a M0 v L X M) (hx : x = nI j) (hj : j < N) (hbn : vp_nar .boolean y = y) (k : ∀ M', MZ a M0 v L (ux X f (upd (X f) j y)) M' → Ev G Y (pc + 1) ls st M' kr nr Q) : Ev G Y pc ls (.int y :: .int x :: .ref (a f) :: st) M kr nr Q := by
  have := tbl_lt hq
  have hb : vp_in (nI j) N := vp_in_nI hj (by omega)
  subst hx
  refine Ev.zast hd (hZ.2.1.2 _ hq) hb ?_
  rw [nI_clamp (by omega), hbn]
  exact k _ ⟨hZ.1, MX.st hZ.1 hZ.2.1 _ hq, hZ.2.2.pt (mtb_in _ hq a)⟩
theorem Ev.mbst (hq : (f, 1, N) ∈ mtb) (j : Nat) (hd : Dc Y pc .bastore 1) (hZ : MZ a M0 v L X M) (hx : x = nI j) (hj : j < N) (k : ∀ M', MZ a M0 v L (ux X f (upd (X f) j (vp_nar .byte y))) M' → Ev G Y (pc + 1) ls st M' kr nr Q) : Ev G Y pc ls (.int y :: .int x :: .ref (a f) :: st) M kr nr Q := by
  have := tbl_lt hq
  have hb : vp_in (nI j) N := vp_in_nI hj (by omega)
  subst hx
  refine Ev.bast hd (hZ.2.1.2 _ hq) hb ?_
  rw [nI_clamp (by omega)]
  exact k _ ⟨hZ.1, MX.st hZ.1 hZ.2.1 _ hq, hZ.2.2.pt (mtb_in _ hq a)⟩
end MOK
/-- from the end of a loop to its beginning -/
theorem ev_ind (n : Nat) (P : Nat → Prop) (h1 : P n) (h2 : ∀ k, k < n → P (k + 1) → P k) : P 0 := by
  have : ∀ d k, k + d = n → P k := by
    intro d
    induction d with
    | zero => intro k hk; have e : k = n := hk; subst e; exact h1
    | succ d ih => intro k hk; exact h2 k (by omega) (ih (k + 1) (by omega))
  exact this n 0 (by omega)
