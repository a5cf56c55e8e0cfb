/-- the words that last -/
def GW : List Cond := lw_tbl.filter goodWord
theorem gw_in {w : Cond} (i : Nat) (h : lw_tbl[i]? = some w) (hg : goodWord w = true) : w ∈ GW := List.mem_filter.mpr ⟨List.mem_of_getElem? h, hg⟩
theorem gw_good {w : Cond} (h : w ∈ GW) : (w.onTables && w.keeps) = true ∨ ∃ ty, w = .arrayClass ty := good_of_word (List.mem_filter.mp h).2
theorem gw_of {args : Array Value} {s : State} (h : ∀ w ∈ lw_tbl, w.before args s = true) : ∀ w ∈ GW, w.before args s = true := fun w hw => h w (List.mem_filter.mp hw).1
/-- a cell: an object (number, fields), an array of ints (0), bytes (1), booleans (2), of longs, of references (4: to arrays of ints, 5: to books) -/
abbrev En : Type := (Nat × List Value) ⊕ ((Nat × Nat × (Nat → Int32)) ⊕ ((Nat × (Nat → Int64)) ⊕ (Nat × Nat × (Nat → Option Nat))))
abbrev Wd : Type := List (Nat × En)
abbrev ob (ci : Nat) (fs : List Value) : En := .inl (ci, fs)
abbrev ia (t n : Nat) (f : Nat → Int32) : En := .inr (.inl (t, n, f))
abbrev la (n : Nat) (f : Nat → Int64) : En := .inr (.inr (.inl (n, f)))
abbrev ra (t n : Nat) (f : Nat → Option Nat) : En := .inr (.inr (.inr (t, n, f)))
abbrev tysA (cA : Nat → ClassId) : List (ClassId × FieldType) := [(cA 0, .int), (cA 1, .byte), (cA 2, .boolean), (cA 3, .long), (cA 4, .array .int), (cA 5, .object "OpenCross$Book")]
def emb (cA : Nat → ClassId) : En → va_E
  | .inl o => .inr o
  | .inr (.inl (t, n, f)) => .inl (cA t, n, .inl f)
  | .inr (.inr (.inl (n, f))) => .inl (cA 3, n, .inr (.inl f))
  | .inr (.inr (.inr (t, n, f))) => .inl (cA t, n, .inr (.inr (.inr (.inr f))))
def ew (cA : Nat → ClassId) (M : Wd) : va_W := M.map (fun q => (q.1, emb cA q.2))
def gt : Wd → Nat → Option En
  | [], _ => none
  | (b, e) :: t, a => if a = b then some e else gt t a
def up : Wd → Nat → En → Wd
  | [], _, _ => []
  | (b, e0) :: t, a, e => if a = b then (b, e) :: t else (b, e0) :: up t a e
theorem gt_up {M : Wd} {a : Nat} {e0 e : En} (h : gt M a = some e0) : gt (up M a e) a = some e := by
  induction M with
  | nil => cases h
  | cons q t ih =>
    obtain ⟨b, e1⟩ := q
    by_cases hb : a = b
    · simp [up, gt, hb]
    · simp only [gt, if_neg hb] at h
      simp only [up, if_neg hb, gt]
      exact ih h
theorem gt_ne {M : Wd} {a b : Nat} {e : En} (h : b ≠ a) : gt (up M a e) b = gt M b := by
  induction M with
  | nil => rfl
  | cons q t ih =>
    obtain ⟨c, e1⟩ := q
    by_cases hb : a = c
    · subst hb
      simp [up, gt, h]
    · simp only [up, if_neg hb, gt, ih]
theorem gt_rd {M : Wd} {a b : Nat} {e x : En} (h : b ≠ a) (k : gt M b = some x) : gt (up M a e) b = some x := by rw [gt_ne h]; exact k
theorem up_up {M : Wd} {a : Nat} {e1 e2 : En} : up (up M a e1) a e2 = up M a e2 := by
  induction M with
  | nil => rfl
  | cons q t ih =>
    obtain ⟨c, e0⟩ := q
    by_cases hb : a = c
    · simp [up, hb]
    · simp [up, hb, ih]
theorem up_sw {M : Wd} {a b : Nat} {e1 e2 : En} (h : a ≠ b) : up (up M a e1) b e2 = up (up M b e2) a e1 := by
  induction M with
  | nil => rfl
  | cons q t ih =>
    obtain ⟨c, e0⟩ := q
    by_cases hb : a = c
    · subst hb
      simp [up, Ne.symm h]
    · by_cases hc : b = c
      · subst hc
        simp [up, h]
      · simp [up, hb, hc, ih]
theorem up_id {M : Wd} {a : Nat} {e : En} (h : gt M a = some e) : up M a e = M := by
  induction M with
  | nil => rfl
  | cons q t ih =>
    obtain ⟨c, e0⟩ := q
    by_cases hb : a = c
    · subst hb
      simp [gt] at h
      simp [up, h]
    · simp only [gt, if_neg hb] at h
      simp [up, hb, ih h]
theorem gt_none_up {M : Wd} {a b : Nat} {e : En} : gt (up M a e) b = none ↔ gt M b = none := by
  induction M with
  | nil => simp [up, gt]
  | cons q t ih =>
    obtain ⟨c, e0⟩ := q
    by_cases hb : a = c
    · subst hb
      by_cases hq : b = a <;> simp [up, gt, hq]
    · by_cases hq : b = c
      · simp [up, gt, hb, hq]
      · simp [up, gt, hb, hq, ih]
theorem gt_nw {M : Wd} {a : Nat} {e : En} (h : gt M a = none) : gt (M ++ [(a, e)]) a = some e := by
  induction M with
  | nil => simp [gt]
  | cons q t ih =>
    obtain ⟨c, e0⟩ := q
    by_cases hb : a = c
    · simp [gt, hb] at h
    · simp only [gt, if_neg hb] at h
      simp [gt, hb, ih h]
theorem gt_old {M : Wd} {a b : Nat} {e : En} (h : b ≠ a) : gt (M ++ [(a, e)]) b = gt M b := by
  induction M with
  | nil => simp [gt, h]
  | cons q t ih =>
    obtain ⟨c, e0⟩ := q
    by_cases hb : b = c
    · simp [gt, hb]
    · simp [gt, hb, ih]
theorem gt_odr {M : Wd} {a b : Nat} {e x : En} (h : b ≠ a) (k : gt M b = some x) : gt (M ++ [(a, e)]) b = some x := by rw [gt_old h]; exact k
/-- a cell's place in the list -/
theorem gt_pl {cA : Nat → ClassId} {M : Wd} {a : Nat} {e : En} (h : gt M a = some e) : ∃ k : Nat, (ew cA M)[k]? = some (a, emb cA e) ∧ ∀ x : En, ew cA (up M a x) = (ew cA M).set k (a, emb cA x) := by
  induction M with
  | nil => cases h
  | cons q t ih =>
    obtain ⟨b, e1⟩ := q
    by_cases hb : a = b
    · subst hb
      simp [gt] at h
      subst h
      exact ⟨0, by simp [ew], fun x => by simp [ew, up]⟩
    · simp only [gt, if_neg hb] at h
      obtain ⟨k, h1, h2⟩ := ih h
      refine ⟨k + 1, by simpa [ew] using h1, fun x => ?_⟩
      have := h2 x
      simp only [ew] at this
      simp [ew, up, hb, this]
theorem gt_fresh {cA : Nat → ClassId} {A : Nat → Prop} {M : Wd} {q : Nat} {e : va_E} (hD : va_D A (ew cA M ++ [(q, e)])) : gt M q = none := by
  cases h : gt M q with
  | none => rfl
  | some x =>
    obtain ⟨k, h1, -⟩ := gt_pl (cA := cA) h
    have hl : k < (ew cA M).length := (List.getElem?_eq_some_iff.mp h1).1
    have := hD.1 k (ew cA M).length (q, emb cA x) (q, e) (by rw [List.getElem?_append_left hl]; exact h1) (by simp) rfl
    omega
/-- launch, classes' numbers, array classes' numbers, where the world begins, the script: where it lies, its length, its ints -/
abbrev GP : Type := Launch × va_G × (Nat → ClassId) × Nat × Nat × Nat × (Nat → Int32)
abbrev gC (G : GP) : Nat → ClassId := G.2.2.1
abbrev gB (G : GP) : Nat := G.2.2.2.1
abbrev gA (G : GP) : Nat → Prop := fun q => gB G ≤ q
def Pic (G : GP) (M : Wd) (H : Heap) : Prop := va_P G.2.1 vwCl (ew (gC G) M) H ∧ va_D (gA G) (ew (gC G) M) ∧ gB G ≤ H.size
/-- links by nest mates -/
def Nx (s : State) : Prop := va_Nw (.methodLinkNest RX5 11 yX4_init "OpenCross") s ∧ va_Nw (.methodLinkNest RX5 18 yX2_init "OpenCross") s ∧ va_Nw (.methodLinkNest RX0 13 yX1_init "OpenCross") s ∧ va_Nw (.methodLinkNest RX0 20 yX3_init "OpenCross") s ∧ va_Nw (.methodLinkNest RX4 126 yX5_within "OpenCross") s ∧ va_Nw (.fieldLinkNest RX2 67 "OpenCross$Auction" "rows" "[I" "OpenCross") s
theorem Nx.warm {s U : State} (hW : s.WarmedH U.vm) (h : Nx s) : Nx U := by
  obtain ⟨h0, h1, h2, h3, h4, h5⟩ := h
  exact ⟨va_Nw.warmM hW h0, va_Nw.warmM hW h1, va_Nw.warmM hW h2, va_Nw.warmM hW h3, va_Nw.warmM hW h4, va_Nw.warmF hW h5⟩
theorem Nx.same {s U : State} (hv : s.vm = U.vm) (h : Nx s) : Nx U := by
  obtain ⟨h0, h1, h2, h3, h4, h5⟩ := h
  exact ⟨va_Nw.same rfl hv h0, va_Nw.same rfl hv h1, va_Nw.same rfl hv h2, va_Nw.same rfl hv h3, va_Nw.same rfl hv h4, va_Nw.same rfl hv h5⟩
/-- the texts of the class: whose, which entry, what -/
abbrev txL : List (String × Nat × String) := [("OpenCross$Tape", 61, "reference"), ("OpenCross$Tape", 70, "collar"), ("OpenCross$Tape", 75, "buy"), ("OpenCross$Tape", 116, "market"), ("OpenCross$Tape", 118, "limit"), ("OpenCross$Tape", 120, "hidden"), ("OpenCross$Tape", 122, "ice"), ("OpenCross$Tape", 124, "even"), ("OpenCross$Tape", 101, "at"), ("OpenCross$Tape", 106, "shows"), ("OpenCross$Tape", 108, "least"), ("OpenCross$Tape", 110, "by"), ("OpenCross$Tape", 81, "sell"), ("OpenCross", 160, "no such price or what"), ("OpenCross", 191, "no such what"), ("OpenCross", 258, "no such crossing or what")]
abbrev txq (i : Nat) : String × Nat × String := txL.getD i ("", 0, "")
abbrev lenS : List Nat := [9, 6, 3, 6, 5, 6, 3, 4, 2, 5, 5, 2, 4, 21, 12, 24]
abbrev bytS : List (List Int32) := [[114, 101, 102, 101, 114, 101, 110, 99, 101], [99, 111, 108, 108, 97, 114], [98, 117, 121], [109, 97, 114, 107, 101, 116], [108, 105, 109, 105, 116], [104, 105, 100, 100, 101, 110], [105, 99, 101], [101, 118, 101, 110], [97, 116], [115, 104, 111, 119, 115], [108, 101, 97, 115, 116], [98, 121], [115, 101, 108, 108], [110, 111, 32, 115, 117, 99, 104, 32, 112, 114, 105, 99, 101, 32, 111, 114, 32, 119, 104, 97, 116], [110, 111, 32, 115, 117, 99, 104, 32, 119, 104, 97, 116], [110, 111, 32, 115, 117, 99, 104, 32, 99, 114, 111, 115, 115, 105, 110, 103, 32, 111, 114, 32, 119, 104, 97, 116]]
/-- rows of rows of ints may be made -/
def va_AP (U : State) : Prop := (Cond.arrayOver (.array .int)).before #[] U = true
theorem va_AP.moved {u U : State} (hvm : u.vm.Alike U.vm) (h : va_AP u) : va_AP U := by
  obtain ⟨comp, c, k, h1, h2, h3, h4, h5⟩ := arrayOverA_spec h
  obtain ⟨k', hk', he⟩ := hvm.2.2 _ _ h3
  have hb : U.vm.bare = u.vm.bare := by first | exact hvm.bare_eq | exact hvm.bare_eq.symm
  have e1 := va_idx_bare U.vm comp
  have e2 := va_idx_bare u.vm comp
  rw [hb] at e1
  have hi := e1.symm.trans (e2.trans h2)
  have hkind : k'.kind = .array comp (.array .int) := by rw [he]; exact h4
  have f1 : U.vm.findClass (FieldType.array .int).toString = some comp := by rw [hvm.findClass]; exact h1
  have f2 : U.vm.findClass ("[" ++ (FieldType.array .int).toString) = some c := by rw [hvm.findClass]; exact h5
  unfold va_AP Cond.before Cond.holds
  simp only [Cond.value]
  rw [f1, Option.bind_some]
  refine (congrArg (fun o : Option Nat => (o.bind (fun c => (U.vm.classes[c]?).map fun (k : Class) => match k.kind with | .array _ ty => decide (ty = FieldType.array .int) && decide (U.vm.findClass ("[" ++ (FieldType.array .int).toString) = some c) | _ => false) == some true)) hi).trans ?_
  simp [hk', hkind, f2]
abbrev nse : String := "java/util/NoSuchElementException"
/-- what lies ahead of the world: texts, statics; what may be made and caught -/
def Ux (G : GP) (U : State) (H : Heap) : Prop :=
  vk_S 16 lenS bytS (fun i => gC G (100 + i)) (fun i => gC G (200 + i)) (gA G) U H ∧ (∀ i, i < 16 → vk_R (txq i).1 (txq i).2.1 (txq i).2.2 (gC G (100 + i)) U) ∧ va_Z "java/lang/String" "COMPACT_STRINGS" "Z" (.int 1) (gA G) U H ∧ va_Zq "jdk/internal/util/Preconditions" "SIOOBE_FORMATTER" "Ljava/util/function/BiFunction;" (gA G) U H ∧ vx_Zq Bundle.tN "UNASSIGNED_STACK" Bundle.steD (gA G) U H ∧ vx_Zq Bundle.tN "SUPPRESSED_SENTINEL" Bundle.listD (gA G) U H ∧ va_AO "OpenCross$Book" U ∧ va_AP U ∧ va_Nw (.castable nse nse) U
theorem Ux.kept {G : GP} {U : State} {H H1 : Heap} (h : Ux G U H) (hq : ∀ a : Nat, a < H.size → ¬ gA G a → H1[a]? = H[a]?) : Ux G U H1 := by
  obtain ⟨h1, h2, h3, h4, h5, h6, h7⟩ := h
  exact ⟨h1.kept hq, h2, h3.kept hq, va_Zq.kept h4 hq, h5.kept hq, h6.kept hq, h7⟩
theorem Ux.moved {G : GP} {u U : State} {H : Heap} (hW : u.WarmedH U.vm) (h : Ux G u H) : Ux G U H := by
  obtain ⟨h1, h2, h3, h4, h5, h6, h7, h8, h9⟩ := h
  exact ⟨h1.moved hW.alike, fun i hi => (h2 i hi).warm hW, h3.moved hW.alike, va_Zq.moved hW.alike h4, vx_Zq.moved hW.alike h5, vx_Zq.moved hW.alike h6, va_AO.moved hW.alike h7, h8.moved hW.alike, va_Nw.warmC hW h9⟩
theorem Ux.same {G : GP} {u U : State} {H : Heap} (hv : u.vm = U.vm) (h : Ux G u H) : Ux G U H := by
  obtain ⟨h1, h2, h3, h4, h5, h6, h7, h8, h9⟩ := h
  have hA : u.vm.Alike U.vm := by rw [hv]; exact Vm.Alike.refl _
  exact ⟨h1.moved hA, fun i hi => vk_R.same hv.symm (h2 i hi), h3.moved hA, va_Zq.moved hA h4, vx_Zq.moved hA h5, vx_Zq.moved hA h6, va_AO.moved hA h7, h8.moved hA, va_Nw.same rfl hv h9⟩
def Kx (G : GP) (s : State) : Prop := va_K G.2.1 vwCl (tysA (gC G)) s ∧ Nx s ∧ Ux G s s.heap
theorem Kx.go {G : GP} {s U : State} {H : Heap} {locs : List Loc} (h : Kx G s) (hW : s.WarmedH U.vm) (hU : U.heap = H) (hS : va_S (gA G) s.heap H locs) : Kx G U := ⟨va_K.moved hW.alike h.1, h.2.1.warm hW, by rw [hU]; exact (h.2.2.moved hW).kept hS.2.1⟩
theorem Kx.same {G : GP} {s U : State} (hv : s.vm = U.vm) (hh : s.heap = U.heap) (h : Kx G s) : Kx G U := ⟨va_K.moved (by rw [hv]; exact Vm.Alike.refl _) h.1, h.2.1.same hv, by rw [← hh]; exact h.2.2.same hv⟩
abbrev Xx (G : GP) (s : State) : Prop := va_X G.2.2.2.2.1 G.2.2.2.2.2.1 G.2.2.2.2.2.2 s s.heap ∧ G.2.2.2.2.1 < s.heap.size ∧ ¬ gB G ≤ G.2.2.2.2.1
/-- locals -/
def lh (arr : Array Slot) (nL : Nat) (ls : List (Option Value)) : Prop := arr.size = nL ∧ lv_wf arr ∧ ∀ (i : Nat) (v : Value), ls[i]? = some (some v) → arr[i]? = some (.val v)
def prs : Nat → List (Option Value) → List (Nat × Value)
  | _, [] => []
  | k, none :: t => prs (k + 1) t
  | k, some v :: t => (k, v) :: prs (k + 1) t
theorem mem_prs : ∀ (ls : List (Option Value)) (k : Nat) (q : Nat × Value), q ∈ prs k ls ↔ ∃ i : Nat, q.1 = k + i ∧ ls[i]? = some (some q.2)
  | [], k, q => by simp [prs]
  | none :: t, k, q => by
    rw [prs, mem_prs t (k + 1) q]
    constructor
    · rintro ⟨i, h1, h2⟩
      exact ⟨i + 1, by omega, by simpa using h2⟩
    · rintro ⟨i, h1, h2⟩
      match i, h1, h2 with
      | 0, _, h2 => simp at h2
      | i + 1, h1, h2 => exact ⟨i, by omega, by simpa using h2⟩
  | some v :: t, k, q => by
    rw [prs, List.mem_cons, mem_prs t (k + 1) q]
    constructor
    · rintro (h | ⟨i, h1, h2⟩)
      · subst h
        exact ⟨0, rfl, rfl⟩
      · exact ⟨i + 1, by omega, by simpa using h2⟩
    · rintro ⟨i, h1, h2⟩
      match i, h1, h2 with
      | 0, h1, h2 =>
        left
        simp at h2
        obtain ⟨a, b⟩ := q
        simp at h1 h2
        rw [h1, h2]
      | i + 1, h1, h2 => exact Or.inr ⟨i, by omega, by simpa using h2⟩
theorem lh.has {arr : Array Slot} {nL : Nat} {ls : List (Option Value)} (h : lh arr nL ls) : lv_has arr nL (prs 0 ls) := by
  refine ⟨h.1, h.2.1, fun q hq => ?_⟩
  obtain ⟨i, h1, h2⟩ := (mem_prs ls 0 q).mp hq
  rw [show q.1 = i by omega]
  exact h.2.2 i _ h2
def nl : Option Value → Bool
  | none => true
  | some v => v.category != 2
/-- a word is stored at place i -/
def pu : List (Option Value) → Nat → Value → List (Option Value)
  | [], _, _ => []
  | _ :: t, 0, v => some v :: t
  | a :: t, i + 1, v => (if i = 0 then (if nl a then a else none) else a) :: pu t i v
theorem pu_at : ∀ (ls : List (Option Value)) (i : Nat) (v : Value) (j : Nat) (w : Value), (pu ls i v)[j]? = some (some w) → (j = i ∧ w = v) ∨ (j ≠ i ∧ ls[j]? = some (some w) ∧ ¬ (j + 1 = i ∧ w.category = 2))
  | [], i, v, j, w, h => by simp [pu] at h
  | a :: t, 0, v, j, w, h => by
    match j, h with
    | 0, h =>
      simp [pu] at h
      exact Or.inl ⟨rfl, h.symm⟩
    | j + 1, h =>
      simp [pu] at h
      exact Or.inr ⟨by omega, by simpa using h, by omega⟩
  | a :: t, i + 1, v, j, w, h => by
    match j, h with
    | 0, h =>
      simp only [pu, List.getElem?_cons_zero, Option.some.injEq] at h
      refine Or.inr ⟨by omega, ?_, ?_⟩
      · by_cases hi : i = 0
        · rw [if_pos hi] at h
          by_cases ha : nl a = true
          · rw [if_pos ha] at h
            simp [h]
          · rw [if_neg ha] at h
            cases h
        · rw [if_neg hi] at h
          simp [h]
      · rintro ⟨h1, h2⟩
        have hi : i = 0 := by omega
        rw [if_pos hi] at h
        by_cases ha : nl a = true
        · rw [if_pos ha] at h
          subst h
          simp [nl, h2] at ha
        · rw [if_neg ha] at h
          cases h
    | j + 1, h =>
      simp only [pu, List.getElem?_cons_succ] at h
      rcases pu_at t i v j w h with ⟨h1, h2⟩ | ⟨h1, h2, h3⟩
      · exact Or.inl ⟨by omega, h2⟩
      · exact Or.inr ⟨by omega, by simpa using h2, fun q => h3 ⟨by omega, q.2⟩⟩
theorem lh.put {arr : Array Slot} {nL : Nat} {ls : List (Option Value)} {i : Nat} {v : Value} (h : lv_has arr nL ((i, v) :: (prs 0 ls).filter (fun q => !(q.1 == i) && !(q.1 + 1 == i && q.2.category == 2)))) : lh arr nL (pu ls i v) := by
  refine ⟨h.1, h.2.1, fun j w hj => ?_⟩
  rcases pu_at ls i v j w hj with ⟨h1, h2⟩ | ⟨h1, h2, h3⟩
  · subst h1; subst h2
    exact h.2.2 (j, w) List.mem_cons_self
  · refine h.2.2 (j, w) (List.mem_cons_of_mem _ (List.mem_filter.mpr ⟨(mem_prs ls 0 (j, w)).mpr ⟨j, by simp, h2⟩, ?_⟩))
    have e1 : (j == i) = false := by simpa using h1
    simp only [e1, Bool.not_false, Bool.true_and, Bool.not_eq_true', Bool.and_eq_false_iff]
    by_cases hc : j + 1 = i
    · right
      simpa using fun q => h3 ⟨hc, q⟩
    · left
      simpa using hc
/-- two words are stored at place i -/
def pu2 (ls : List (Option Value)) (i : Nat) (v : Value) : List (Option Value) := (pu ls i v).set (i + 1) none
theorem lh.put2 {arr : Array Slot} {nL : Nat} {ls : List (Option Value)} {i : Nat} {v : Value} (h : lv_has arr nL ((i, v) :: (prs 0 ls).filter (fun q => !(q.1 == i) && (!(q.1 == i + 1) && !(q.1 + 1 == i && q.2.category == 2))))) : lh arr nL (pu2 ls i v) := by
  refine ⟨h.1, h.2.1, fun j w hj => ?_⟩
  have hne : j ≠ i + 1 := by
    intro e
    subst e
    simp [pu2, List.getElem?_set] at hj
  have hj2 : (pu ls i v)[j]? = some (some w) := by
    rw [pu2, List.getElem?_set_ne (fun e => hne e.symm)] at hj
    exact hj
  rcases pu_at ls i v j w hj2 with ⟨h1, h2⟩ | ⟨h1, h2, h3⟩
  · subst h1; subst h2
    exact h.2.2 (j, w) List.mem_cons_self
  · refine h.2.2 (j, w) (List.mem_cons_of_mem _ (List.mem_filter.mpr ⟨(mem_prs ls 0 (j, w)).mpr ⟨j, by simp, h2⟩, ?_⟩))
    have e1 : (j == i) = false := by simpa using h1
    have e2 : (j == i + 1) = false := by simpa using hne
    simp only [e1, e2, Bool.not_false, Bool.true_and, Bool.not_eq_true', Bool.and_eq_false_iff]
    by_cases hc : j + 1 = i
    · right
      simpa using fun q => h3 ⟨hc, q⟩
    · left
      simpa using hc
/-- locals at a method's entry -/
def enl : List Value → List (Option Value)
  | [] => []
  | v :: t => if v.category = 2 then some v :: none :: enl t else some v :: enl t
theorem enl_args : ∀ (vs : List Value) (k i : Nat) (w : Value), (enl vs)[i]? = some (some w) → (k + i, w) ∈ lv_args k vs
  | [], k, i, w, h => by simp [enl] at h
  | v :: t, k, i, w, h => by
    by_cases hc : v.category = 2
    · simp only [enl, if_pos hc] at h
      match i, h with
      | 0, h =>
        simp at h
        subst h
        simp [lv_args]
      | 1, h => simp at h
      | i + 2, h =>
        simp at h
        have := enl_args t (k + 2) i w (by simpa using h)
        simp only [lv_args, if_pos hc]
        rw [show k + (i + 2) = k + 2 + i by omega]
        exact List.mem_cons_of_mem _ this
    · simp only [enl, if_neg hc] at h
      match i, h with
      | 0, h =>
        simp at h
        subst h
        simp [lv_args]
      | i + 1, h =>
        simp at h
        have := enl_args t (k + 1) i w (by simpa using h)
        simp only [lv_args, if_neg hc]
        rw [show k + (i + 1) = k + 1 + i by omega]
        exact List.mem_cons_of_mem _ this
