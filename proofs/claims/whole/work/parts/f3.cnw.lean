/-! constructors: the cells that are made -/
def Cw (M : Wd) (L : List (Nat × En)) (W : Wd) : Prop := (L.map Prod.fst).Nodup ∧ (∀ (i : Nat) (p : Nat × En), L[i]? = some p → gt W p.1 = some p.2) ∧ Fw (L.map Prod.fst) M W
theorem nd_ne {l : List Nat} (h : l.Nodup) {i j x y : Nat} (hi : l[i]? = some x) (hj : l[j]? = some y) (hij : i ≠ j) : x ≠ y := by
  obtain ⟨h1, rfl⟩ := List.getElem?_eq_some_iff.mp hi
  obtain ⟨h2, rfl⟩ := List.getElem?_eq_some_iff.mp hj
  have hp := List.pairwise_iff_getElem.mp h
  by_cases c : i < j
  · exact hp i j h1 h2 c
  · exact (hp j i h2 h1 (by omega)).symm
section CNW
variable {M W W' : Wd} {L N : List (Nat × En)} {a q i : Nat} {e e0 : En}
theorem Cw.at (hC : Cw M L W) (i : Nat) (h : L[i]? = some (a, e)) : gt W a = some e := hC.2.1 i _ h
theorem Cw.key (h : L[i]? = some (a, e)) : (L.map Prod.fst)[i]? = some a := by rw [List.getElem?_map, h]; rfl
theorem Cw.nin (hC : Cw M L W) (hq : gt W q = none) : q ∉ L.map Prod.fst := by
  intro z
  obtain ⟨p, p1, p2⟩ := List.mem_map.mp z
  obtain ⟨j, j1⟩ := List.getElem?_of_mem p1
  have := hC.2.1 j p j1
  rw [p2, hq] at this
  cases this
theorem Cw.fresh (hC : Cw M L W) (hq : gt W q = none) : gt M q = none := by
  cases h : gt M q with
  | none => rfl
  | some x =>
    have := hC.2.2 q (hC.nin hq) x h
    rw [hq] at this
    cases this
theorem Cw.nw (hC : Cw M L W) (hq : gt W q = none) : Cw M (L ++ [(q, e)]) (W ++ [(q, e)]) := by
  refine ⟨?_, fun i p hp => ?_, fun b hb x hx => ?_⟩
  · rw [List.map_append]
    refine List.nodup_append.mpr ⟨hC.1, by simp, fun x hx y hy => ?_⟩
    have : y = q := by simpa using hy
    rw [this]
    exact fun z => hC.nin hq (z ▸ hx)
  · by_cases c : i < L.length
    · rw [List.getElem?_append_left c] at hp
      have := hC.2.1 i p hp
      refine gt_odr (fun z => ?_) this
      rw [z, hq] at this
      cases this
    · rw [List.getElem?_append_right (by omega)] at hp
      have hz : i - L.length < 1 := (List.getElem?_eq_some_iff.mp hp).1
      rw [show i - L.length = 0 by omega] at hp
      have : p = (q, e) := by simpa using hp.symm
      rw [this]
      exact gt_nw hq
  · rw [List.map_append] at hb
    have h1 : b ∉ L.map Prod.fst := fun z => hb (List.mem_append_left _ z)
    have h2 := hC.2.2 b h1 x hx
    exact gt_odr (fun z => by rw [z, hq] at h2; cases h2) h2
theorem Cw.pt (hC : Cw M L W) (hi : L[i]? = some (a, e0)) : Cw M (L.set i (a, e)) (up W a e) := by
  have hk : (L.set i (a, e)).map Prod.fst = L.map Prod.fst := by
    refine List.ext_getElem? (fun j => ?_)
    rw [List.getElem?_map, List.getElem?_map, List.getElem?_set]
    by_cases c : i = j
    · subst c
      have := (List.getElem?_eq_some_iff.mp hi).1
      rw [if_pos rfl, if_pos this, hi]
      rfl
    · rw [if_neg c]
  refine ⟨by rw [hk]; exact hC.1, fun j p hp => ?_, fun b hb x hx => ?_⟩
  · rw [List.getElem?_set] at hp
    by_cases c : i = j
    · subst c
      rw [if_pos rfl, if_pos (List.getElem?_eq_some_iff.mp hi).1] at hp
      rw [← Option.some.inj hp]
      exact gt_up (hC.2.1 i _ hi)
    · rw [if_neg c] at hp
      exact gt_rd (nd_ne hC.1 (Cw.key (a := p.1) (e := p.2) hp) (Cw.key hi) (fun z => c z.symm)) (hC.2.1 j p hp)
  · rw [hk] at hb
    have h2 := hC.2.2 b hb x hx
    refine gt_rd (fun z => hb ?_) h2
    rw [z]
    exact List.mem_of_getElem? (Cw.key hi)
theorem Cw.cl {h : Nat} (hC : Cw M L W) (hi : L[i]? = some (h, e0)) (hN : ∀ p ∈ N, gt W p.1 = none) (hK : Cw W ((h, e) :: N) W') : Cw M (L.set i (h, e) ++ N) W' := by
  have hk : (L.set i (h, e)).map Prod.fst = L.map Prod.fst := by
    refine List.ext_getElem? (fun j => ?_)
    rw [List.getElem?_map, List.getElem?_map, List.getElem?_set]
    by_cases c : i = j
    · subst c
      have := (List.getElem?_eq_some_iff.mp hi).1
      rw [if_pos rfl, if_pos this, hi]
      rfl
    · rw [if_neg c]
  have hNk : ∀ x ∈ N.map Prod.fst, gt W x = none := fun x hx => by
    obtain ⟨p, p1, rfl⟩ := List.mem_map.mp hx
    exact hN p p1
  have hKn := hK.1
  rw [List.map_cons, List.nodup_cons] at hKn
  have old : ∀ b x, b ≠ h → gt W b = some x → gt W' b = some x := fun b x hb hx => hK.2.2 b (fun z => by
    rw [List.map_cons] at z
    rcases List.mem_cons.mp z with z | z
    · exact hb z
    · have := hNk b z
      rw [hx] at this
      cases this) x hx
  refine ⟨?_, fun j p hp => ?_, fun b hb x hx => ?_⟩
  · rw [List.map_append, hk]
    exact List.nodup_append.mpr ⟨hC.1, hKn.2, fun x hx y hy z => hC.nin (hNk y hy) (z ▸ hx)⟩
  · by_cases c : j < (L.set i (h, e)).length
    · rw [List.getElem?_append_left c, List.getElem?_set] at hp
      by_cases d : i = j
      · subst d
        rw [if_pos rfl, if_pos (List.getElem?_eq_some_iff.mp hi).1] at hp
        rw [← Option.some.inj hp]
        exact hK.2.1 0 _ rfl
      · rw [if_neg d] at hp
        exact old _ _ (nd_ne hC.1 (Cw.key (a := p.1) (e := p.2) hp) (Cw.key hi) (fun z => d z.symm)) (hC.2.1 j p hp)
    · rw [List.getElem?_append_right (by omega)] at hp
      exact hK.2.1 (j - (L.set i (h, e)).length + 1) p (by rw [List.getElem?_cons_succ]; exact hp)
  · rw [List.map_append, hk] at hb
    have h1 : b ∉ L.map Prod.fst := fun z => hb (List.mem_append_left _ z)
    exact old b x (fun z => h1 (by rw [z]; exact List.mem_of_getElem? (Cw.key hi))) (hC.2.2 b h1 x hx)
theorem Cw.in1 {h : Nat} (hh : gt M h = some e) : Cw M [(h, e)] M := ⟨by simp, fun i p hp => by
  match i, hp with
  | 0, hp =>
    have : p = (h, e) := by simpa using hp.symm
    rw [this]
    exact hh
  | j + 1, hp => simp at hp, Fw.rf⟩
end CNW
/-- what a constructor leaves: its object, new cells -/
def Mk (M : Wd) (h : Nat) (e : En) (N : List (Nat × En)) (M' : Wd) : Prop := (∀ p ∈ N, gt M p.1 = none) ∧ Cw M ((h, e) :: N) M'
section KEV
variable {G : GP} {Y : MI} {pc i : Nat} {ls : List (Option Value)} {st : List Value} {M W : Wd} {kr nr N : Nat} {Q : Option Value → Wd → Prop} {L : List (Nat × En)}
theorem Ev.knI {z : Int32} (hd : Dc Y pc (.newarray .int) 2) (hwd : Cond.arrayClass .int ∈ GW) (hz : ¬ z < 0) (hN : z.toNatClampNeg = N) (hb : Nat.ble (N * 4) 536870912 = true) (hC : Cw M L W) (k : ∀ (q : Nat) (W' : Wd), gt M q = none → Cw M (L ++ [(q, ia 0 N (fun _ => 0))]) W' → Ev G Y (pc + 2) ls (.ref q :: st) W' kr nr Q) : Ev G Y pc ls (.int z :: st) W (kr + 1) (nr + N) Q := Ev.newi hd hwd hz hN hb (fun q hq => k q _ (hC.fresh hq) (hC.nw hq))
theorem Ev.knB {z : Int32} (hd : Dc Y pc (.newarray .byte) 2) (hwd : Cond.arrayClass .byte ∈ GW) (hz : ¬ z < 0) (hN : z.toNatClampNeg = N) (hb : Nat.ble (N * 1) 536870912 = true) (hC : Cw M L W) (k : ∀ (q : Nat) (W' : Wd), gt M q = none → Cw M (L ++ [(q, ia 1 N (fun _ => 0))]) W' → Ev G Y (pc + 2) ls (.ref q :: st) W' kr nr Q) : Ev G Y pc ls (.int z :: st) W (kr + 1) (nr + N) Q := Ev.newb hd hwd hz hN hb (fun q hq => k q _ (hC.fresh hq) (hC.nw hq))
theorem Ev.knZ {z : Int32} (hd : Dc Y pc (.newarray .boolean) 2) (hwd : Cond.arrayClass .boolean ∈ GW) (hz : ¬ z < 0) (hN : z.toNatClampNeg = N) (hb : Nat.ble (N * 1) 536870912 = true) (hC : Cw M L W) (k : ∀ (q : Nat) (W' : Wd), gt M q = none → Cw M (L ++ [(q, ia 2 N (fun _ => 0))]) W' → Ev G Y (pc + 2) ls (.ref q :: st) W' kr nr Q) : Ev G Y pc ls (.int z :: st) W (kr + 1) (nr + N) Q := Ev.newz hd hwd hz hN hb (fun q hq => k q _ (hC.fresh hq) (hC.nw hq))
theorem Ev.knO {ci : Nat} {fs : List Value} (hd : Dc Y pc (.new i) 3) (hl : NL Y.1.cls i ci N fs) (hC : Cw M L W) (k : ∀ (q : Nat) (W' : Wd), gt M q = none → Cw M (L ++ [(q, ob ci fs)]) W' → Ev G Y (pc + 3) ls (.ref q :: st) W' kr nr Q) : Ev G Y pc ls st W (kr + 1) (nr + N) Q := Ev.new hd hl (fun q hq => k q _ (hC.fresh hq) (hC.nw hq))
theorem Ev.kpt {a ci kx j : Nat} {fs : List Value} {v : Value} {ft : FieldType} (hd : Dc Y pc (.putfield i) 3) (hf : FL Y.1.cls i ci kx false ft) (hC : Cw M L W) (hj : L[j]? = some (a, ob ci fs)) (hn : narrow ft v = v) (hfit : fits ft v = true) (hlen : Nat.blt kx fs.length = true) (k : ∀ W', Cw M (L.set j (a, ob ci (fs.set kx v))) W' → Ev G Y (pc + 3) ls st W' kr nr Q) : Ev G Y pc ls (v :: .ref a :: st) W kr nr Q := Ev.put hd hf (hC.at j hj) hn hfit hlen (k _ (hC.pt hj))
theorem Ev.kpF {a ci kx j : Nat} {fs : List Value} {v : Value} {ft : FieldType} (hd : Dc Y pc (.putfield i) 3) (hi : Y.1.name = "<init>") (hf : FL Y.1.cls i ci kx true ft) (hC : Cw M L W) (hj : L[j]? = some (a, ob ci fs)) (hn : narrow ft v = v) (hfit : fits ft v = true) (hlen : Nat.blt kx fs.length = true) (k : ∀ W', Cw M (L.set j (a, ob ci (fs.set kx v))) W' → Ev G Y (pc + 3) ls st W' kr nr Q) : Ev G Y pc ls (v :: .ref a :: st) W kr nr Q := Ev.putF hd hi hf (hC.at j hj) hn hfit hlen (k _ (hC.pt hj))
end KEV
section CNI
variable {G : GP} {M : Wd} {h : Nat}
set_option maxRecDepth 20000 in
theorem i_X1 (hh : gt M h = some (ob 1 [.int 0, .int 0, .int 0, .int 0, .int 0, .int 0, .int 0, .int 0])) : CtV G mX1_init [.ref h] M 0 0 (fun M' => Mk M h (bl (0, 0, 0, 0) 0 0 0 0) [] M') := by
  have hC := Cw.in1 hh
  refine Ct.of (ls := [some (.ref h)]) (by decide) (by decide) rfl rfl rfl ?_
  refine Ev.ald0 dX1_init_0 ?_
  refine Ev.objI (hi := 0) dX1_init_1 lX1_3 oi_1 oi_2 rfl rfl ?_
  refine Ev.ald0 dX1_init_4 ?_
  refine Ev.iconst (v := 0) dX1_init_5 (by decide) ?_
  refine Ev.kpt (j := 0) dX1_init_6 fX1_9 hC rfl rfl rfl rfl (fun W hC => ?_)
  replace hC : Cw _ [(h, ob 1 [.int 0, .int 0, .int 0, .int 0, .int 0, .int 0, .int 0, .int 0])] _ := hC
  refine Ev.ald0 dX1_init_9 ?_
  refine Ev.iconst (v := 0) dX1_init_10 (by decide) ?_
  refine Ev.kpt (j := 0) dX1_init_11 fX1_15 hC rfl rfl rfl rfl (fun W hC => ?_)
  replace hC : Cw _ [(h, ob 1 [.int 0, .int 0, .int 0, .int 0, .int 0, .int 0, .int 0, .int 0])] _ := hC
  refine Ev.ald0 dX1_init_14 ?_
  refine Ev.iconst (v := 0) dX1_init_15 (by decide) ?_
  refine Ev.kpt (j := 0) dX1_init_16 fX1_18 hC rfl rfl rfl rfl (fun W hC => ?_)
  replace hC : Cw _ [(h, ob 1 [.int 0, .int 0, .int 0, .int 0, .int 0, .int 0, .int 0, .int 0])] _ := hC
  refine Ev.ald0 dX1_init_19 ?_
  refine Ev.iconst (v := 0) dX1_init_20 (by decide) ?_
  refine Ev.kpt (j := 0) dX1_init_21 fX1_21 hC rfl rfl rfl rfl (fun W hC => ?_)
  replace hC : Cw _ [(h, ob 1 [.int 0, .int 0, .int 0, .int 0, .int 0, .int 0, .int 0, .int 0])] _ := hC
  refine Ev.ald0 dX1_init_24 ?_
  refine Ev.iconst (v := 0) dX1_init_25 (by decide) ?_
  refine Ev.kpt (j := 0) dX1_init_26 fX1_24 hC rfl rfl rfl rfl (fun W hC => ?_)
  replace hC : Cw _ [(h, ob 1 [.int 0, .int 0, .int 0, .int 0, .int 0, .int 0, .int 0, .int 0])] _ := hC
  refine Ev.ald0 dX1_init_29 ?_
  refine Ev.iconst (v := 0) dX1_init_30 (by decide) ?_
  refine Ev.kpt (j := 0) dX1_init_31 fX1_27 hC rfl rfl rfl rfl (fun W hC => ?_)
  replace hC : Cw _ [(h, ob 1 [.int 0, .int 0, .int 0, .int 0, .int 0, .int 0, .int 0, .int 0])] _ := hC
  refine Ev.ald0 dX1_init_34 ?_
  refine Ev.iconst (v := 0) dX1_init_35 (by decide) ?_
  refine Ev.kpt (j := 0) dX1_init_36 fX1_30 hC rfl rfl rfl rfl (fun W hC => ?_)
  replace hC : Cw _ [(h, ob 1 [.int 0, .int 0, .int 0, .int 0, .int 0, .int 0, .int 0, .int 0])] _ := hC
  refine Ev.ald0 dX1_init_39 ?_
  refine Ev.iconst (v := 0) dX1_init_40 (by decide) ?_
  refine Ev.kpt (j := 0) dX1_init_41 fX1_33 hC rfl rfl rfl rfl (fun W hC => ?_)
  replace hC : Cw _ [(h, ob 1 [.int 0, .int 0, .int 0, .int 0, .int 0, .int 0, .int 0, .int 0])] _ := hC
  refine Ev.vret dX1_init_44 rfl ?_
  exact ⟨rfl, fun p hp => (by cases hp), hC⟩
set_option maxRecDepth 20000 in
theorem i_X3 (hh : gt M h = some (ob 3 [.int 0, .int 0, .int 0, .int 0, .int 0, .int 0, .int 0, .int 0, .int 0, .int 0, .int 0, .int 0, .int 0, .int 0])) : CtV G mX3_init [.ref h] M 0 0 (fun M' => Mk M h (cc (fun i => if i = 0 then -1 else 0)) [] M') := by
  have hC := Cw.in1 hh
  refine Ct.of (ls := [some (.ref h)]) (by decide) (by decide) rfl rfl rfl ?_
  refine Ev.ald0 dX3_init_0 ?_
  refine Ev.objI (hi := 0) dX3_init_1 lX3_3 oi_1 oi_2 rfl rfl ?_
  refine Ev.ald0 dX3_init_4 ?_
  refine Ev.iconst (v := -1) dX3_init_5 (by decide) ?_
  refine Ev.kpt (j := 0) dX3_init_6 fX3_9 hC rfl rfl rfl rfl (fun W hC => ?_)
  replace hC : Cw _ [(h, ob 3 [.int (-1), .int 0, .int 0, .int 0, .int 0, .int 0, .int 0, .int 0, .int 0, .int 0, .int 0, .int 0, .int 0, .int 0])] _ := hC
  refine Ev.ald0 dX3_init_9 ?_
  refine Ev.iconst (v := 0) dX3_init_10 (by decide) ?_
  refine Ev.kpt (j := 0) dX3_init_11 fX3_15 hC rfl rfl rfl rfl (fun W hC => ?_)
  replace hC : Cw _ [(h, ob 3 [.int (-1), .int 0, .int 0, .int 0, .int 0, .int 0, .int 0, .int 0, .int 0, .int 0, .int 0, .int 0, .int 0, .int 0])] _ := hC
  refine Ev.ald0 dX3_init_14 ?_
  refine Ev.iconst (v := 0) dX3_init_15 (by decide) ?_
  refine Ev.kpt (j := 0) dX3_init_16 fX3_18 hC rfl rfl rfl rfl (fun W hC => ?_)
  replace hC : Cw _ [(h, ob 3 [.int (-1), .int 0, .int 0, .int 0, .int 0, .int 0, .int 0, .int 0, .int 0, .int 0, .int 0, .int 0, .int 0, .int 0])] _ := hC
  refine Ev.ald0 dX3_init_19 ?_
  refine Ev.iconst (v := 0) dX3_init_20 (by decide) ?_
  refine Ev.kpt (j := 0) dX3_init_21 fX3_21 hC rfl rfl rfl rfl (fun W hC => ?_)
  replace hC : Cw _ [(h, ob 3 [.int (-1), .int 0, .int 0, .int 0, .int 0, .int 0, .int 0, .int 0, .int 0, .int 0, .int 0, .int 0, .int 0, .int 0])] _ := hC
  refine Ev.ald0 dX3_init_24 ?_
  refine Ev.iconst (v := 0) dX3_init_25 (by decide) ?_
  refine Ev.kpt (j := 0) dX3_init_26 fX3_24 hC rfl rfl rfl rfl (fun W hC => ?_)
  replace hC : Cw _ [(h, ob 3 [.int (-1), .int 0, .int 0, .int 0, .int 0, .int 0, .int 0, .int 0, .int 0, .int 0, .int 0, .int 0, .int 0, .int 0])] _ := hC
  refine Ev.ald0 dX3_init_29 ?_
  refine Ev.iconst (v := 0) dX3_init_30 (by decide) ?_
  refine Ev.kpt (j := 0) dX3_init_31 fX3_27 hC rfl rfl rfl rfl (fun W hC => ?_)
  replace hC : Cw _ [(h, ob 3 [.int (-1), .int 0, .int 0, .int 0, .int 0, .int 0, .int 0, .int 0, .int 0, .int 0, .int 0, .int 0, .int 0, .int 0])] _ := hC
  refine Ev.ald0 dX3_init_34 ?_
  refine Ev.iconst (v := 0) dX3_init_35 (by decide) ?_
  refine Ev.kpt (j := 0) dX3_init_36 fX3_30 hC rfl rfl rfl rfl (fun W hC => ?_)
  replace hC : Cw _ [(h, ob 3 [.int (-1), .int 0, .int 0, .int 0, .int 0, .int 0, .int 0, .int 0, .int 0, .int 0, .int 0, .int 0, .int 0, .int 0])] _ := hC
  refine Ev.ald0 dX3_init_39 ?_
  refine Ev.iconst (v := 0) dX3_init_40 (by decide) ?_
  refine Ev.kpt (j := 0) dX3_init_41 fX3_33 hC rfl rfl rfl rfl (fun W hC => ?_)
  replace hC : Cw _ [(h, ob 3 [.int (-1), .int 0, .int 0, .int 0, .int 0, .int 0, .int 0, .int 0, .int 0, .int 0, .int 0, .int 0, .int 0, .int 0])] _ := hC
  refine Ev.ald0 dX3_init_44 ?_
  refine Ev.iconst (v := 0) dX3_init_45 (by decide) ?_
  refine Ev.kpt (j := 0) dX3_init_46 fX3_36 hC rfl rfl rfl rfl (fun W hC => ?_)
  replace hC : Cw _ [(h, ob 3 [.int (-1), .int 0, .int 0, .int 0, .int 0, .int 0, .int 0, .int 0, .int 0, .int 0, .int 0, .int 0, .int 0, .int 0])] _ := hC
  refine Ev.ald0 dX3_init_49 ?_
  refine Ev.iconst (v := 0) dX3_init_50 (by decide) ?_
  refine Ev.kpt (j := 0) dX3_init_51 fX3_39 hC rfl rfl rfl rfl (fun W hC => ?_)
  replace hC : Cw _ [(h, ob 3 [.int (-1), .int 0, .int 0, .int 0, .int 0, .int 0, .int 0, .int 0, .int 0, .int 0, .int 0, .int 0, .int 0, .int 0])] _ := hC
  refine Ev.ald0 dX3_init_54 ?_
  refine Ev.iconst (v := 0) dX3_init_55 (by decide) ?_
  refine Ev.kpt (j := 0) dX3_init_56 fX3_42 hC rfl rfl rfl rfl (fun W hC => ?_)
  replace hC : Cw _ [(h, ob 3 [.int (-1), .int 0, .int 0, .int 0, .int 0, .int 0, .int 0, .int 0, .int 0, .int 0, .int 0, .int 0, .int 0, .int 0])] _ := hC
  refine Ev.ald0 dX3_init_59 ?_
  refine Ev.iconst (v := 0) dX3_init_60 (by decide) ?_
  refine Ev.kpt (j := 0) dX3_init_61 fX3_45 hC rfl rfl rfl rfl (fun W hC => ?_)
  replace hC : Cw _ [(h, ob 3 [.int (-1), .int 0, .int 0, .int 0, .int 0, .int 0, .int 0, .int 0, .int 0, .int 0, .int 0, .int 0, .int 0, .int 0])] _ := hC
  refine Ev.ald0 dX3_init_64 ?_
  refine Ev.iconst (v := 0) dX3_init_65 (by decide) ?_
  refine Ev.kpt (j := 0) dX3_init_66 fX3_48 hC rfl rfl rfl rfl (fun W hC => ?_)
  replace hC : Cw _ [(h, ob 3 [.int (-1), .int 0, .int 0, .int 0, .int 0, .int 0, .int 0, .int 0, .int 0, .int 0, .int 0, .int 0, .int 0, .int 0])] _ := hC
  refine Ev.ald0 dX3_init_69 ?_
  refine Ev.iconst (v := 0) dX3_init_70 (by decide) ?_
  refine Ev.kpt (j := 0) dX3_init_71 fX3_52 hC rfl rfl rfl rfl (fun W hC => ?_)
  replace hC : Cw _ [(h, ob 3 [.int (-1), .int 0, .int 0, .int 0, .int 0, .int 0, .int 0, .int 0, .int 0, .int 0, .int 0, .int 0, .int 0, .int 0])] _ := hC
  refine Ev.vret dX3_init_74 rfl ?_
  exact ⟨rfl, fun p hp => (by cases hp), hC⟩
set_option maxRecDepth 20000 in
theorem i_X2 (hh : gt M h = some (ob 2 [.null, .null, .int 0, .int 0, .int 0, .int 0, .int 0])) : CtV G mX2_init [.ref h] M 2 648 (fun M' => ∃ r w, Mk M h (bk r w 0 0 100 1 999) [(r, ia 0 328 (fun _ => 0)), (w, ia 0 320 (fun _ => 0))] M') := by
  have hC := Cw.in1 hh
  refine Ct.of (ls := [some (.ref h)]) (by decide) (by decide) rfl rfl rfl ?_
  refine Ev.ald0 dX2_init_0 ?_
  refine Ev.objI (hi := 0) dX2_init_1 lX2_3 oi_1 oi_2 rfl rfl ?_
  refine Ev.ald0 dX2_init_4 ?_
  refine Ev.sipush (v := 328) dX2_init_5 (by decide) ?_
  refine Ev.knI (N := 328) dX2_init_8 ac_int (by decide) (by decide) rfl hC (fun q8 W hq8 hC => ?_)
  replace hC : Cw _ [(h, ob 2 [.null, .null, .int 0, .int 0, .int 0, .int 0, .int 0]), (q8, ia 0 328 (fun _ => 0))] _ := hC
  refine Ev.kpF (j := 0) dX2_init_10 rfl fX2_9 hC rfl rfl rfl rfl (fun W hC => ?_)
  replace hC : Cw _ [(h, ob 2 [.ref q8, .null, .int 0, .int 0, .int 0, .int 0, .int 0]), (q8, ia 0 328 (fun _ => 0))] _ := hC
  refine Ev.ald0 dX2_init_13 ?_
  refine Ev.sipush (v := 320) dX2_init_14 (by decide) ?_
  refine Ev.knI (N := 320) dX2_init_17 ac_int (by decide) (by decide) rfl hC (fun q17 W hq17 hC => ?_)
  replace hC : Cw _ [(h, ob 2 [.ref q8, .null, .int 0, .int 0, .int 0, .int 0, .int 0]), (q8, ia 0 328 (fun _ => 0)), (q17, ia 0 320 (fun _ => 0))] _ := hC
  refine Ev.kpF (j := 0) dX2_init_19 rfl fX2_15 hC rfl rfl rfl rfl (fun W hC => ?_)
  replace hC : Cw _ [(h, ob 2 [.ref q8, .ref q17, .int 0, .int 0, .int 0, .int 0, .int 0]), (q8, ia 0 328 (fun _ => 0)), (q17, ia 0 320 (fun _ => 0))] _ := hC
  refine Ev.ald0 dX2_init_22 ?_
  refine Ev.iconst (v := 0) dX2_init_23 (by decide) ?_
  refine Ev.kpt (j := 0) dX2_init_24 fX2_18 hC rfl rfl rfl rfl (fun W hC => ?_)
  replace hC : Cw _ [(h, ob 2 [.ref q8, .ref q17, .int 0, .int 0, .int 0, .int 0, .int 0]), (q8, ia 0 328 (fun _ => 0)), (q17, ia 0 320 (fun _ => 0))] _ := hC
  refine Ev.ald0 dX2_init_27 ?_
  refine Ev.iconst (v := 0) dX2_init_28 (by decide) ?_
  refine Ev.kpt (j := 0) dX2_init_29 fX2_22 hC rfl rfl rfl rfl (fun W hC => ?_)
  replace hC : Cw _ [(h, ob 2 [.ref q8, .ref q17, .int 0, .int 0, .int 0, .int 0, .int 0]), (q8, ia 0 328 (fun _ => 0)), (q17, ia 0 320 (fun _ => 0))] _ := hC
  refine Ev.ald0 dX2_init_32 ?_
  refine Ev.bipush (v := 100) dX2_init_33 (by decide) ?_
  refine Ev.kpt (j := 0) dX2_init_35 fX2_25 hC rfl rfl rfl rfl (fun W hC => ?_)
  replace hC : Cw _ [(h, ob 2 [.ref q8, .ref q17, .int 0, .int 0, .int 100, .int 0, .int 0]), (q8, ia 0 328 (fun _ => 0)), (q17, ia 0 320 (fun _ => 0))] _ := hC
  refine Ev.ald0 dX2_init_38 ?_
  refine Ev.iconst (v := 1) dX2_init_39 (by decide) ?_
  refine Ev.kpt (j := 0) dX2_init_40 fX2_28 hC rfl rfl rfl rfl (fun W hC => ?_)
  replace hC : Cw _ [(h, ob 2 [.ref q8, .ref q17, .int 0, .int 0, .int 100, .int 1, .int 0]), (q8, ia 0 328 (fun _ => 0)), (q17, ia 0 320 (fun _ => 0))] _ := hC
  refine Ev.ald0 dX2_init_43 ?_
  refine Ev.sipush (v := 999) dX2_init_44 (by decide) ?_
  refine Ev.kpt (j := 0) dX2_init_47 fX2_31 hC rfl rfl rfl rfl (fun W hC => ?_)
  replace hC : Cw _ [(h, ob 2 [.ref q8, .ref q17, .int 0, .int 0, .int 100, .int 1, .int 999]), (q8, ia 0 328 (fun _ => 0)), (q17, ia 0 320 (fun _ => 0))] _ := hC
  refine Ev.vret dX2_init_50 rfl ?_
  refine ⟨rfl, q8, q17, fun p hp => ?_, hC⟩
  simp only [List.mem_cons, List.not_mem_nil, or_false] at hp
  rcases hp with rfl | rfl
  · exact hq8
  · exact hq17
set_option maxRecDepth 20000 in
theorem i_X4 (hh : gt M h = some (ob 4 [.int 0, .null, .int 0, .int 0, .int 0, .int 0, .int 0, .int 0, .int 0, .int 0])) : CtV G mX4_init [.ref h] M 1 800 (fun M' => ∃ b, Mk M h (tpo b 0 (fun _ => 0)) [(b, ia 1 800 (fun _ => 0))] M') := by
  have hC := Cw.in1 hh
  refine Ct.of (ls := [some (.ref h)]) (by decide) (by decide) rfl rfl rfl ?_
  refine Ev.ald0 dX4_init_0 ?_
  refine Ev.objI (hi := 0) dX4_init_1 lX4_3 oi_1 oi_2 rfl rfl ?_
  refine Ev.ald0 dX4_init_4 ?_
  refine Ev.iconst (v := 0) dX4_init_5 (by decide) ?_
  refine Ev.kpt (j := 0) dX4_init_6 fX4_9 hC rfl rfl rfl rfl (fun W hC => ?_)
  replace hC : Cw _ [(h, ob 4 [.int 0, .null, .int 0, .int 0, .int 0, .int 0, .int 0, .int 0, .int 0, .int 0])] _ := hC
  refine Ev.ald0 dX4_init_9 ?_
  refine Ev.sipush (v := 800) dX4_init_10 (by decide) ?_
  refine Ev.knB (N := 800) dX4_init_13 ac_byte (by decide) (by decide) rfl hC (fun q13 W hq13 hC => ?_)
  replace hC : Cw _ [(h, ob 4 [.int 0, .null, .int 0, .int 0, .int 0, .int 0, .int 0, .int 0, .int 0, .int 0]), (q13, ia 1 800 (fun _ => 0))] _ := hC
  refine Ev.kpF (j := 0) dX4_init_15 rfl fX4_15 hC rfl rfl rfl rfl (fun W hC => ?_)
  replace hC : Cw _ [(h, ob 4 [.int 0, .ref q13, .int 0, .int 0, .int 0, .int 0, .int 0, .int 0, .int 0, .int 0]), (q13, ia 1 800 (fun _ => 0))] _ := hC
  refine Ev.ald0 dX4_init_18 ?_
  refine Ev.iconst (v := 0) dX4_init_19 (by decide) ?_
  refine Ev.kpt (j := 0) dX4_init_20 fX4_19 hC rfl rfl rfl rfl (fun W hC => ?_)
  replace hC : Cw _ [(h, ob 4 [.int 0, .ref q13, .int 0, .int 0, .int 0, .int 0, .int 0, .int 0, .int 0, .int 0]), (q13, ia 1 800 (fun _ => 0))] _ := hC
  refine Ev.ald0 dX4_init_23 ?_
  refine Ev.iconst (v := 0) dX4_init_24 (by decide) ?_
  refine Ev.kpt (j := 0) dX4_init_25 fX4_22 hC rfl rfl rfl rfl (fun W hC => ?_)
  replace hC : Cw _ [(h, ob 4 [.int 0, .ref q13, .int 0, .int 0, .int 0, .int 0, .int 0, .int 0, .int 0, .int 0]), (q13, ia 1 800 (fun _ => 0))] _ := hC
  refine Ev.ald0 dX4_init_28 ?_
  refine Ev.iconst (v := 0) dX4_init_29 (by decide) ?_
  refine Ev.kpt (j := 0) dX4_init_30 fX4_25 hC rfl rfl rfl rfl (fun W hC => ?_)
  replace hC : Cw _ [(h, ob 4 [.int 0, .ref q13, .int 0, .int 0, .int 0, .int 0, .int 0, .int 0, .int 0, .int 0]), (q13, ia 1 800 (fun _ => 0))] _ := hC
  refine Ev.ald0 dX4_init_33 ?_
  refine Ev.iconst (v := 0) dX4_init_34 (by decide) ?_
  refine Ev.kpt (j := 0) dX4_init_35 fX4_28 hC rfl rfl rfl rfl (fun W hC => ?_)
  replace hC : Cw _ [(h, ob 4 [.int 0, .ref q13, .int 0, .int 0, .int 0, .int 0, .int 0, .int 0, .int 0, .int 0]), (q13, ia 1 800 (fun _ => 0))] _ := hC
  refine Ev.ald0 dX4_init_38 ?_
  refine Ev.iconst (v := 0) dX4_init_39 (by decide) ?_
  refine Ev.kpt (j := 0) dX4_init_40 fX4_31 hC rfl rfl rfl rfl (fun W hC => ?_)
  replace hC : Cw _ [(h, ob 4 [.int 0, .ref q13, .int 0, .int 0, .int 0, .int 0, .int 0, .int 0, .int 0, .int 0]), (q13, ia 1 800 (fun _ => 0))] _ := hC
  refine Ev.ald0 dX4_init_43 ?_
  refine Ev.iconst (v := 0) dX4_init_44 (by decide) ?_
  refine Ev.kpt (j := 0) dX4_init_45 fX4_34 hC rfl rfl rfl rfl (fun W hC => ?_)
  replace hC : Cw _ [(h, ob 4 [.int 0, .ref q13, .int 0, .int 0, .int 0, .int 0, .int 0, .int 0, .int 0, .int 0]), (q13, ia 1 800 (fun _ => 0))] _ := hC
  refine Ev.ald0 dX4_init_48 ?_
  refine Ev.iconst (v := 0) dX4_init_49 (by decide) ?_
  refine Ev.kpt (j := 0) dX4_init_50 fX4_37 hC rfl rfl rfl rfl (fun W hC => ?_)
  replace hC : Cw _ [(h, ob 4 [.int 0, .ref q13, .int 0, .int 0, .int 0, .int 0, .int 0, .int 0, .int 0, .int 0]), (q13, ia 1 800 (fun _ => 0))] _ := hC
  refine Ev.ald0 dX4_init_53 ?_
  refine Ev.iconst (v := 0) dX4_init_54 (by decide) ?_
  refine Ev.kpt (j := 0) dX4_init_55 fX4_41 hC rfl rfl rfl rfl (fun W hC => ?_)
  replace hC : Cw _ [(h, ob 4 [.int 0, .ref q13, .int 0, .int 0, .int 0, .int 0, .int 0, .int 0, .int 0, .int 0]), (q13, ia 1 800 (fun _ => 0))] _ := hC
  refine Ev.vret dX4_init_58 rfl ?_
  refine ⟨rfl, q13, fun p hp => ?_, hC⟩
  simp only [List.mem_cons, List.not_mem_nil, or_false] at hp
  rw [hp]
  exact hq13
end CNI
