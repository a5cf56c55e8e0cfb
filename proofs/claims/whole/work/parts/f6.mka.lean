/-! the auction is made -/
section MKA
variable {G : GP} {M : Wd} {h : Nat}
theorem Cw.old {M W : Wd} {L : List (Nat × En)} {e x : En} {h b : Nat} (hC : Cw M ((h, e) :: L) W) (hN : ∀ p ∈ L, gt M p.1 = none) (hb : gt M b = some x) (hne : b ≠ h) : gt W b = some x := by
  refine hC.2.2 b (fun z => ?_) x hb
  rw [List.map_cons] at z
  rcases List.mem_cons.mp z with z | z
  · exact hne z
  · obtain ⟨p, p1, p2⟩ := List.mem_map.mp z
    have := hN p p1
    rw [p2, hb] at this
    cases this
set_option maxRecDepth 40000 in
theorem i_X0 {b r w : Nat} {n : Nat} {ph rf lo hi : Int32} (hh : gt M h = some (ob 0 [.null, .null, .null, .int 0, .int 0, .int 0, .null, .null, .null, .null, .null, .null, .int 0, .null, .null])) (hb : gt M b = some (bk r w n ph rf lo hi)) (hne : b ≠ h) : CtV G mX0_init [.ref h, .ref b] M 13 725 (fun M' => ∃ q5 q16 q29 q53 q61 sl s0 s1 pt p0 p1 q90 q98, Mk M h (ob 0 [.ref q5, .ref q16, .ref q29, .int 0, .int 0, .int 0, .ref q53, .ref q61, .ref sl, .ref pt, .ref q90, .ref q98, .int 0, .ref b, .ref r]) [(q5, bl (0, 0, 0, 0) 0 0 0 0), (q16, cc (fun i => if i = 0 then -1 else 0)), (q29, ia 0 41 (fun _ => 0)), (q53, ia 0 246 (fun _ => 0)), (q61, ia 0 41 (fun _ => 0)), (sl, ra 4 2 (rw2 s0 s1)), (s0, ia 0 82 (fun _ => 0)), (s1, ia 0 82 (fun _ => 0)), (pt, ra 4 2 (rw2 p0 p1)), (p0, ia 0 82 (fun _ => 0)), (p1, ia 0 82 (fun _ => 0)), (q90, ia 0 2 (fun _ => 0)), (q98, ia 0 41 (fun _ => 0))] M') := by
  have hC := Cw.in1 hh
  refine Ct.of (ls := [some (.ref h), some (.ref b)]) (by decide) (by decide) rfl rfl rfl ?_
  refine Ev.ald0 dX0_init_0 ?_
  refine Ev.objI (hi := 0) dX0_init_1 lX0_5 oi_1 oi_2 rfl rfl ?_
  refine Ev.ald0 dX0_init_4 ?_
  refine Ev.knO dX0_init_5 nX0_11 hC (fun q5 W hq5 hC => ?_)
  replace hC : Cw _ [(h, ob 0 [.null, .null, .null, .int 0, .int 0, .int 0, .null, .null, .null, .null, .null, .null, .int 0, .null, .null]), (q5, ob 1 [.int 0, .int 0, .int 0, .int 0, .int 0, .int 0, .int 0, .int 0])] _ := hC
  refine Ev.dup dX0_init_8 rfl ?_
  refine Ev.cnN (Yc := mX1_init) (n := 0) dX0_init_9 lX0_13 vX1_init rfl rfl (i_X1 (G := G) (hC.at 1 rfl)) rfl rfl rfl (by omega) (by omega) ?_
  rintro u9 W9 ⟨rfl, hN9, hK9⟩
  replace hC := hC.cl (i := 1) rfl hN9 hK9
  clear hN9 hK9
  replace hC : Cw _ [(h, ob 0 [.null, .null, .null, .int 0, .int 0, .int 0, .null, .null, .null, .null, .null, .null, .int 0, .null, .null]), (q5, bl (0, 0, 0, 0) 0 0 0 0)] _ := hC
  refine Ev.kpF (j := 0) dX0_init_12 rfl fX0_14 hC rfl rfl rfl rfl (fun W hC => ?_)
  replace hC : Cw _ [(h, ob 0 [.ref q5, .null, .null, .int 0, .int 0, .int 0, .null, .null, .null, .null, .null, .null, .int 0, .null, .null]), (q5, bl (0, 0, 0, 0) 0 0 0 0)] _ := hC
  refine Ev.ald0 dX0_init_15 ?_
  refine Ev.knO dX0_init_16 nX0_18 hC (fun q16 W hq16 hC => ?_)
  replace hC : Cw _ [(h, ob 0 [.ref q5, .null, .null, .int 0, .int 0, .int 0, .null, .null, .null, .null, .null, .null, .int 0, .null, .null]), (q5, bl (0, 0, 0, 0) 0 0 0 0), (q16, ob 3 [.int 0, .int 0, .int 0, .int 0, .int 0, .int 0, .int 0, .int 0, .int 0, .int 0, .int 0, .int 0, .int 0, .int 0])] _ := hC
  refine Ev.dup dX0_init_19 rfl ?_
  refine Ev.cnN (Yc := mX3_init) (n := 0) dX0_init_20 lX0_20 vX3_init rfl rfl (i_X3 (G := G) (hC.at 2 rfl)) rfl rfl rfl (by omega) (by omega) ?_
  rintro u9 W9 ⟨rfl, hN9, hK9⟩
  replace hC := hC.cl (i := 2) rfl hN9 hK9
  clear hN9 hK9
  replace hC : Cw _ [(h, ob 0 [.ref q5, .null, .null, .int 0, .int 0, .int 0, .null, .null, .null, .null, .null, .null, .int 0, .null, .null]), (q5, bl (0, 0, 0, 0) 0 0 0 0), (q16, cc (fun i => if i = 0 then -1 else 0))] _ := hC
  refine Ev.kpF (j := 0) dX0_init_23 rfl fX0_21 hC rfl rfl rfl rfl (fun W hC => ?_)
  replace hC : Cw _ [(h, ob 0 [.ref q5, .ref q16, .null, .int 0, .int 0, .int 0, .null, .null, .null, .null, .null, .null, .int 0, .null, .null]), (q5, bl (0, 0, 0, 0) 0 0 0 0), (q16, cc (fun i => if i = 0 then -1 else 0))] _ := hC
  refine Ev.ald0 dX0_init_26 ?_
  refine Ev.bipush (v := 41) dX0_init_27 (by decide) ?_
  refine Ev.knI (N := 41) dX0_init_29 ac_int (by decide) (by decide) rfl hC (fun q29 W hq29 hC => ?_)
  replace hC : Cw _ [(h, ob 0 [.ref q5, .ref q16, .null, .int 0, .int 0, .int 0, .null, .null, .null, .null, .null, .null, .int 0, .null, .null]), (q5, bl (0, 0, 0, 0) 0 0 0 0), (q16, cc (fun i => if i = 0 then -1 else 0)), (q29, ia 0 41 (fun _ => 0))] _ := hC
  refine Ev.kpF (j := 0) dX0_init_31 rfl fX0_25 hC rfl rfl rfl rfl (fun W hC => ?_)
  replace hC : Cw _ [(h, ob 0 [.ref q5, .ref q16, .ref q29, .int 0, .int 0, .int 0, .null, .null, .null, .null, .null, .null, .int 0, .null, .null]), (q5, bl (0, 0, 0, 0) 0 0 0 0), (q16, cc (fun i => if i = 0 then -1 else 0)), (q29, ia 0 41 (fun _ => 0))] _ := hC
  refine Ev.ald0 dX0_init_34 ?_
  refine Ev.iconst (v := 0) dX0_init_35 (by decide) ?_
  refine Ev.kpt (j := 0) dX0_init_36 fX0_29 hC rfl rfl rfl rfl (fun W hC => ?_)
  replace hC : Cw _ [(h, ob 0 [.ref q5, .ref q16, .ref q29, .int 0, .int 0, .int 0, .null, .null, .null, .null, .null, .null, .int 0, .null, .null]), (q5, bl (0, 0, 0, 0) 0 0 0 0), (q16, cc (fun i => if i = 0 then -1 else 0)), (q29, ia 0 41 (fun _ => 0))] _ := hC
  refine Ev.ald0 dX0_init_39 ?_
  refine Ev.iconst (v := 0) dX0_init_40 (by decide) ?_
  refine Ev.kpt (j := 0) dX0_init_41 fX0_33 hC rfl rfl rfl rfl (fun W hC => ?_)
  replace hC : Cw _ [(h, ob 0 [.ref q5, .ref q16, .ref q29, .int 0, .int 0, .int 0, .null, .null, .null, .null, .null, .null, .int 0, .null, .null]), (q5, bl (0, 0, 0, 0) 0 0 0 0), (q16, cc (fun i => if i = 0 then -1 else 0)), (q29, ia 0 41 (fun _ => 0))] _ := hC
  refine Ev.ald0 dX0_init_44 ?_
  refine Ev.iconst (v := 0) dX0_init_45 (by decide) ?_
  refine Ev.kpt (j := 0) dX0_init_46 fX0_36 hC rfl rfl rfl rfl (fun W hC => ?_)
  replace hC : Cw _ [(h, ob 0 [.ref q5, .ref q16, .ref q29, .int 0, .int 0, .int 0, .null, .null, .null, .null, .null, .null, .int 0, .null, .null]), (q5, bl (0, 0, 0, 0) 0 0 0 0), (q16, cc (fun i => if i = 0 then -1 else 0)), (q29, ia 0 41 (fun _ => 0))] _ := hC
  refine Ev.ald0 dX0_init_49 ?_
  refine Ev.sipush (v := 246) dX0_init_50 (by decide) ?_
  refine Ev.knI (N := 246) dX0_init_53 ac_int (by decide) (by decide) rfl hC (fun q53 W hq53 hC => ?_)
  replace hC : Cw _ [(h, ob 0 [.ref q5, .ref q16, .ref q29, .int 0, .int 0, .int 0, .null, .null, .null, .null, .null, .null, .int 0, .null, .null]), (q5, bl (0, 0, 0, 0) 0 0 0 0), (q16, cc (fun i => if i = 0 then -1 else 0)), (q29, ia 0 41 (fun _ => 0)), (q53, ia 0 246 (fun _ => 0))] _ := hC
  refine Ev.kpF (j := 0) dX0_init_55 rfl fX0_39 hC rfl rfl rfl rfl (fun W hC => ?_)
  replace hC : Cw _ [(h, ob 0 [.ref q5, .ref q16, .ref q29, .int 0, .int 0, .int 0, .ref q53, .null, .null, .null, .null, .null, .int 0, .null, .null]), (q5, bl (0, 0, 0, 0) 0 0 0 0), (q16, cc (fun i => if i = 0 then -1 else 0)), (q29, ia 0 41 (fun _ => 0)), (q53, ia 0 246 (fun _ => 0))] _ := hC
  refine Ev.ald0 dX0_init_58 ?_
  refine Ev.bipush (v := 41) dX0_init_59 (by decide) ?_
  refine Ev.knI (N := 41) dX0_init_61 ac_int (by decide) (by decide) rfl hC (fun q61 W hq61 hC => ?_)
  replace hC : Cw _ [(h, ob 0 [.ref q5, .ref q16, .ref q29, .int 0, .int 0, .int 0, .ref q53, .null, .null, .null, .null, .null, .int 0, .null, .null]), (q5, bl (0, 0, 0, 0) 0 0 0 0), (q16, cc (fun i => if i = 0 then -1 else 0)), (q29, ia 0 41 (fun _ => 0)), (q53, ia 0 246 (fun _ => 0)), (q61, ia 0 41 (fun _ => 0))] _ := hC
  refine Ev.kpF (j := 0) dX0_init_63 rfl fX0_42 hC rfl rfl rfl rfl (fun W hC => ?_)
  replace hC : Cw _ [(h, ob 0 [.ref q5, .ref q16, .ref q29, .int 0, .int 0, .int 0, .ref q53, .ref q61, .null, .null, .null, .null, .int 0, .null, .null]), (q5, bl (0, 0, 0, 0) 0 0 0 0), (q16, cc (fun i => if i = 0 then -1 else 0)), (q29, ia 0 41 (fun _ => 0)), (q53, ia 0 246 (fun _ => 0)), (q61, ia 0 41 (fun _ => 0))] _ := hC
  refine Ev.ald0 dX0_init_66 ?_
  refine Ev.iconst (v := 2) dX0_init_67 (by decide) ?_
  refine Ev.bipush (v := 82) dX0_init_68 (by decide) ?_
  refine Ev.knM dX0_init_70 nX0_45M hC (fun sl s0 s1 W hsl hs0 hs1 hC => ?_)
  replace hC : Cw _ [(h, ob 0 [.ref q5, .ref q16, .ref q29, .int 0, .int 0, .int 0, .ref q53, .ref q61, .null, .null, .null, .null, .int 0, .null, .null]), (q5, bl (0, 0, 0, 0) 0 0 0 0), (q16, cc (fun i => if i = 0 then -1 else 0)), (q29, ia 0 41 (fun _ => 0)), (q53, ia 0 246 (fun _ => 0)), (q61, ia 0 41 (fun _ => 0)), (sl, ra 4 2 (rw2 s0 s1)), (s0, ia 0 82 (fun _ => 0)), (s1, ia 0 82 (fun _ => 0))] _ := hC
  refine Ev.kpF (j := 0) dX0_init_74 rfl fX0_47 hC rfl rfl rfl rfl (fun W hC => ?_)
  replace hC : Cw _ [(h, ob 0 [.ref q5, .ref q16, .ref q29, .int 0, .int 0, .int 0, .ref q53, .ref q61, .ref sl, .null, .null, .null, .int 0, .null, .null]), (q5, bl (0, 0, 0, 0) 0 0 0 0), (q16, cc (fun i => if i = 0 then -1 else 0)), (q29, ia 0 41 (fun _ => 0)), (q53, ia 0 246 (fun _ => 0)), (q61, ia 0 41 (fun _ => 0)), (sl, ra 4 2 (rw2 s0 s1)), (s0, ia 0 82 (fun _ => 0)), (s1, ia 0 82 (fun _ => 0))] _ := hC
  refine Ev.ald0 dX0_init_77 ?_
  refine Ev.iconst (v := 2) dX0_init_78 (by decide) ?_
  refine Ev.bipush (v := 82) dX0_init_79 (by decide) ?_
  refine Ev.knM dX0_init_81 nX0_45M hC (fun pt p0 p1 W hpt hp0 hp1 hC => ?_)
  replace hC : Cw _ [(h, ob 0 [.ref q5, .ref q16, .ref q29, .int 0, .int 0, .int 0, .ref q53, .ref q61, .ref sl, .null, .null, .null, .int 0, .null, .null]), (q5, bl (0, 0, 0, 0) 0 0 0 0), (q16, cc (fun i => if i = 0 then -1 else 0)), (q29, ia 0 41 (fun _ => 0)), (q53, ia 0 246 (fun _ => 0)), (q61, ia 0 41 (fun _ => 0)), (sl, ra 4 2 (rw2 s0 s1)), (s0, ia 0 82 (fun _ => 0)), (s1, ia 0 82 (fun _ => 0)), (pt, ra 4 2 (rw2 p0 p1)), (p0, ia 0 82 (fun _ => 0)), (p1, ia 0 82 (fun _ => 0))] _ := hC
  refine Ev.kpF (j := 0) dX0_init_85 rfl fX0_50 hC rfl rfl rfl rfl (fun W hC => ?_)
  replace hC : Cw _ [(h, ob 0 [.ref q5, .ref q16, .ref q29, .int 0, .int 0, .int 0, .ref q53, .ref q61, .ref sl, .ref pt, .null, .null, .int 0, .null, .null]), (q5, bl (0, 0, 0, 0) 0 0 0 0), (q16, cc (fun i => if i = 0 then -1 else 0)), (q29, ia 0 41 (fun _ => 0)), (q53, ia 0 246 (fun _ => 0)), (q61, ia 0 41 (fun _ => 0)), (sl, ra 4 2 (rw2 s0 s1)), (s0, ia 0 82 (fun _ => 0)), (s1, ia 0 82 (fun _ => 0)), (pt, ra 4 2 (rw2 p0 p1)), (p0, ia 0 82 (fun _ => 0)), (p1, ia 0 82 (fun _ => 0))] _ := hC
  refine Ev.ald0 dX0_init_88 ?_
  refine Ev.iconst (v := 2) dX0_init_89 (by decide) ?_
  refine Ev.knI (N := 2) dX0_init_90 ac_int (by decide) (by decide) rfl hC (fun q90 W hq90 hC => ?_)
  replace hC : Cw _ [(h, ob 0 [.ref q5, .ref q16, .ref q29, .int 0, .int 0, .int 0, .ref q53, .ref q61, .ref sl, .ref pt, .null, .null, .int 0, .null, .null]), (q5, bl (0, 0, 0, 0) 0 0 0 0), (q16, cc (fun i => if i = 0 then -1 else 0)), (q29, ia 0 41 (fun _ => 0)), (q53, ia 0 246 (fun _ => 0)), (q61, ia 0 41 (fun _ => 0)), (sl, ra 4 2 (rw2 s0 s1)), (s0, ia 0 82 (fun _ => 0)), (s1, ia 0 82 (fun _ => 0)), (pt, ra 4 2 (rw2 p0 p1)), (p0, ia 0 82 (fun _ => 0)), (p1, ia 0 82 (fun _ => 0)), (q90, ia 0 2 (fun _ => 0))] _ := hC
  refine Ev.kpF (j := 0) dX0_init_92 rfl fX0_53 hC rfl rfl rfl rfl (fun W hC => ?_)
  replace hC : Cw _ [(h, ob 0 [.ref q5, .ref q16, .ref q29, .int 0, .int 0, .int 0, .ref q53, .ref q61, .ref sl, .ref pt, .ref q90, .null, .int 0, .null, .null]), (q5, bl (0, 0, 0, 0) 0 0 0 0), (q16, cc (fun i => if i = 0 then -1 else 0)), (q29, ia 0 41 (fun _ => 0)), (q53, ia 0 246 (fun _ => 0)), (q61, ia 0 41 (fun _ => 0)), (sl, ra 4 2 (rw2 s0 s1)), (s0, ia 0 82 (fun _ => 0)), (s1, ia 0 82 (fun _ => 0)), (pt, ra 4 2 (rw2 p0 p1)), (p0, ia 0 82 (fun _ => 0)), (p1, ia 0 82 (fun _ => 0)), (q90, ia 0 2 (fun _ => 0))] _ := hC
  refine Ev.ald0 dX0_init_95 ?_
  refine Ev.bipush (v := 41) dX0_init_96 (by decide) ?_
  refine Ev.knI (N := 41) dX0_init_98 ac_int (by decide) (by decide) rfl hC (fun q98 W hq98 hC => ?_)
  replace hC : Cw _ [(h, ob 0 [.ref q5, .ref q16, .ref q29, .int 0, .int 0, .int 0, .ref q53, .ref q61, .ref sl, .ref pt, .ref q90, .null, .int 0, .null, .null]), (q5, bl (0, 0, 0, 0) 0 0 0 0), (q16, cc (fun i => if i = 0 then -1 else 0)), (q29, ia 0 41 (fun _ => 0)), (q53, ia 0 246 (fun _ => 0)), (q61, ia 0 41 (fun _ => 0)), (sl, ra 4 2 (rw2 s0 s1)), (s0, ia 0 82 (fun _ => 0)), (s1, ia 0 82 (fun _ => 0)), (pt, ra 4 2 (rw2 p0 p1)), (p0, ia 0 82 (fun _ => 0)), (p1, ia 0 82 (fun _ => 0)), (q90, ia 0 2 (fun _ => 0)), (q98, ia 0 41 (fun _ => 0))] _ := hC
  refine Ev.kpF (j := 0) dX0_init_100 rfl fX0_56 hC rfl rfl rfl rfl (fun W hC => ?_)
  replace hC : Cw _ [(h, ob 0 [.ref q5, .ref q16, .ref q29, .int 0, .int 0, .int 0, .ref q53, .ref q61, .ref sl, .ref pt, .ref q90, .ref q98, .int 0, .null, .null]), (q5, bl (0, 0, 0, 0) 0 0 0 0), (q16, cc (fun i => if i = 0 then -1 else 0)), (q29, ia 0 41 (fun _ => 0)), (q53, ia 0 246 (fun _ => 0)), (q61, ia 0 41 (fun _ => 0)), (sl, ra 4 2 (rw2 s0 s1)), (s0, ia 0 82 (fun _ => 0)), (s1, ia 0 82 (fun _ => 0)), (pt, ra 4 2 (rw2 p0 p1)), (p0, ia 0 82 (fun _ => 0)), (p1, ia 0 82 (fun _ => 0)), (q90, ia 0 2 (fun _ => 0)), (q98, ia 0 41 (fun _ => 0))] _ := hC
  refine Ev.ald0 dX0_init_103 ?_
  refine Ev.iconst (v := 0) dX0_init_104 (by decide) ?_
  refine Ev.kpt (j := 0) dX0_init_105 fX0_59 hC rfl rfl rfl rfl (fun W hC => ?_)
  replace hC : Cw _ [(h, ob 0 [.ref q5, .ref q16, .ref q29, .int 0, .int 0, .int 0, .ref q53, .ref q61, .ref sl, .ref pt, .ref q90, .ref q98, .int 0, .null, .null]), (q5, bl (0, 0, 0, 0) 0 0 0 0), (q16, cc (fun i => if i = 0 then -1 else 0)), (q29, ia 0 41 (fun _ => 0)), (q53, ia 0 246 (fun _ => 0)), (q61, ia 0 41 (fun _ => 0)), (sl, ra 4 2 (rw2 s0 s1)), (s0, ia 0 82 (fun _ => 0)), (s1, ia 0 82 (fun _ => 0)), (pt, ra 4 2 (rw2 p0 p1)), (p0, ia 0 82 (fun _ => 0)), (p1, ia 0 82 (fun _ => 0)), (q90, ia 0 2 (fun _ => 0)), (q98, ia 0 41 (fun _ => 0))] _ := hC
  have hN : ∀ p ∈ [(q5, bl (0, 0, 0, 0) 0 0 0 0), (q16, cc (fun i => if i = 0 then -1 else 0)), (q29, ia 0 41 (fun _ => 0)), (q53, ia 0 246 (fun _ => 0)), (q61, ia 0 41 (fun _ => 0)), (sl, ra 4 2 (rw2 s0 s1)), (s0, ia 0 82 (fun _ => 0)), (s1, ia 0 82 (fun _ => 0)), (pt, ra 4 2 (rw2 p0 p1)), (p0, ia 0 82 (fun _ => 0)), (p1, ia 0 82 (fun _ => 0)), (q90, ia 0 2 (fun _ => 0)), (q98, ia 0 41 (fun _ => 0))], gt M p.1 = none := by
    intro p hp
    simp only [List.mem_cons, List.not_mem_nil, or_false] at hp
    rcases hp with rfl | rfl | rfl | rfl | rfl | rfl | rfl | rfl | rfl | rfl | rfl | rfl | rfl <;> assumption
  refine Ev.ald0 dX0_init_108 ?_
  refine Ev.ald1 dX0_init_109 ?_
  refine Ev.kpt (j := 0) dX0_init_110 fX0_62 hC rfl rfl rfl rfl (fun W hC => ?_)
  replace hC : Cw _ [(h, ob 0 [.ref q5, .ref q16, .ref q29, .int 0, .int 0, .int 0, .ref q53, .ref q61, .ref sl, .ref pt, .ref q90, .ref q98, .int 0, .ref b, .null]), (q5, bl (0, 0, 0, 0) 0 0 0 0), (q16, cc (fun i => if i = 0 then -1 else 0)), (q29, ia 0 41 (fun _ => 0)), (q53, ia 0 246 (fun _ => 0)), (q61, ia 0 41 (fun _ => 0)), (sl, ra 4 2 (rw2 s0 s1)), (s0, ia 0 82 (fun _ => 0)), (s1, ia 0 82 (fun _ => 0)), (pt, ra 4 2 (rw2 p0 p1)), (p0, ia 0 82 (fun _ => 0)), (p1, ia 0 82 (fun _ => 0)), (q90, ia 0 2 (fun _ => 0)), (q98, ia 0 41 (fun _ => 0))] _ := hC
  refine Ev.ald0 dX0_init_113 ?_
  refine Ev.ald1 dX0_init_114 ?_
  apply Ev.getr dX0_init_115 fX0_66
  · exact hC.old hN hb hne
  · rfl
  refine Ev.kpt (j := 0) dX0_init_118 fX0_71 hC rfl rfl rfl rfl (fun W hC => ?_)
  replace hC : Cw _ [(h, ob 0 [.ref q5, .ref q16, .ref q29, .int 0, .int 0, .int 0, .ref q53, .ref q61, .ref sl, .ref pt, .ref q90, .ref q98, .int 0, .ref b, .ref r]), (q5, bl (0, 0, 0, 0) 0 0 0 0), (q16, cc (fun i => if i = 0 then -1 else 0)), (q29, ia 0 41 (fun _ => 0)), (q53, ia 0 246 (fun _ => 0)), (q61, ia 0 41 (fun _ => 0)), (sl, ra 4 2 (rw2 s0 s1)), (s0, ia 0 82 (fun _ => 0)), (s1, ia 0 82 (fun _ => 0)), (pt, ra 4 2 (rw2 p0 p1)), (p0, ia 0 82 (fun _ => 0)), (p1, ia 0 82 (fun _ => 0)), (q90, ia 0 2 (fun _ => 0)), (q98, ia 0 41 (fun _ => 0))] _ := hC
  refine Ev.vret dX0_init_121 rfl ?_
  exact ⟨rfl, q5, q16, q29, q53, q61, sl, s0, s1, pt, p0, p1, q90, q98, hN, hC⟩
end MKA
