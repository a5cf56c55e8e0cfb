/-! Arrays.fill of the JDK, walked as a method of ours -/
abbrev mJ7_fill : MI := (yJ7_fill_53178, cJ7_fill_53178, 4, none, 0, 0)
theorem dJ7_fill_0 : Dc mJ7_fill 0 (.iconst 0) 1 := by decide +kernel
theorem dJ7_fill_1 : Dc mJ7_fill 1 (.istore_n 2) 1 := by decide +kernel
theorem dJ7_fill_2 : Dc mJ7_fill 2 (.aload_n 0) 1 := by decide +kernel
theorem dJ7_fill_3 : Dc mJ7_fill 3 (.arraylength) 1 := by decide +kernel
theorem dJ7_fill_4 : Dc mJ7_fill 4 (.istore_n 3) 1 := by decide +kernel
theorem dJ7_fill_5 : Dc mJ7_fill 5 (.iload_n 2) 1 := by decide +kernel
theorem dJ7_fill_6 : Dc mJ7_fill 6 (.iload_n 3) 1 := by decide +kernel
theorem dJ7_fill_7 : Dc mJ7_fill 7 (.if_icmp .ge 13) 3 := by decide +kernel
theorem dJ7_fill_10 : Dc mJ7_fill 10 (.aload_n 0) 1 := by decide +kernel
theorem dJ7_fill_11 : Dc mJ7_fill 11 (.iload_n 2) 1 := by decide +kernel
theorem dJ7_fill_12 : Dc mJ7_fill 12 (.iload_n 1) 1 := by decide +kernel
theorem dJ7_fill_13 : Dc mJ7_fill 13 (.iastore) 1 := by decide +kernel
theorem dJ7_fill_14 : Dc mJ7_fill 14 (.iinc 2 1) 3 := by decide +kernel
theorem dJ7_fill_17 : Dc mJ7_fill 17 (.goto (-12)) 3 := by decide +kernel
theorem dJ7_fill_20 : Dc mJ7_fill 20 (.return_) 1 := by decide +kernel
theorem vJ7_fill : MS mJ7_fill 2 := ⟨⟨gw_in 633 (by decide +kernel) rfl, gw_in 93 (by decide +kernel) rfl, by decide, by decide, by decide +kernel⟩, gw_in 632 (by decide +kernel) rfl⟩
theorem lX0_118 : Cond.methodLink RX0 118 yJ7_fill_53178 ∈ GW := gw_in 631 (by decide +kernel) rfl
theorem Ev.alen {G : GP} {Y : MI} {pc : Nat} {ls : List (Option Value)} {st : List Value} {M : Wd} {kr nr : Nat} {Q : Option Value → Wd → Prop} {a n : Nat} {f : Nat → Int32} (hd : Dc Y pc .arraylength 1) (hM : gt M a = some (ia 0 n f)) (k : Ev G Y (pc + 1) ls (.int (nI n) :: st) M kr nr Q) : Ev G Y pc ls (.ref a :: st) M kr nr Q := by
  intro p e R s m args below meth c Z C hR arr H locs cells slots hl hP hS h1 h2
  obtain ⟨q0, hq, -⟩ := gt_pl (cA := gC G) hM
  exact va_alen C.1 C.2.1 C.2.2.2.2.2.1.1 hP.1 q0 0 hq rfl rfl hd (k p e R s m args below meth c Z C hR arr H locs cells slots hl hP hS h1 h2)
