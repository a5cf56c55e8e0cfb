/-! texts: the class's words, and what String's own methods say of them -/
section ESR
variable {G : GP} {Y Yc : MI} {pc n ix i : Nat} {ls : List (Option Value)} {st rest : List Value} {M : Wd} {kr nr : Nat} {Q : Option Value → Wd → Prop} {As : List Value}
theorem Ev.ldcs (i : Nat) (hi : i < 16) (hown : (txq i).1 = Y.1.cls) (hd : Dc Y pc (.ldc (txq i).2.1) 2) (k : Ev G Y (pc + 2) ls (.ref (gC G (100 + i)) :: st) M kr nr Q) : Ev G Y pc ls st M kr nr Q := by
  intro p e R s m args below meth c Z C hR arr H locs cells slots hl hP hS h1 h2
  exact va_ldcS C.1 C.2.1 (by rw [hown]; exact C.2.2.2.1) (C.2.2.2.2.2.1.2.2.2.1 i hi) hd (k p e R s m args below meth c Z C hR arr H locs cells slots hl hP hS h1 h2)
theorem Ev.sgv (hi : i < 16) (hd : Dc Y pc (.getfield ix) 3) (hl : Cond.fieldLink Y.1.cls ix "java/lang/String" "value" "[B" ∈ GW) (k : Ev G Y (pc + 3) ls (.ref (gC G (200 + i)) :: st) M kr nr Q) : Ev G Y pc ls (.ref (gC G (100 + i)) :: st) M kr nr Q := by
  intro p e R s m args below meth c Z C hR arr H locs cells slots hl9 hP hS h1 h2
  exact vk_getf C.1 C.2.1 (C.2.2.2.2.2.1.2.2.1.1 i hi).2.2.1 hS C.2.2.2.1 (C.2.2.2.2.1 _ hl) (fun _ h9 => h9) hd (k p e R s m args below meth c Z C hR arr H locs cells slots hl9 hP hS h1 h2)
theorem Ev.sgc (hi : i < 16) (hd : Dc Y pc (.getfield ix) 3) (hl : Cond.fieldLink Y.1.cls ix "java/lang/String" "coder" "B" ∈ GW) (k : Ev G Y (pc + 3) ls (.int 0 :: st) M kr nr Q) : Ev G Y pc ls (.ref (gC G (100 + i)) :: st) M kr nr Q := by
  intro p e R s m args below meth c Z C hR arr H locs cells slots hl9 hP hS h1 h2
  exact vk_getf C.1 C.2.1 (C.2.2.2.2.2.1.2.2.1.1 i hi).2.1 hS C.2.2.2.1 (C.2.2.2.2.1 _ hl) (fun _ h9 => h9) hd (k p e R s m args below meth c Z C hR arr H locs cells slots hl9 hP hS h1 h2)
theorem Ev.stl (hi : i < 16) (hd : Dc Y pc .arraylength 1) (k : Ev G Y (pc + 1) ls (.int (nI (lenS.getD i 0)) :: st) M kr nr Q) : Ev G Y pc ls (.ref (gC G (200 + i)) :: st) M kr nr Q := by
  intro p e R s m args below meth c Z C hR arr H locs cells slots hl9 hP hS h1 h2
  exact va_tlen C.1 C.2.1 (C.2.2.2.2.2.1.2.2.1.1 i hi).2.2.2 hS rfl hd (k p e R s m args below meth c Z C hR arr H locs cells slots hl9 hP hS h1 h2)
theorem Ev.stb {x : Int32} (hi : i < 16) (hd : Dc Y pc .baload 1) (hin : vp_in x (lenS.getD i 0)) (k : Ev G Y (pc + 1) ls (.int ((bytS.getD i []).getD x.toNatClampNeg 0) :: st) M kr nr Q) : Ev G Y pc ls (.int x :: .ref (gC G (200 + i)) :: st) M kr nr Q := by
  intro p e R s m args below meth c Z C hR arr H locs cells slots hl9 hP hS h1 h2
  exact va_tb C.1 C.2.1 (C.2.2.2.2.2.1.2.2.1.1 i hi).2.2.2 hS hin rfl hd (k p e R s m args below meth c Z C hR arr H locs cells slots hl9 hP hS h1 h2)
theorem Ev.gcs (hd : Dc Y pc (.getstatic ix) 3) (hl : Cond.fieldLink Y.1.cls ix "java/lang/String" "COMPACT_STRINGS" "Z" ∈ GW) (k : Ev G Y (pc + 3) ls (.int 1 :: st) M kr nr Q) : Ev G Y pc ls st M kr nr Q := by
  intro p e R s m args below meth c Z C hR arr H locs cells slots hl9 hP hS h1 h2
  exact va_gets C.1 C.2.1 C.2.2.2.2.2.1.2.2.2.2.1 hS C.2.2.2.1 (C.2.2.2.2.1 _ hl) (fun _ h9 => h9) hd (k p e R s m args below meth c Z C hR arr H locs cells slots hl9 hP hS h1 h2)
theorem Ev.gsf (hd : Dc Y pc (.getstatic ix) 3) (hl : Cond.fieldLink Y.1.cls ix "jdk/internal/util/Preconditions" "SIOOBE_FORMATTER" "Ljava/util/function/BiFunction;" ∈ GW) (k1 : Ev G Y (pc + 3) ls (.null :: st) M kr nr Q) (k2 : ∀ t : Nat, Ev G Y (pc + 3) ls (.ref t :: st) M kr nr Q) : Ev G Y pc ls st M kr nr Q := by
  intro p e R s m args below meth c Z C hR arr H locs cells slots hl9 hP hS h1 h2
  rcases C.2.2.2.2.2.1.2.2.2.2.2.1 with z | ⟨t, z⟩
  · exact va_gets C.1 C.2.1 z hS C.2.2.2.1 (C.2.2.2.2.1 _ hl) (fun _ h9 => h9) hd (k1 p e R s m args below meth c Z C hR arr H locs cells slots hl9 hP hS h1 h2)
  · exact va_gets C.1 C.2.1 z hS C.2.2.2.1 (C.2.2.2.2.1 _ hl) (fun _ h9 => h9) hd (k2 t p e R s m args below meth c Z C hR arr H locs cells slots hl9 hP hS h1 h2)
theorem Ev.i2c {x : Int32} (hd : Dc Y pc .i2c 1) (k : Ev G Y (pc + 1) ls (.int (x.toUInt32 % 65536).toInt32 :: st) M kr nr Q) : Ev G Y pc ls (.int x :: st) M kr nr Q := by
  intro p e R s m args below meth c Z C hR arr H locs cells slots hl hP hS h1 h2
  exact lv_i2c C.1 C.2.1 hd rfl (k p e R s m args below meth c Z C hR arr H locs cells slots hl hP hS h1 h2)
/-- a call on a text -/
theorem Ev.cvS {P : Int32 → Wd → Prop} (hi : i < 16) (hd : Dc Y pc (.invokevirtual ix) 3) (hl : Cond.methodLink Y.1.cls ix Yc.1 ∈ GW) (hm : MV Yc n) (hr : rmok Yc Y = true) (hs : Yc.1.cls = "java/lang/String") (hc : CtI G Yc (.ref (gC G (100 + i)) :: As) M 0 0 P) (hn : As.length = n) (hst : st = As.reverse ++ .ref (gC G (100 + i)) :: rest) (hw : Nat.ble (rest.map fun v => v.category).sum 8 = true)
    (k : ∀ (x : Int32) (M' : Wd), P x M' → Ev G Y (pc + 3) ls (.int x :: rest) M' kr nr Q) : Ev G Y pc ls st M kr nr Q := by
  intro p e R s m args below meth c Z C hR arr H locs cells slots hl9 hP hS h1 h2
  subst hst
  obtain ⟨⟨q1, q2, q3, q4, q5⟩, q6, q7⟩ := hm
  have hts := C.2.2.2.2.1
  have hK := C.2.2.2.2.2.1
  have hrec := vk_recv hK.2.2.1 hi hS
  rw [← hs] at hrec
  refine ev_goes (Qc := fun v M' => ∃ x : Int32, v = some (.int x) ∧ P x M') (va_runV (As := As) (rest := rest) ⟨C.1, C.2.1, C.2.2.1, C.2.2.2.1, hts⟩ hc ⟨callB_of n hts (gw_cons q1) rfl rfl rfl (hts _ q2) (hts _ hl) ⟨q3, q4, q5⟩ (rmok_of hr C.2.2.2.2.2.2.1 C.2.2.2.2.2.2.2.1), hts _ q6, hts _ q7⟩ ⟨ct_blind, hrec, fun U hU hW => ⟨rfl, by rw [hU]; exact hP, hK.go hW hU hS⟩⟩ rfl hn hl9.1 rfl (lv_room (Nat.le_of_ble_eq_true hw)) hd ⟨by omega, by omega⟩) hS (fun v M' H1 locs1 g1 g2 g3 => ?_)
  obtain ⟨x, rfl, g1⟩ := g1
  exact k x M' g1 p e R s m args below meth c Z C hR arr H1 locs1 _ _ hl9 g2 g3 (by omega) (by omega)
end ESR
abbrev mJ3_ci : MI := (yJ3_checkIndex_8e157, cJ3_checkIndex_8e157, 3, some .int, 0, 0)
abbrev mJ0_ci : MI := (yJ0_checkIndex_df160, cJ0_checkIndex_df160, 2, none, 1, 22)
abbrev mJ1_ca : MI := (yJ1_charAt_3b067, cJ1_charAt_3b067, 2, some .char, 2, 43)
abbrev mJ0_la : MI := (yJ0_isLatin1_aae02, cJ0_isLatin1_aae02, 1, some .boolean, 0, 0)
abbrev mJ0_co : MI := (yJ0_coder_7d493, cJ0_coder_7d493, 1, some .byte, 0, 0)
abbrev mJ0_le : MI := (yJ0_length_8abf5, cJ0_length_8abf5, 1, some .int, 1, 20)
abbrev mJ0_ca : MI := (yJ0_charAt_5068e, cJ0_charAt_5068e, 2, some .char, 3, 64)
theorem vJ3_ci : MS mJ3_ci 3 := ⟨⟨gw_in 446 (by decide +kernel) rfl, gw_in 90 (by decide +kernel) rfl, by decide, by decide, by decide +kernel⟩, gw_in 445 (by decide +kernel) rfl⟩
theorem vJ0_ci : MS mJ0_ci 2 := ⟨⟨gw_in 441 (by decide +kernel) rfl, gw_in 88 (by decide +kernel) rfl, by decide, by decide, by decide +kernel⟩, gw_in 440 (by decide +kernel) rfl⟩
theorem vJ1_ca : MS mJ1_ca 2 := ⟨⟨gw_in 438 (by decide +kernel) rfl, gw_in 89 (by decide +kernel) rfl, by decide, by decide, by decide +kernel⟩, gw_in 437 (by decide +kernel) rfl⟩
theorem vJ0_la : MV mJ0_la 0 := ⟨⟨gw_in 435 (by decide +kernel) rfl, gw_in 88 (by decide +kernel) rfl, by decide, by decide, by decide +kernel⟩, gw_in 433 (by decide +kernel) rfl, gw_in 434 (by decide +kernel) rfl⟩
theorem vJ0_co : MV mJ0_co 0 := ⟨⟨gw_in 425 (by decide +kernel) rfl, gw_in 88 (by decide +kernel) rfl, by decide, by decide, by decide +kernel⟩, gw_in 423 (by decide +kernel) rfl, gw_in 424 (by decide +kernel) rfl⟩
theorem vJ0_le : MV mJ0_le 0 := ⟨⟨gw_in 421 (by decide +kernel) rfl, gw_in 88 (by decide +kernel) rfl, by decide, by decide, by decide +kernel⟩, gw_in 419 (by decide +kernel) rfl, gw_in 420 (by decide +kernel) rfl⟩
theorem vJ0_ca : MV mJ0_ca 1 := ⟨⟨gw_in 431 (by decide +kernel) rfl, gw_in 88 (by decide +kernel) rfl, by decide, by decide, by decide +kernel⟩, gw_in 429 (by decide +kernel) rfl, gw_in 430 (by decide +kernel) rfl⟩
theorem lX4_130 : Cond.methodLink RX4 130 yJ0_length_8abf5 ∈ GW := gw_in 418 (by decide +kernel) rfl
theorem lX4_135 : Cond.methodLink RX4 135 yJ0_charAt_5068e ∈ GW := gw_in 428 (by decide +kernel) rfl
theorem lJ0_335 : Cond.methodLink RJ0 335 yJ0_coder_7d493 ∈ GW := gw_in 422 (by decide +kernel) rfl
theorem lJ0_492 : Cond.methodLink RJ0 492 yJ0_isLatin1_aae02 ∈ GW := gw_in 432 (by decide +kernel) rfl
theorem lJ0_495 : Cond.methodLink RJ0 495 yJ1_charAt_3b067 ∈ GW := gw_in 436 (by decide +kernel) rfl
theorem lJ1_9 : Cond.methodLink RJ1 9 yJ0_checkIndex_df160 ∈ GW := gw_in 439 (by decide +kernel) rfl
theorem lJ0_1059 : Cond.methodLink RJ0 1059 yJ3_checkIndex_8e157 ∈ GW := gw_in 444 (by decide +kernel) rfl
theorem fJ0_38 : Cond.fieldLink RJ0 38 "java/lang/String" "COMPACT_STRINGS" "Z" ∈ GW := gw_in 426 (by decide +kernel) rfl
theorem fJ0_1053 : Cond.fieldLink RJ0 1053 "jdk/internal/util/Preconditions" "SIOOBE_FORMATTER" "Ljava/util/function/BiFunction;" ∈ GW := gw_in 442 (by decide +kernel) rfl
theorem fJ0_9 : Cond.fieldLink RJ0 9 "java/lang/String" "value" "[B" ∈ GW := gw_in 1472 (by decide +kernel) rfl
theorem fJ0_15 : Cond.fieldLink RJ0 15 "java/lang/String" "coder" "B" ∈ GW := gw_in 1473 (by decide +kernel) rfl
theorem dJ3_ci_0 : Dc mJ3_ci 0 (.iload_n 0) 1 := by decide +kernel
theorem dJ3_ci_1 : Dc mJ3_ci 1 (.ifCond .lt 8) 3 := by decide +kernel
theorem dJ3_ci_4 : Dc mJ3_ci 4 (.iload_n 0) 1 := by decide +kernel
theorem dJ3_ci_5 : Dc mJ3_ci 5 (.iload_n 1) 1 := by decide +kernel
theorem dJ3_ci_6 : Dc mJ3_ci 6 (.if_icmp .lt 10) 3 := by decide +kernel
theorem dJ3_ci_16 : Dc mJ3_ci 16 (.iload_n 0) 1 := by decide +kernel
theorem dJ3_ci_17 : Dc mJ3_ci 17 .ireturn 1 := by decide +kernel
theorem dJ0_ci_0 : Dc mJ0_ci 0 (.iload_n 0) 1 := by decide +kernel
theorem dJ0_ci_1 : Dc mJ0_ci 1 (.iload_n 1) 1 := by decide +kernel
theorem dJ0_ci_2 : Dc mJ0_ci 2 (.getstatic 1053) 3 := by decide +kernel
theorem dJ0_ci_5 : Dc mJ0_ci 5 (.invokestatic 1059) 3 := by decide +kernel
theorem dJ0_ci_8 : Dc mJ0_ci 8 .pop 1 := by decide +kernel
theorem dJ0_ci_9 : Dc mJ0_ci 9 .return_ 1 := by decide +kernel
theorem dJ1_ca_0 : Dc mJ1_ca 0 (.iload_n 1) 1 := by decide +kernel
theorem dJ1_ca_1 : Dc mJ1_ca 1 (.aload_n 0) 1 := by decide +kernel
theorem dJ1_ca_2 : Dc mJ1_ca 2 .arraylength 1 := by decide +kernel
theorem dJ1_ca_3 : Dc mJ1_ca 3 (.invokestatic 9) 3 := by decide +kernel
theorem dJ1_ca_6 : Dc mJ1_ca 6 (.aload_n 0) 1 := by decide +kernel
theorem dJ1_ca_7 : Dc mJ1_ca 7 (.iload_n 1) 1 := by decide +kernel
theorem dJ1_ca_8 : Dc mJ1_ca 8 .baload 1 := by decide +kernel
theorem dJ1_ca_9 : Dc mJ1_ca 9 (.sipush 255) 3 := by decide +kernel
theorem dJ1_ca_12 : Dc mJ1_ca 12 .iand 1 := by decide +kernel
theorem dJ1_ca_13 : Dc mJ1_ca 13 .i2c 1 := by decide +kernel
theorem dJ1_ca_14 : Dc mJ1_ca 14 .ireturn 1 := by decide +kernel
theorem dJ0_la_0 : Dc mJ0_la 0 (.getstatic 38) 3 := by decide +kernel
theorem dJ0_la_3 : Dc mJ0_la 3 (.ifCond .eq 14) 3 := by decide +kernel
theorem dJ0_la_6 : Dc mJ0_la 6 (.aload_n 0) 1 := by decide +kernel
theorem dJ0_la_7 : Dc mJ0_la 7 (.getfield 15) 3 := by decide +kernel
theorem dJ0_la_10 : Dc mJ0_la 10 (.ifCond .ne 7) 3 := by decide +kernel
theorem dJ0_la_13 : Dc mJ0_la 13 (.iconst 1) 1 := by decide +kernel
theorem dJ0_la_14 : Dc mJ0_la 14 (.goto 4) 3 := by decide +kernel
theorem dJ0_la_18 : Dc mJ0_la 18 .ireturn 1 := by decide +kernel
theorem dJ0_co_0 : Dc mJ0_co 0 (.getstatic 38) 3 := by decide +kernel
theorem dJ0_co_3 : Dc mJ0_co 3 (.ifCond .eq 10) 3 := by decide +kernel
theorem dJ0_co_6 : Dc mJ0_co 6 (.aload_n 0) 1 := by decide +kernel
theorem dJ0_co_7 : Dc mJ0_co 7 (.getfield 15) 3 := by decide +kernel
theorem dJ0_co_10 : Dc mJ0_co 10 (.goto 4) 3 := by decide +kernel
theorem dJ0_co_14 : Dc mJ0_co 14 .ireturn 1 := by decide +kernel
theorem dJ0_le_0 : Dc mJ0_le 0 (.aload_n 0) 1 := by decide +kernel
theorem dJ0_le_1 : Dc mJ0_le 1 (.getfield 9) 3 := by decide +kernel
theorem dJ0_le_4 : Dc mJ0_le 4 .arraylength 1 := by decide +kernel
theorem dJ0_le_5 : Dc mJ0_le 5 (.aload_n 0) 1 := by decide +kernel
theorem dJ0_le_6 : Dc mJ0_le 6 (.invokevirtual 335) 3 := by decide +kernel
theorem dJ0_le_9 : Dc mJ0_le 9 .ishr 1 := by decide +kernel
theorem dJ0_le_10 : Dc mJ0_le 10 .ireturn 1 := by decide +kernel
theorem dJ0_ca_0 : Dc mJ0_ca 0 (.aload_n 0) 1 := by decide +kernel
theorem dJ0_ca_1 : Dc mJ0_ca 1 (.invokevirtual 492) 3 := by decide +kernel
theorem dJ0_ca_4 : Dc mJ0_ca 4 (.ifCond .eq 12) 3 := by decide +kernel
theorem dJ0_ca_7 : Dc mJ0_ca 7 (.aload_n 0) 1 := by decide +kernel
theorem dJ0_ca_8 : Dc mJ0_ca 8 (.getfield 9) 3 := by decide +kernel
theorem dJ0_ca_11 : Dc mJ0_ca 11 (.iload_n 1) 1 := by decide +kernel
theorem dJ0_ca_12 : Dc mJ0_ca 12 (.invokestatic 495) 3 := by decide +kernel
theorem dJ0_ca_15 : Dc mJ0_ca 15 .ireturn 1 := by decide +kernel
/-- every text: its length, its letters -/
theorem tx_all : ∀ i, i < 16 → (nI (lenS.getD i 0) >>> ((0 : Int32) &&& 31) = nI (lenS.getD i 0) ∧ lenS.getD i 0 < 100 ∧ ∀ k, k < lenS.getD i 0 → ((((bytS.getD i []).getD k 0) &&& 255).toUInt32 % 65536).toInt32 = (bytS.getD i []).getD k 0 ∧ narrow .char (.int ((bytS.getD i []).getD k 0)) = .int ((bytS.getD i []).getD k 0)) := by decide +kernel
section STJ
variable {G : GP} {M : Wd} {i : Nat}
theorem j_ci3 {x y : Int32} {v : Value} (hv : v = .null ∨ ∃ t, v = .ref t) (h1 : ¬ x < 0) (h2 : x < y) : CtI G mJ3_ci [.int x, .int y, v] M 0 0 (fun z M' => z = x ∧ M' = M) := by
  have hcat : v.category = 1 := by
    rcases hv with e | ⟨t, e⟩ <;> rw [e] <;> rfl
  refine Ct.of (ls := [some (.int x), some (.int y), some v]) (by decide) (by decide) ?_ ?_ ?_ ?_
  · rcases hv with e | ⟨t, e⟩ <;> rw [e] <;> rfl
  · rcases hv with e | ⟨t, e⟩ <;> rw [e] <;> rfl
  · rcases hv with e | ⟨t, e⟩ <;> rw [e] <;> rfl
  · refine Ev.ild0 dJ3_ci_0 ?_
    refine Ev.if_lt (tgt := 9) dJ3_ci_1 (by decide) (fun c => absurd c h1) (fun _ => ?_)
    refine Ev.ild0 dJ3_ci_4 ?_
    refine Ev.ild1 dJ3_ci_5 ?_
    refine Ev.icmp_lt (tgt := 16) dJ3_ci_6 (by decide) (fun _ => ?_) (fun c => absurd h2 c)
    refine Ev.ild0 dJ3_ci_16 ?_
    refine Ev.iret dJ3_ci_17 rfl rfl ?_
    exact ⟨_, rfl, rfl, rfl⟩
theorem j_ci0 {x y : Int32} (h1 : ¬ x < 0) (h2 : x < y) : CtV G mJ0_ci [.int x, .int y] M 0 0 (fun M' => M' = M) := by
  refine Ct.of (ls := [some (.int x), some (.int y)]) (by decide) (by decide) rfl rfl rfl ?_
  refine Ev.ild0 dJ0_ci_0 ?_
  refine Ev.ild1 dJ0_ci_1 ?_
  refine Ev.gsf dJ0_ci_2 fJ0_1053 ?_ (fun t => ?_)
  · refine Ev.csI (Yc := mJ3_ci) dJ0_ci_5 lJ0_1059 vJ3_ci rfl (j_ci3 (Or.inl rfl) h1 h2) rfl rfl rfl ?_
    rintro z M' ⟨rfl, rfl⟩
    refine Ev.pop dJ0_ci_8 rfl ?_
    refine Ev.vret dJ0_ci_9 rfl ?_
    exact ⟨rfl, rfl⟩
  · refine Ev.csI (Yc := mJ3_ci) dJ0_ci_5 lJ0_1059 vJ3_ci rfl (j_ci3 (Or.inr ⟨t, rfl⟩) h1 h2) rfl rfl rfl ?_
    rintro z M' ⟨rfl, rfl⟩
    refine Ev.pop dJ0_ci_8 rfl ?_
    refine Ev.vret dJ0_ci_9 rfl ?_
    exact ⟨rfl, rfl⟩
theorem j_ca1 {k : Nat} (hi : i < 16) (hk : k < lenS.getD i 0) : CtI G mJ1_ca [.ref (gC G (200 + i)), .int (nI k)] M 0 0 (fun z M' => z = (bytS.getD i []).getD k 0 ∧ M' = M) := by
  obtain ⟨-, hl, hb⟩ := tx_all i hi
  obtain ⟨b1, b2⟩ := hb k hk
  refine Ct.of (ls := [some (.ref (gC G (200 + i))), some (.int (nI k))]) (by decide) (by decide) rfl rfl rfl ?_
  refine Ev.ild1 dJ1_ca_0 ?_
  refine Ev.ald0 dJ1_ca_1 ?_
  refine Ev.stl hi dJ1_ca_2 ?_
  refine Ev.csV (Yc := mJ0_ci) dJ1_ca_3 lJ1_9 vJ0_ci rfl (j_ci0 (nI_pos (by omega)) ((nI_ltI (by omega) (by omega)).mpr hk)) rfl rfl rfl ?_
  rintro M' rfl
  refine Ev.ald0 dJ1_ca_6 ?_
  refine Ev.ild1 dJ1_ca_7 ?_
  refine Ev.stb hi dJ1_ca_8 (vp_in_nI hk (by omega)) ?_
  rw [nI_clamp (by omega)]
  refine Ev.sipush (v := 255) dJ1_ca_9 (by decide) ?_
  refine Ev.iand dJ1_ca_12 ?_
  refine Ev.i2c dJ1_ca_13 ?_
  have e : ((((bytS.getD i []).getD k 0) &&& Int32.ofInt 255).toUInt32 % 65536).toInt32 = (bytS.getD i []).getD k 0 := b1
  first
    | rw [e]
    | rw [b1]
  refine Ev.iret dJ1_ca_14 rfl b2 ?_
  exact ⟨_, rfl, rfl, rfl⟩
theorem j_la (hi : i < 16) : CtI G mJ0_la [.ref (gC G (100 + i))] M 0 0 (fun z M' => z = 1 ∧ M' = M) := by
  refine Ct.of (ls := [some (.ref (gC G (100 + i)))]) (by decide) (by decide) rfl rfl rfl ?_
  refine Ev.gcs dJ0_la_0 fJ0_38 ?_
  refine Ev.if_eq (tgt := 17) dJ0_la_3 (by decide) (fun c => absurd c (by decide)) (fun _ => ?_)
  refine Ev.ald0 dJ0_la_6 ?_
  refine Ev.sgc hi dJ0_la_7 fJ0_15 ?_
  refine Ev.if_ne (tgt := 17) dJ0_la_10 (by decide) (fun c => absurd rfl c) (fun _ => ?_)
  refine Ev.iconst (v := 1) dJ0_la_13 (by decide) ?_
  refine Ev.goto (tgt := 18) dJ0_la_14 (by decide) ?_
  refine Ev.iret dJ0_la_18 rfl rfl ?_
  exact ⟨_, rfl, rfl, rfl⟩
theorem j_co (hi : i < 16) : CtI G mJ0_co [.ref (gC G (100 + i))] M 0 0 (fun z M' => z = 0 ∧ M' = M) := by
  refine Ct.of (ls := [some (.ref (gC G (100 + i)))]) (by decide) (by decide) rfl rfl rfl ?_
  refine Ev.gcs dJ0_co_0 fJ0_38 ?_
  refine Ev.if_eq (tgt := 13) dJ0_co_3 (by decide) (fun c => absurd c (by decide)) (fun _ => ?_)
  refine Ev.ald0 dJ0_co_6 ?_
  refine Ev.sgc hi dJ0_co_7 fJ0_15 ?_
  refine Ev.goto (tgt := 14) dJ0_co_10 (by decide) ?_
  refine Ev.iret dJ0_co_14 rfl rfl ?_
  exact ⟨_, rfl, rfl, rfl⟩
theorem j_le (hi : i < 16) : CtI G mJ0_le [.ref (gC G (100 + i))] M 0 0 (fun z M' => z = nI (lenS.getD i 0) ∧ M' = M) := by
  obtain ⟨hs, -⟩ := tx_all i hi
  refine Ct.of (ls := [some (.ref (gC G (100 + i)))]) (by decide) (by decide) rfl rfl rfl ?_
  refine Ev.ald0 dJ0_le_0 ?_
  refine Ev.sgv hi dJ0_le_1 fJ0_9 ?_
  refine Ev.stl hi dJ0_le_4 ?_
  refine Ev.ald0 dJ0_le_5 ?_
  refine Ev.cvS (Yc := mJ0_co) (As := []) hi dJ0_le_6 lJ0_335 vJ0_co rfl rfl (j_co hi) rfl rfl rfl ?_
  rintro z M' ⟨rfl, rfl⟩
  refine Ev.ishr dJ0_le_9 ?_
  rw [hs]
  refine Ev.iret dJ0_le_10 rfl rfl ?_
  exact ⟨_, rfl, rfl, rfl⟩
theorem j_ca {k : Nat} (hi : i < 16) (hk : k < lenS.getD i 0) : CtI G mJ0_ca [.ref (gC G (100 + i)), .int (nI k)] M 0 0 (fun z M' => z = (bytS.getD i []).getD k 0 ∧ M' = M) := by
  obtain ⟨-, hl, hb⟩ := tx_all i hi
  obtain ⟨b1, b2⟩ := hb k hk
  refine Ct.of (ls := [some (.ref (gC G (100 + i))), some (.int (nI k))]) (by decide) (by decide) rfl rfl rfl ?_
  refine Ev.ald0 dJ0_ca_0 ?_
  refine Ev.cvS (Yc := mJ0_la) (As := []) hi dJ0_ca_1 lJ0_492 vJ0_la rfl rfl (j_la hi) rfl rfl rfl ?_
  rintro z M' ⟨rfl, rfl⟩
  refine Ev.if_eq (tgt := 16) dJ0_ca_4 (by decide) (fun c => absurd c (by decide)) (fun _ => ?_)
  refine Ev.ald0 dJ0_ca_7 ?_
  refine Ev.sgv hi dJ0_ca_8 fJ0_9 ?_
  refine Ev.ild1 dJ0_ca_11 ?_
  refine Ev.csI (Yc := mJ1_ca) dJ0_ca_12 lJ0_495 vJ1_ca rfl (j_ca1 hi hk) rfl rfl rfl ?_
  rintro z M' ⟨rfl, rfl⟩
  refine Ev.iret dJ0_ca_15 rfl b2 ?_
  exact ⟨_, rfl, rfl, rfl⟩
end STJ
