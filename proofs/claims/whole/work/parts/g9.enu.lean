/-! the law's entry: texts and statics -/
abbrev tmS (i : Nat) : Term := .string (txq i).1 (txq i).2.1
abbrev fl1 : List Cond := flatC (Jvm.Cond.and given_1 narrow_1)
abbrev strP : List Nat := [413, 481, 486, 495, 496, 497, 498, 499, 500, 505, 506, 507, 516, 914, 957, 980]
theorem sr_in : ∀ i, i < 16 → lw_tbl[strP.getD i 0]? = some (Cond.stringRef (txq i).1 (txq i).2.1 (txq i).2.2) := by decide +kernel
abbrev fxP : List Nat := [18, 31, 42, 51, 64, 77, 92, 105, 120, 134, 152, 171, 188, 208, 246, 276]
abbrev nqP : List Nat := [0, 41, 49, 61, 73, 87, 99, 113, 126, 143, 161, 177, 196, 233, 262, 304]
theorem fe_1 : ∀ i, i < 16 → fl1[fxP.getD i 0]? = some (Cond.exactly (tmS i) "java/lang/String") := by decide +kernel
theorem fe_2 : ∀ i, i < 16 → fl1[fxP.getD i 0 + 1]? = some (Cond.eq (.field (tmS i) "java/lang/String" "coder" "B") (.int 0)) := by decide +kernel
theorem fe_3 : ∀ i, i < 16 → fl1[fxP.getD i 0 + 2]? = some (Cond.arrayOf (.field (tmS i) "java/lang/String" "value" "[B") .byte) := by decide +kernel
theorem fe_4 : ∀ i, i < 16 → fl1[fxP.getD i 0 + 3]? = some (Cond.eq (.length (.field (tmS i) "java/lang/String" "value" "[B")) (.int (Int32.ofNat (lenS.getD i 0)))) := by decide +kernel
theorem fe_5 : ∀ i, i < 16 → ∀ j, j < lenS.getD i 0 → fl1[fxP.getD i 0 + 4 + j]? = some (Cond.eq (.elem (.field (tmS i) "java/lang/String" "value" "[B") (.int (Int32.ofNat j))) (.int ((bytS.getD i []).getD j 0))) := by decide +kernel
theorem fe_6 : ∀ j, j < 16 → ∀ i, i < j → fl1[nqP.getD j 0 + i]? = some (Cond.not (Cond.eq (tmS i) (tmS j))) := by decide +kernel
theorem fe_7 : Cond.eq (.static "java/lang/String" "COMPACT_STRINGS" "Z") (.int 1) ∈ fl1 ∧ Cond.isRef (.static "jdk/internal/util/Preconditions" "SIOOBE_FORMATTER" "Ljava/util/function/BiFunction;") ∈ fl1 ∧ Cond.isRef (.static Bundle.tN "UNASSIGNED_STACK" Bundle.steD) ∈ fl1 ∧ Cond.isRef (.static Bundle.tN "SUPPRESSED_SENTINEL" Bundle.listD) ∈ fl1 := by decide +kernel
section ENU
variable {s : State} {args : Array Value}
theorem en_U (hts : ∀ w ∈ lw_tbl, w.before args s = true) (hgv : (Jvm.Cond.and given_1 narrow_1).before args s = true) : ∃ adK adV : Nat → Nat, ∀ G : GP, gB G = s.heap.size → (∀ i, i < 16 → gC G (100 + i) = adK i ∧ gC G (200 + i) = adV i) → Ux G s s.heap := by
  have hf := flat_of_before _ hgv
  obtain ⟨adK, adV, h1, h2⟩ := vk_Sof (A := fun q => s.heap.size ≤ q) (tm := tmS) (N := 16) (len := lenS) (byt := bytS) (by decide) (fun i hi => hf _ (List.mem_of_getElem? (fe_1 i hi))) (fun i hi => hf _ (List.mem_of_getElem? (fe_2 i hi))) (fun i hi => hf _ (List.mem_of_getElem? (fe_3 i hi))) (fun i hi => hf _ (List.mem_of_getElem? (fe_4 i hi))) (fun i hi j hj => hf _ (List.mem_of_getElem? (fe_5 i hi j hj))) (fun i j hi hj hij => by
    rcases Nat.lt_or_gt_of_ne hij with h | h
    · exact Or.inl (hf _ (List.mem_of_getElem? (fe_6 j hj i h)))
    · exact Or.inr (hf _ (List.mem_of_getElem? (fe_6 i hi j h)))) (fun a ha => Nat.not_le.mpr ha)
  refine ⟨adK, adV, fun G hB hC => ?_⟩
  have hA : ∀ a : Nat, a < s.heap.size → ¬ gA G a := fun a ha => by
    show ¬ gB G ≤ a
    rw [hB]
    omega
  have nar : ∀ q, gA G q → s.heap.size ≤ q := fun q hq => by
    have : gB G ≤ q := hq
    rw [hB] at this
    exact this
  refine ⟨?_, fun i hi => ?_, va_Zof (hts _ (lw_in 427 (by decide +kernel))) (hts _ (lw_in 88 (by decide +kernel))) (va_eqt (hf _ fe_7.1)) hA, va_Zqof (hts _ (lw_in 443 (by decide +kernel))) (hts _ (lw_in 90 (by decide +kernel))) (hf _ fe_7.2.1) hA, vx_Zqof (hts _ (lw_in 902 (by decide +kernel))) (hts _ (lw_in 94 (by decide +kernel))) (hf _ fe_7.2.2.1) hA, vx_Zqof (hts _ (lw_in 904 (by decide +kernel))) (hts _ (lw_in 94 (by decide +kernel))) (hf _ fe_7.2.2.2) hA, va_AO.of (hts _ (lw_in 346 (by decide +kernel))), (show va_AP s from hts (Cond.arrayOver (.array .int)) (lw_in 291 (by decide +kernel))), va_Nw.of rfl (hts _ (lw_in 877 (by decide +kernel)))⟩
  · have h3 := h1.narrow nar
    refine ⟨fun i hi => ?_, fun i j hi hj hij => h3.2 i j hi hj ?_⟩
    · show va_O "java/lang/String" (gC G (100 + i)) _ s s.heap ∧ va_OF "java/lang/String" "coder" "B" (.int 0) (gC G (100 + i)) _ s s.heap ∧ va_OF "java/lang/String" "value" "[B" (.ref (gC G (200 + i))) (gC G (100 + i)) _ s s.heap ∧ va_T .byte (gC G (200 + i)) _ _ _ s s.heap
      rw [(hC i hi).1, (hC i hi).2]
      exact h3.1 i hi
    · have hij' : gC G (100 + i) = gC G (100 + j) := hij
      rw [(hC i hi).1, (hC j hj).1] at hij'
      exact hij'
  · rw [(hC i hi).1]
    exact vk_R.of (hts _ (lw_in _ (sr_in i hi))) (h2 i hi)
theorem en_G (hts : ∀ w ∈ lw_tbl, w.before args s = true) (hgv : (Jvm.Cond.and given_1 narrow_1).before args s = true) (l : Launch) (b L : Nat) (xs : Nat → Int32) : ∃ (D : va_G) (cA : Nat → ClassId), Kx (l, D, cA, s.heap.size, b, L, xs) s := by
  obtain ⟨D, cA, h1⟩ := en_K hts
  obtain ⟨adK, adV, h2⟩ := en_U hts hgv
  refine ⟨D, (fun i => if i < 6 then cA i else if 100 ≤ i ∧ i < 116 then adK (i - 100) else adV (i - 200)), h1 _ (fun i hi => if_pos hi), en_N hts, h2 _ rfl (fun i hi => ⟨?_, ?_⟩)⟩
  · show (if 100 + i < 6 then cA (100 + i) else if 100 ≤ 100 + i ∧ 100 + i < 116 then adK (100 + i - 100) else adV (100 + i - 200)) = adK i
    rw [if_neg (by omega), if_pos (by omega), Nat.add_sub_cancel_left]
  · show (if 200 + i < 6 then cA (200 + i) else if 100 ≤ 200 + i ∧ 200 + i < 116 then adK (200 + i - 100) else adV (200 + i - 200)) = adV i
    rw [if_neg (by omega), if_neg (by omega), Nat.add_sub_cancel_left]
end ENU
