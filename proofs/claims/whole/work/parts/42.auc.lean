theorem hs1_cnt {H : Hs} {sd key : Int32} {a b : Nat} (ha : H.2.2.1 0 = nI a) (hb : H.2.2.1 1 = nI b) : ∃ a2 b2 : Nat, (hs1 H sd key).2.2.1 0 = nI a2 ∧ (hs1 H sd key).2.2.1 1 = nI b2 ∧ a2 ≤ a + 1 ∧ b2 ≤ b + 1 ∧ (hs1 H sd key).2.2.2.2 = H.2.2.2.2 := by
  by_cases h : sd = 0
  · refine ⟨a + 1, b, ?_, ?_, by omega, by omega, ?_⟩
    · rw [hs1, if_pos h]
      show upd H.2.2.1 0 (H.2.2.1 0 + 1) 0 = _
      rw [pk_us, ha, nI_1]
    · rw [hs1, if_pos h]
      show upd H.2.2.1 0 (H.2.2.1 0 + 1) 1 = _
      rw [pk_un (by decide), hb]
    · rw [hs1, if_pos h]
  · refine ⟨a, b + 1, ?_, ?_, by omega, by omega, ?_⟩
    · rw [hs1, if_neg h]
      show upd H.2.2.1 1 (H.2.2.1 1 + 1) 0 = _
      rw [pk_un (by decide), ha]
    · rw [hs1, if_neg h]
      show upd H.2.2.1 1 (H.2.2.1 1 + 1) 1 = _
      rw [pk_us, hb, nI_1]
    · rw [hs1, if_neg h]
theorem hs1_sel {H : Hs} {sd : Int32} {a b : Nat} (ha : H.2.2.1 0 = nI a) (hb : H.2.2.1 1 = nI b) : (if sd = 0 then H.2.2.1 0 else H.2.2.1 1) = nI (if sd = 0 then a else b) := by
  split <;> assumption
section AUC
variable {G : GP} {M0 M : Wd} {ad : Nat → Nat} {so : Nat → Option Nat} {z : Nat} {f : Nat → Int32} {i1 i2 i3 : Int32} {H : Hs}
set_option maxRecDepth 20000 in
theorem a_holdSlices {o : Int32} (k : Nat) (ho : o = nI k) (hj : Inj ad) (s0 : so 0 = some (ad 15)) (s1 : so 1 = some (ad 16)) (hP : HP ad so z f i1 i2 i3 H M) (hF : Fr (hfr ad) M0 M) (hsd : f (8 * k + 0) = 0 ∨ f (8 * k + 0) = 1) (hk : 8 * k + 7 < z) (hz : z ≤ 100000) {a b : Nat} (ha : H.2.2.1 0 = nI a) (hb : H.2.2.1 1 = nI b) (ha2 : a + 1 < 82) (hb2 : b + 1 < 82) : CtV G mX0_holdSlices [.ref (ad 3), .int o] M 0 0 (fun M' => HP ad so z f i1 i2 i3 (hs2 H f k) M' ∧ Fr (hfr ad) M0 M') := by
  have J : ∀ key : Int32, key = (if f (8 * k + 1) = 2 then ky f k ||| 64 else ky f k) → Ev G mX0_holdSlices 46 [some (.ref (ad 3)), some (.int o), some (.int (f (8 * k + 0))), some (.int (f (8 * k + 1))), some (.int (ky f k))] [.int key, .int (f (8 * k + 0)), .ref (ad 3)] M 0 0 (fun v M' => v = none ∧ HP ad so z f i1 i2 i3 (hs2 H f k) M' ∧ Fr (hfr ad) M0 M') := by
    intro key hkey
    have p1 := hP.1
    refine Ev.cvV (Yc := mX0_holdSlice) (ci := 0) dX0_holdSlices_46 lX0_94 vX0_holdSlice rfl (a_holdSlice hj s0 s1 hP hF hsd (hs1_sel ha hb) (by split <;> omega)) ?_ rfl rfl rfl rfl ?_
    · apply Exists.intro; repeat (first | assumption | (refine gt_upI ?_; (repeat (first | refine In_up ?_ | refine In_nw ?_)); apply In_of; assumption) | refine gt_rd (by first | assumption | (apply Ne.symm; assumption) | (exact hj _ _ (by omega) (by omega) (by omega)) | omega) ?_ | exact gt_nw (by assumption) | refine gt_odr (by first | assumption | (apply Ne.symm; assumption) | omega) ?_)
    rintro M' ⟨hP1, hF1⟩
    obtain ⟨a2, b2, ha3, hb3, la, lb, -⟩ := hs1_cnt (key := key) (sd := f (8 * k + 0)) ha hb
    have p2 := hP1.1
    have p3 := hP1.2.2.2.2.2.2
    refine Ev.ild3 dX0_holdSlices_49 ?_
    refine Ev.iconst (v := 3) dX0_holdSlices_50 (by decide) ?_
    refine Ev.icmp_ne (tgt := 79) dX0_holdSlices_51 (by decide) (fun c51 => ?_) (fun c51 => ?_)
    · refine Ev.vret dX0_holdSlices_79 rfl ?_
      refine ⟨rfl, ?_, hF1⟩
      rw [hs2, if_neg (fun q => c51 q.1), ← hkey]
      exact hP1
    · have hk2 : key = ky f k := by rw [hkey, if_neg (by rw [c51]; decide)]
      refine Ev.ald0 dX0_holdSlices_54 ?_
      refine Ev.ild1 dX0_holdSlices_55 ?_
      refine Ev.iconst (v := 2) dX0_holdSlices_56 (by decide) ?_
      refine Ev.cvI (Yc := mX0_get) (ci := 0) dX0_holdSlices_57 lX0_86 vX0_get rfl (a_get k 2 ho rfl p2 rfl p3 (by omega) hz) ?_ rfl rfl rfl rfl ?_
      · apply Exists.intro; repeat (first | assumption | (refine gt_upI ?_; (repeat (first | refine In_up ?_ | refine In_nw ?_)); apply In_of; assumption) | refine gt_rd (by first | assumption | (apply Ne.symm; assumption) | (exact hj _ _ (by omega) (by omega) (by omega)) | omega) ?_ | exact gt_nw (by assumption) | refine gt_odr (by first | assumption | (apply Ne.symm; assumption) | omega) ?_)
      rintro x M'' ⟨hx, rfl⟩
      refine Ev.ald0 dX0_holdSlices_60 ?_
      refine Ev.ild1 dX0_holdSlices_61 ?_
      refine Ev.iconst (v := 4) dX0_holdSlices_62 (by decide) ?_
      refine Ev.cvI (Yc := mX0_get) (ci := 0) dX0_holdSlices_63 lX0_86 vX0_get rfl (a_get k 4 ho rfl p2 rfl p3 (by omega) hz) ?_ rfl rfl rfl rfl ?_
      · apply Exists.intro; repeat (first | assumption | (refine gt_upI ?_; (repeat (first | refine In_up ?_ | refine In_nw ?_)); apply In_of; assumption) | refine gt_rd (by first | assumption | (apply Ne.symm; assumption) | (exact hj _ _ (by omega) (by omega) (by omega)) | omega) ?_ | exact gt_nw (by assumption) | refine gt_odr (by first | assumption | (apply Ne.symm; assumption) | omega) ?_)
      rintro y M'' ⟨hy, rfl⟩
      refine Ev.icmp_le (tgt := 79) dX0_holdSlices_66 (by decide) (fun c66 => ?_) (fun c66 => ?_)
      · refine Ev.vret dX0_holdSlices_79 rfl ?_
        refine ⟨rfl, ?_, hF1⟩
        rw [hs2, if_neg (fun q => absurd q.2 (Int32.not_lt.mpr (by rw [← hx, ← hy]; exact c66))), ← hkey]
        exact hP1
      · refine Ev.ald0 dX0_holdSlices_69 ?_
        refine Ev.ild2 dX0_holdSlices_70 ?_
        refine Ev.ild4 dX0_holdSlices_71 ?_
        refine Ev.bipush (v := 64) dX0_holdSlices_73 (by decide) ?_
        refine Ev.ior dX0_holdSlices_75 ?_
        refine Ev.cvV (Yc := mX0_holdSlice) (ci := 0) dX0_holdSlices_76 lX0_94 vX0_holdSlice rfl (a_holdSlice hj s0 s1 hP1 hF1 hsd (hs1_sel ha3 hb3) (by split <;> omega)) ?_ rfl rfl rfl rfl ?_
        · apply Exists.intro; repeat (first | assumption | (refine gt_upI ?_; (repeat (first | refine In_up ?_ | refine In_nw ?_)); apply In_of; assumption) | refine gt_rd (by first | assumption | (apply Ne.symm; assumption) | (exact hj _ _ (by omega) (by omega) (by omega)) | omega) ?_ | exact gt_nw (by assumption) | refine gt_odr (by first | assumption | (apply Ne.symm; assumption) | omega) ?_)
        rintro M'' ⟨hP2, hF2⟩
        refine Ev.vret dX0_holdSlices_79 rfl ?_
        refine ⟨rfl, ?_, hF2⟩
        rw [hs2, if_pos ⟨c51, by rw [← hx, ← hy]; exact Int32.not_le.mp c66⟩]
        rw [hk2] at hP2
        exact hP2
  have p1 := hP.1
  have p7 := hP.2.2.2.2.2.2
  refine Ct.of (ls := [some (.ref (ad 3)), some (.int o), none, none, none]) (by decide) (by decide) rfl rfl rfl ?_
  refine Ev.ald0 dX0_holdSlices_0 ?_
  refine Ev.ild1 dX0_holdSlices_1 ?_
  refine Ev.iconst (v := 0) dX0_holdSlices_2 (by decide) ?_
  refine Ev.cvI (Yc := mX0_get) (ci := 0) dX0_holdSlices_3 lX0_86 vX0_get rfl (a_get k 0 ho rfl p1 rfl p7 (by omega) hz) ?_ rfl rfl rfl rfl ?_
  · apply Exists.intro; repeat (first | assumption | (refine gt_upI ?_; (repeat (first | refine In_up ?_ | refine In_nw ?_)); apply In_of; assumption) | refine gt_rd (by first | assumption | (apply Ne.symm; assumption) | (exact hj _ _ (by omega) (by omega) (by omega)) | omega) ?_ | exact gt_nw (by assumption) | refine gt_odr (by first | assumption | (apply Ne.symm; assumption) | omega) ?_)
  rintro x M' ⟨hx, rfl⟩
  subst hx
  refine Ev.ist2 dX0_holdSlices_6 rfl rfl ?_
  refine Ev.ald0 dX0_holdSlices_7 ?_
  refine Ev.ild1 dX0_holdSlices_8 ?_
  refine Ev.iconst (v := 1) dX0_holdSlices_9 (by decide) ?_
  refine Ev.cvI (Yc := mX0_get) (ci := 0) dX0_holdSlices_10 lX0_86 vX0_get rfl (a_get k 1 ho rfl p1 rfl p7 (by omega) hz) ?_ rfl rfl rfl rfl ?_
  · apply Exists.intro; repeat (first | assumption | (refine gt_upI ?_; (repeat (first | refine In_up ?_ | refine In_nw ?_)); apply In_of; assumption) | refine gt_rd (by first | assumption | (apply Ne.symm; assumption) | (exact hj _ _ (by omega) (by omega) (by omega)) | omega) ?_ | exact gt_nw (by assumption) | refine gt_odr (by first | assumption | (apply Ne.symm; assumption) | omega) ?_)
  rintro x M' ⟨hx, rfl⟩
  subst hx
  refine Ev.ist3 dX0_holdSlices_13 rfl rfl ?_
  refine Ev.ild2 dX0_holdSlices_14 ?_
  refine Ev.ild3 dX0_holdSlices_15 ?_
  refine Ev.ald0 dX0_holdSlices_16 ?_
  refine Ev.ild1 dX0_holdSlices_17 ?_
  refine Ev.iconst (v := 3) dX0_holdSlices_18 (by decide) ?_
  refine Ev.cvI (Yc := mX0_get) (ci := 0) dX0_holdSlices_19 lX0_86 vX0_get rfl (a_get k 3 ho rfl p1 rfl p7 (by omega) hz) ?_ rfl rfl rfl rfl ?_
  · apply Exists.intro; repeat (first | assumption | (refine gt_upI ?_; (repeat (first | refine In_up ?_ | refine In_nw ?_)); apply In_of; assumption) | refine gt_rd (by first | assumption | (apply Ne.symm; assumption) | (exact hj _ _ (by omega) (by omega) (by omega)) | omega) ?_ | exact gt_nw (by assumption) | refine gt_odr (by first | assumption | (apply Ne.symm; assumption) | omega) ?_)
  rintro x M' ⟨hx, rfl⟩
  subst hx
  refine Ev.csI (Yc := mX0_keyOf) dX0_holdSlices_22 lX0_90 vX0_keyOf rfl a_keyOf rfl rfl rfl ?_
  rintro x M' ⟨hx, rfl⟩
  subst hx
  refine Ev.ild1 dX0_holdSlices_25 ?_
  refine Ev.ior dX0_holdSlices_26 ?_
  rw [show kyf (f (8 * k + 0)) (f (8 * k + 1)) (f (8 * k + 3)) ||| o = ky f k by rw [ho, ky]]
  refine Ev.ist4 dX0_holdSlices_27 rfl rfl ?_
  refine Ev.ald0 dX0_holdSlices_29 ?_
  refine Ev.ild2 dX0_holdSlices_30 ?_
  refine Ev.ild3 dX0_holdSlices_31 ?_
  refine Ev.iconst (v := 2) dX0_holdSlices_32 (by decide) ?_
  refine Ev.icmp_ne (tgt := 44) dX0_holdSlices_33 (by decide) (fun c33 => ?_) (fun c33 => ?_)
  · refine Ev.ild4 dX0_holdSlices_44 ?_
    first | exact J _ (by rw [if_neg c33]) | exact J _ (by rw [if_pos c33])
  · refine Ev.ild4 dX0_holdSlices_36 ?_
    refine Ev.bipush (v := 64) dX0_holdSlices_38 (by decide) ?_
    refine Ev.ior dX0_holdSlices_40 ?_
    refine Ev.goto (tgt := 46) dX0_holdSlices_41 (by decide) ?_
    first | exact J _ (by rw [if_neg c33]) | exact J _ (by rw [if_pos c33])
set_option maxRecDepth 20000 in
theorem a_holdTurn {o : Int32} (k : Nat) (ho : o = nI k) (hj : Inj ad) (hP : HP ad so z f i1 i2 i3 H M) (hF : Fr (hfr ad) M0 M) (hk : 8 * k + 7 < z) (hz : z ≤ 100000) (ht : H.2.2.2.2 < 41) : CtV G mX0_holdTurn [.ref (ad 3), .int o] M 0 0 (fun M' => HP ad so z f i1 i2 i3 (ht1 H f k) M' ∧ Fr (hfr ad) M0 M') := by
  have J : ∀ x : Int32, f (8 * k + 1) ≠ 0 → x = (if f (8 * k + 0) = 0 then f (8 * k + 3) + 1 else f (8 * k + 3)) → Ev G mX0_holdTurn 35 [some (.ref (ad 3)), some (.int o), none] [.int x] M 0 0 (fun v M' => v = none ∧ HP ad so z f i1 i2 i3 (ht1 H f k) M' ∧ Fr (hfr ad) M0 M') := by
    intro x h0 hx
    obtain ⟨p1, p2, p3, p4, p5, p6, p7⟩ := hP
    refine Ev.ist2 dX0_holdTurn_35 rfl rfl ?_
    refine Ev.ald0 dX0_holdTurn_36 ?_
    apply Ev.getf dX0_holdTurn_37 fX0_56
    · repeat (first | assumption | (refine gt_upI ?_; (repeat (first | refine In_up ?_ | refine In_nw ?_)); apply In_of; assumption) | refine gt_rd (by first | assumption | (apply Ne.symm; assumption) | (exact hj _ _ (by omega) (by omega) (by omega)) | omega) ?_ | exact gt_nw (by assumption) | refine gt_odr (by first | assumption | (apply Ne.symm; assumption) | omega) ?_)
    · first | rfl | assumption
    refine Ev.ald0 dX0_holdTurn_40 ?_
    apply Ev.getf dX0_holdTurn_41 fX0_59
    · repeat (first | assumption | (refine gt_upI ?_; (repeat (first | refine In_up ?_ | refine In_nw ?_)); apply In_of; assumption) | refine gt_rd (by first | assumption | (apply Ne.symm; assumption) | (exact hj _ _ (by omega) (by omega) (by omega)) | omega) ?_ | exact gt_nw (by assumption) | refine gt_odr (by first | assumption | (apply Ne.symm; assumption) | omega) ?_)
    · first | rfl | assumption
    refine Ev.ild2 dX0_holdTurn_44 ?_
    refine Ev.bipush (v := 6) dX0_holdTurn_45 (by decide) ?_
    refine Ev.ishl dX0_holdTurn_47 ?_
    refine Ev.ild1 dX0_holdTurn_48 ?_
    refine Ev.ior dX0_holdTurn_49 ?_
    refine Ev.csV (Yc := mX0_insert) dX0_holdTurn_50 lX0_100 vX0_insert rfl (a_insert (c := H.2.2.2.2) rfl p4 ht (by omega)) rfl rfl rfl ?_
    rintro M' rfl
    refine Ev.ald0 dX0_holdTurn_53 ?_
    refine Ev.dup dX0_holdTurn_54 rfl ?_
    apply Ev.getf dX0_holdTurn_55 fX0_59
    · repeat (first | assumption | (refine gt_upI ?_; (repeat (first | refine In_up ?_ | refine In_nw ?_)); apply In_of; assumption) | refine gt_rd (by first | assumption | (apply Ne.symm; assumption) | (exact hj _ _ (by omega) (by omega) (by omega)) | omega) ?_ | exact gt_nw (by assumption) | refine gt_odr (by first | assumption | (apply Ne.symm; assumption) | omega) ?_)
    · first | rfl | assumption
    refine Ev.iconst (v := 1) dX0_holdTurn_58 (by decide) ?_
    refine Ev.iadd dX0_holdTurn_59 ?_
    apply Ev.put dX0_holdTurn_60 fX0_59
    · repeat (first | assumption | (refine gt_upI ?_; (repeat (first | refine In_up ?_ | refine In_nw ?_)); apply In_of; assumption) | refine gt_rd (by first | assumption | (apply Ne.symm; assumption) | (exact hj _ _ (by omega) (by omega) (by omega)) | omega) ?_ | exact gt_nw (by assumption) | refine gt_odr (by first | assumption | (apply Ne.symm; assumption) | omega) ?_)
    · rfl
    · rfl
    · rfl
    refine Ev.vret dX0_holdTurn_63 rfl ?_
    have e : ht1 H f k = (H.1, H.2.1, H.2.2.1, insf H.2.2.2.1 H.2.2.2.2 ((x <<< ((6 : Int32) &&& 31)) ||| o), H.2.2.2.2 + 1) := by rw [ht1, if_neg h0, ho, hx]
    rw [e]
    refine ⟨rfl, ⟨?_, (by repeat (first | assumption | (refine gt_upI ?_; (repeat (first | refine In_up ?_ | refine In_nw ?_)); apply In_of; assumption) | refine gt_rd (by first | assumption | (apply Ne.symm; assumption) | (exact hj _ _ (by omega) (by omega) (by omega)) | omega) ?_ | exact gt_nw (by assumption) | refine gt_odr (by first | assumption | (apply Ne.symm; assumption) | omega) ?_)), (by repeat (first | assumption | (refine gt_upI ?_; (repeat (first | refine In_up ?_ | refine In_nw ?_)); apply In_of; assumption) | refine gt_rd (by first | assumption | (apply Ne.symm; assumption) | (exact hj _ _ (by omega) (by omega) (by omega)) | omega) ?_ | exact gt_nw (by assumption) | refine gt_odr (by first | assumption | (apply Ne.symm; assumption) | omega) ?_)), (by repeat (first | assumption | (refine gt_upI ?_; (repeat (first | refine In_up ?_ | refine In_nw ?_)); apply In_of; assumption) | refine gt_rd (by first | assumption | (apply Ne.symm; assumption) | (exact hj _ _ (by omega) (by omega) (by omega)) | omega) ?_ | exact gt_nw (by assumption) | refine gt_odr (by first | assumption | (apply Ne.symm; assumption) | omega) ?_)), (by repeat (first | assumption | (refine gt_upI ?_; (repeat (first | refine In_up ?_ | refine In_nw ?_)); apply In_of; assumption) | refine gt_rd (by first | assumption | (apply Ne.symm; assumption) | (exact hj _ _ (by omega) (by omega) (by omega)) | omega) ?_ | exact gt_nw (by assumption) | refine gt_odr (by first | assumption | (apply Ne.symm; assumption) | omega) ?_)), (by repeat (first | assumption | (refine gt_upI ?_; (repeat (first | refine In_up ?_ | refine In_nw ?_)); apply In_of; assumption) | refine gt_rd (by first | assumption | (apply Ne.symm; assumption) | (exact hj _ _ (by omega) (by omega) (by omega)) | omega) ?_ | exact gt_nw (by assumption) | refine gt_odr (by first | assumption | (apply Ne.symm; assumption) | omega) ?_)), (by repeat (first | assumption | (refine gt_upI ?_; (repeat (first | refine In_up ?_ | refine In_nw ?_)); apply In_of; assumption) | refine gt_rd (by first | assumption | (apply Ne.symm; assumption) | (exact hj _ _ (by omega) (by omega) (by omega)) | omega) ?_ | exact gt_nw (by assumption) | refine gt_odr (by first | assumption | (apply Ne.symm; assumption) | omega) ?_))⟩, (hF.pt (by simp [hfr])).pt (by simp [hfr])⟩
    rw [gt_upI (In_up (In_of p1))]
    show some (ob 0 [_, _, _, _, _, _, _, _, _, _, _, _, .int (nI H.2.2.2.2 + 1), _, _]) = _
    rw [nI_1]
  have p1 := hP.1
  have p7 := hP.2.2.2.2.2.2
  refine Ct.of (ls := [some (.ref (ad 3)), some (.int o), none]) (by decide) (by decide) rfl rfl rfl ?_
  refine Ev.ald0 dX0_holdTurn_0 ?_
  refine Ev.ild1 dX0_holdTurn_1 ?_
  refine Ev.iconst (v := 1) dX0_holdTurn_2 (by decide) ?_
  refine Ev.cvI (Yc := mX0_get) (ci := 0) dX0_holdTurn_3 lX0_86 vX0_get rfl (a_get k 1 ho rfl p1 rfl p7 (by omega) hz) ?_ rfl rfl rfl rfl ?_
  · apply Exists.intro; repeat (first | assumption | (refine gt_upI ?_; (repeat (first | refine In_up ?_ | refine In_nw ?_)); apply In_of; assumption) | refine gt_rd (by first | assumption | (apply Ne.symm; assumption) | (exact hj _ _ (by omega) (by omega) (by omega)) | omega) ?_ | exact gt_nw (by assumption) | refine gt_odr (by first | assumption | (apply Ne.symm; assumption) | omega) ?_)
  rintro x M' ⟨hx, rfl⟩
  subst hx
  refine Ev.if_eq (tgt := 63) dX0_holdTurn_6 (by decide) (fun c6 => ?_) (fun c6 => ?_)
  · refine Ev.vret dX0_holdTurn_63 rfl ?_
    refine ⟨rfl, ?_, hF⟩
    rw [ht1, if_pos c6]
    exact hP
  · refine Ev.ald0 dX0_holdTurn_9 ?_
    refine Ev.ild1 dX0_holdTurn_10 ?_
    refine Ev.iconst (v := 0) dX0_holdTurn_11 (by decide) ?_
    refine Ev.cvI (Yc := mX0_get) (ci := 0) dX0_holdTurn_12 lX0_86 vX0_get rfl (a_get k 0 ho rfl p1 rfl p7 (by omega) hz) ?_ rfl rfl rfl rfl ?_
    · apply Exists.intro; repeat (first | assumption | (refine gt_upI ?_; (repeat (first | refine In_up ?_ | refine In_nw ?_)); apply In_of; assumption) | refine gt_rd (by first | assumption | (apply Ne.symm; assumption) | (exact hj _ _ (by omega) (by omega) (by omega)) | omega) ?_ | exact gt_nw (by assumption) | refine gt_odr (by first | assumption | (apply Ne.symm; assumption) | omega) ?_)
    rintro x M' ⟨hx, rfl⟩
    subst hx
    refine Ev.if_ne (tgt := 29) dX0_holdTurn_15 (by decide) (fun c15 => ?_) (fun c15 => ?_)
    · refine Ev.ald0 dX0_holdTurn_29 ?_
      refine Ev.ild1 dX0_holdTurn_30 ?_
      refine Ev.iconst (v := 3) dX0_holdTurn_31 (by decide) ?_
      refine Ev.cvI (Yc := mX0_get) (ci := 0) dX0_holdTurn_32 lX0_86 vX0_get rfl (a_get k 3 ho rfl p1 rfl p7 (by omega) hz) ?_ rfl rfl rfl rfl ?_
      · apply Exists.intro; repeat (first | assumption | (refine gt_upI ?_; (repeat (first | refine In_up ?_ | refine In_nw ?_)); apply In_of; assumption) | refine gt_rd (by first | assumption | (apply Ne.symm; assumption) | (exact hj _ _ (by omega) (by omega) (by omega)) | omega) ?_ | exact gt_nw (by assumption) | refine gt_odr (by first | assumption | (apply Ne.symm; assumption) | omega) ?_)
      rintro x M' ⟨hx, rfl⟩
      subst hx
      first | exact J _ c6 (by rw [if_neg c15]) | exact J _ c6 (by rw [if_pos c15])
    · refine Ev.ald0 dX0_holdTurn_18 ?_
      refine Ev.ild1 dX0_holdTurn_19 ?_
      refine Ev.iconst (v := 3) dX0_holdTurn_20 (by decide) ?_
      refine Ev.cvI (Yc := mX0_get) (ci := 0) dX0_holdTurn_21 lX0_86 vX0_get rfl (a_get k 3 ho rfl p1 rfl p7 (by omega) hz) ?_ rfl rfl rfl rfl ?_
      · apply Exists.intro; repeat (first | assumption | (refine gt_upI ?_; (repeat (first | refine In_up ?_ | refine In_nw ?_)); apply In_of; assumption) | refine gt_rd (by first | assumption | (apply Ne.symm; assumption) | (exact hj _ _ (by omega) (by omega) (by omega)) | omega) ?_ | exact gt_nw (by assumption) | refine gt_odr (by first | assumption | (apply Ne.symm; assumption) | omega) ?_)
      rintro x M' ⟨hx, rfl⟩
      subst hx
      refine Ev.iconst (v := 1) dX0_holdTurn_24 (by decide) ?_
      refine Ev.iadd dX0_holdTurn_25 ?_
      refine Ev.goto (tgt := 35) dX0_holdTurn_26 (by decide) ?_
      first | exact J _ c6 (by rw [if_neg c15]) | exact J _ c6 (by rw [if_pos c15])
theorem hs2_cnt {H : Hs} {f : Nat → Int32} {k a b : Nat} (ha : H.2.2.1 0 = nI a) (hb : H.2.2.1 1 = nI b) : ∃ a2 b2 : Nat, (hs2 H f k).2.2.1 0 = nI a2 ∧ (hs2 H f k).2.2.1 1 = nI b2 ∧ a2 ≤ a + 2 ∧ b2 ≤ b + 2 ∧ (hs2 H f k).2.2.2.2 = H.2.2.2.2 := by
  rw [hs2]
  split
  · obtain ⟨a2, b2, h1, h2, h3, h4, h5⟩ := hs1_cnt (key := ky f k) (sd := f (8 * k + 0)) ha hb
    obtain ⟨a3, b3, g1, g2, g3, g4, g5⟩ := hs1_cnt (key := ky f k ||| 64) (sd := f (8 * k + 0)) h1 h2
    exact ⟨a3, b3, g1, g2, by omega, by omega, g5.trans h5⟩
  · obtain ⟨a2, b2, h1, h2, h3, h4, h5⟩ := hs1_cnt (key := (if f (8 * k + 1) = 2 then ky f k ||| 64 else ky f k)) (sd := f (8 * k + 0)) ha hb
    exact ⟨a2, b2, h1, h2, by omega, by omega, h5⟩
theorem ht1_cnt {H : Hs} {f : Nat → Int32} {k : Nat} : (ht1 H f k).2.2.1 = H.2.2.1 ∧ (ht1 H f k).2.2.2.2 ≤ H.2.2.2.2 + 1 := by
  rw [ht1]
  split
  · exact ⟨rfl, by omega⟩
  · exact ⟨rfl, Nat.le_refl _⟩
theorem hld_ok {f : Nat → Int32} {H0 : Hs} (k : Nat) : hok (hld f H0 k) k := by
  induction k with
  | zero => exact ⟨0, 0, rfl, rfl, by omega, by omega, Nat.le_refl _⟩
  | succ k ih =>
    obtain ⟨a, b, ha, hb, la, lb, lt⟩ := ih
    rw [hld]
    split
    · obtain ⟨a2, b2, h1, h2, h3, h4, h5⟩ := hs2_cnt (f := f) (k := k) ha hb
      have h6 := ht1_cnt (H := hs2 (hld f H0 k) f k) (f := f) (k := k)
      refine ⟨a2, b2, ?_, ?_, by omega, by omega, by omega⟩
      · rw [h6.1]; exact h1
      · rw [h6.1]; exact h2
    · exact ⟨a, b, ha, hb, by omega, by omega, by omega⟩
set_option maxRecDepth 20000 in
theorem a_hold {t0 r0 n r w : Nat} {ph rf lo hi i4 : Int32} {c0 u0 s00 s10 : Nat → Int32} (hj : Inj ad) (s0 : so 0 = some (ad 15)) (s1 : so 1 = some (ad 16))
    (hA : gt M (ad 3) = some (ob 0 [.ref (ad 0), .ref (ad 1), .ref (ad 2), .int i1, .int i2, .int i3, .ref (ad 6), .ref (ad 7), .ref (ad 8), .ref (ad 9), .ref (ad 10), .ref (ad 11), .int i4, .ref t0, .ref r0]))
    (h8 : gt M (ad 8) = some (ra 4 2 so)) (h10 : gt M (ad 10) = some (ia 0 2 c0)) (h11 : gt M (ad 11) = some (ia 0 41 u0)) (h15 : gt M (ad 15) = some (ia 0 82 s00)) (h16 : gt M (ad 16) = some (ia 0 82 s10)) (h14 : gt M (ad 14) = some (ia 0 z f)) (h13 : gt M (ad 13) = some (bk r w n ph rf lo hi)) (hn : n ≤ 41) (hz : 8 * n ≤ z) (hz2 : z ≤ 100000) (hsd : ∀ k, k < n → f (8 * k + 0) = 0 ∨ f (8 * k + 0) = 1) : CtV G mX0_hold [.ref (ad 3), .ref (ad 13), .ref (ad 14)] M 0 0 (fun M' => HP ad so z f i1 i2 i3 (hld f (s00, s10, c0, u0, 0) n) M' ∧ Fr (hfr ad) M M') := by
  have L : ∀ d k M1, k + d = n → HP ad so z f i1 i2 i3 (hld f (s00, s10, c0, u0, 0) k) M1 → Fr (hfr ad) M M1 → Ev G mX0_hold 31 [some (.ref (ad 3)), some (.ref (ad 13)), some (.ref (ad 14)), some (.int (nI k))] [] M1 0 0 (fun v M' => v = none ∧ HP ad so z f i1 i2 i3 (hld f (s00, s10, c0, u0, 0) n) M' ∧ Fr (hfr ad) M M') := by
    intro d
    induction d with
    | zero =>
      intro k M1 hk hP hF
      have g13 : gt M1 (ad 13) = some (bk r w n ph rf lo hi) := hF.rd (by simp [hfr, hj _ _]) h13
      refine Ev.ild3 dX0_hold_31 ?_
      refine Ev.ald1 dX0_hold_32 ?_
      apply Ev.getf dX0_hold_33 fX0_72
      · repeat (first | assumption | (refine gt_upI ?_; (repeat (first | refine In_up ?_ | refine In_nw ?_)); apply In_of; assumption) | refine gt_rd (by first | assumption | (apply Ne.symm; assumption) | (exact hj _ _ (by omega) (by omega) (by omega)) | omega) ?_ | exact gt_nw (by assumption) | refine gt_odr (by first | assumption | (apply Ne.symm; assumption) | omega) ?_)
      · first | rfl | assumption
      refine Ev.icmp_ge (tgt := 63) dX0_hold_36 (by decide) (fun c9 => ?_) (fun c9 => absurd (nI_le (by omega) (by omega)) c9)
      refine Ev.vret dX0_hold_63 rfl ?_
      exact ⟨rfl, by rw [show n = k by omega]; exact hP, hF⟩
    | succ d ih =>
      intro k M1 hk hP hF
      have g13 : gt M1 (ad 13) = some (bk r w n ph rf lo hi) := hF.rd (by simp [hfr, hj _ _]) h13
      obtain ⟨a, b, ha, hb, la, lb, lt⟩ := hld_ok (f := f) (H0 := (s00, s10, c0, u0, 0)) k
      have p1 := hP.1
      have p7 := hP.2.2.2.2.2.2
      refine Ev.ild3 dX0_hold_31 ?_
      refine Ev.ald1 dX0_hold_32 ?_
      apply Ev.getf dX0_hold_33 fX0_72
      · repeat (first | assumption | (refine gt_upI ?_; (repeat (first | refine In_up ?_ | refine In_nw ?_)); apply In_of; assumption) | refine gt_rd (by first | assumption | (apply Ne.symm; assumption) | (exact hj _ _ (by omega) (by omega) (by omega)) | omega) ?_ | exact gt_nw (by assumption) | refine gt_odr (by first | assumption | (apply Ne.symm; assumption) | omega) ?_)
      · first | rfl | assumption
      refine Ev.icmp_ge (tgt := 63) dX0_hold_36 (by decide) (fun c9 => absurd c9 (nI_ge (by omega) (by omega))) (fun c9 => ?_)
      refine Ev.ald0 dX0_hold_39 ?_
      refine Ev.ild3 dX0_hold_40 ?_
      refine Ev.cvI (Yc := mX0_isGone) (ci := 0) dX0_hold_41 lX0_75 vX0_isGone rfl (a_isGone k rfl p1 rfl p7 (by omega) hz2) ?_ rfl rfl rfl rfl ?_
      · apply Exists.intro; repeat (first | assumption | (refine gt_upI ?_; (repeat (first | refine In_up ?_ | refine In_nw ?_)); apply In_of; assumption) | refine gt_rd (by first | assumption | (apply Ne.symm; assumption) | (exact hj _ _ (by omega) (by omega) (by omega)) | omega) ?_ | exact gt_nw (by assumption) | refine gt_odr (by first | assumption | (apply Ne.symm; assumption) | omega) ?_)
      rintro x M' ⟨hx, rfl⟩
      refine Ev.if_ne (tgt := 57) dX0_hold_44 (by decide) (fun c44 => ?_) (fun c44 => ?_)
      · have h7 : ¬ f (8 * k + 7) = 0 := by grind
        apply Ev.iinc3 dX0_hold_57 rfl rfl
        · first | exact nI_inc _ | rfl
        refine Ev.goto (tgt := 31) dX0_hold_60 (by decide) ?_
        exact ih (k + 1) _ (by omega) (by rw [hld, if_neg h7]; exact hP) hF
      · have h7 : f (8 * k + 7) = 0 := by grind
        obtain ⟨a2, b2, g1, g2, g3, g4, g5⟩ := hs2_cnt (f := f) (k := k) ha hb
        refine Ev.ald0 dX0_hold_47 ?_
        refine Ev.ild3 dX0_hold_48 ?_
        refine Ev.cvV (Yc := mX0_holdSlices) (ci := 0) dX0_hold_49 lX0_79 vX0_holdSlices rfl (a_holdSlices k rfl hj s0 s1 hP hF (hsd k (by omega)) (by omega) hz2 ha hb (by omega) (by omega)) ?_ rfl rfl rfl rfl ?_
        · apply Exists.intro; repeat (first | assumption | (refine gt_upI ?_; (repeat (first | refine In_up ?_ | refine In_nw ?_)); apply In_of; assumption) | refine gt_rd (by first | assumption | (apply Ne.symm; assumption) | (exact hj _ _ (by omega) (by omega) (by omega)) | omega) ?_ | exact gt_nw (by assumption) | refine gt_odr (by first | assumption | (apply Ne.symm; assumption) | omega) ?_)
        rintro M2 ⟨hP2, hF2⟩
        have q1 := hP2.1
        refine Ev.ald0 dX0_hold_52 ?_
        refine Ev.ild3 dX0_hold_53 ?_
        refine Ev.cvV (Yc := mX0_holdTurn) (ci := 0) dX0_hold_54 lX0_83 vX0_holdTurn rfl (a_holdTurn k rfl hj hP2 hF2 (by omega) hz2 (by omega)) ?_ rfl rfl rfl rfl ?_
        · apply Exists.intro; repeat (first | assumption | (refine gt_upI ?_; (repeat (first | refine In_up ?_ | refine In_nw ?_)); apply In_of; assumption) | refine gt_rd (by first | assumption | (apply Ne.symm; assumption) | (exact hj _ _ (by omega) (by omega) (by omega)) | omega) ?_ | exact gt_nw (by assumption) | refine gt_odr (by first | assumption | (apply Ne.symm; assumption) | omega) ?_)
        rintro M3 ⟨hP3, hF3⟩
        apply Ev.iinc3 dX0_hold_57 rfl rfl
        · first | exact nI_inc _ | rfl
        refine Ev.goto (tgt := 31) dX0_hold_60 (by decide) ?_
        exact ih (k + 1) _ (by omega) (by rw [hld, if_pos h7]; exact hP3) hF3
  have b0 : vp_in (0 : Int32) 2 := by unfold vp_in; decide
  have b1 : vp_in (1 : Int32) 2 := by unfold vp_in; decide
  refine Ct.of (ls := [some (.ref (ad 3)), some (.ref (ad 13)), some (.ref (ad 14)), none]) (by decide) (by decide) rfl rfl rfl ?_
  refine Ev.ald0 dX0_hold_0 ?_
  refine Ev.ald1 dX0_hold_1 ?_
  apply Ev.put dX0_hold_2 fX0_62
  · repeat (first | assumption | (refine gt_upI ?_; (repeat (first | refine In_up ?_ | refine In_nw ?_)); apply In_of; assumption) | refine gt_rd (by first | assumption | (apply Ne.symm; assumption) | (exact hj _ _ (by omega) (by omega) (by omega)) | omega) ?_ | exact gt_nw (by assumption) | refine gt_odr (by first | assumption | (apply Ne.symm; assumption) | omega) ?_)
  · rfl
  · rfl
  · rfl
  refine Ev.ald0 dX0_hold_5 ?_
  refine Ev.ald2 dX0_hold_6 ?_
  apply Ev.put dX0_hold_7 fX0_71
  · repeat (first | assumption | (refine gt_upI ?_; (repeat (first | refine In_up ?_ | refine In_nw ?_)); apply In_of; assumption) | refine gt_rd (by first | assumption | (apply Ne.symm; assumption) | (exact hj _ _ (by omega) (by omega) (by omega)) | omega) ?_ | exact gt_nw (by assumption) | refine gt_odr (by first | assumption | (apply Ne.symm; assumption) | omega) ?_)
  · rfl
  · rfl
  · rfl
  refine Ev.ald0 dX0_hold_10 ?_
  apply Ev.getf dX0_hold_11 fX0_53
  · repeat (first | assumption | (refine gt_upI ?_; (repeat (first | refine In_up ?_ | refine In_nw ?_)); apply In_of; assumption) | refine gt_rd (by first | assumption | (apply Ne.symm; assumption) | (exact hj _ _ (by omega) (by omega) (by omega)) | omega) ?_ | exact gt_nw (by assumption) | refine gt_odr (by first | assumption | (apply Ne.symm; assumption) | omega) ?_)
  · first | rfl | assumption
  refine Ev.iconst (v := 0) dX0_hold_14 (by decide) ?_
  refine Ev.iconst (v := 0) dX0_hold_15 (by decide) ?_
  apply Ev.iast dX0_hold_16
  · repeat (first | assumption | (refine gt_upI ?_; (repeat (first | refine In_up ?_ | refine In_nw ?_)); apply In_of; assumption) | refine gt_rd (by first | assumption | (apply Ne.symm; assumption) | (exact hj _ _ (by omega) (by omega) (by omega)) | omega) ?_ | exact gt_nw (by assumption) | refine gt_odr (by first | assumption | (apply Ne.symm; assumption) | omega) ?_)
  · assumption
  refine Ev.ald0 dX0_hold_17 ?_
  apply Ev.getf dX0_hold_18 fX0_53
  · repeat (first | assumption | (refine gt_upI ?_; (repeat (first | refine In_up ?_ | refine In_nw ?_)); apply In_of; assumption) | refine gt_rd (by first | assumption | (apply Ne.symm; assumption) | (exact hj _ _ (by omega) (by omega) (by omega)) | omega) ?_ | exact gt_nw (by assumption) | refine gt_odr (by first | assumption | (apply Ne.symm; assumption) | omega) ?_)
  · first | rfl | assumption
  refine Ev.iconst (v := 1) dX0_hold_21 (by decide) ?_
  refine Ev.iconst (v := 0) dX0_hold_22 (by decide) ?_
  apply Ev.iast dX0_hold_23
  · repeat (first | assumption | (refine gt_upI ?_; (repeat (first | refine In_up ?_ | refine In_nw ?_)); apply In_of; assumption) | refine gt_rd (by first | assumption | (apply Ne.symm; assumption) | (exact hj _ _ (by omega) (by omega) (by omega)) | omega) ?_ | exact gt_nw (by assumption) | refine gt_odr (by first | assumption | (apply Ne.symm; assumption) | omega) ?_)
  · assumption
  refine Ev.ald0 dX0_hold_24 ?_
  refine Ev.iconst (v := 0) dX0_hold_25 (by decide) ?_
  apply Ev.put dX0_hold_26 fX0_59
  · repeat (first | assumption | (refine gt_upI ?_; (repeat (first | refine In_up ?_ | refine In_nw ?_)); apply In_of; assumption) | refine gt_rd (by first | assumption | (apply Ne.symm; assumption) | (exact hj _ _ (by omega) (by omega) (by omega)) | omega) ?_ | exact gt_nw (by assumption) | refine gt_odr (by first | assumption | (apply Ne.symm; assumption) | omega) ?_)
  · rfl
  · rfl
  · rfl
  refine Ev.iconst (v := 0) dX0_hold_29 (by decide) ?_
  refine Ev.ist3 dX0_hold_30 rfl rfl ?_
  refine L n 0 _ (by omega) ⟨?_, (by repeat (first | assumption | (refine gt_upI ?_; (repeat (first | refine In_up ?_ | refine In_nw ?_)); apply In_of; assumption) | refine gt_rd (by first | assumption | (apply Ne.symm; assumption) | (exact hj _ _ (by omega) (by omega) (by omega)) | omega) ?_ | exact gt_nw (by assumption) | refine gt_odr (by first | assumption | (apply Ne.symm; assumption) | omega) ?_)), ?_, (by repeat (first | assumption | (refine gt_upI ?_; (repeat (first | refine In_up ?_ | refine In_nw ?_)); apply In_of; assumption) | refine gt_rd (by first | assumption | (apply Ne.symm; assumption) | (exact hj _ _ (by omega) (by omega) (by omega)) | omega) ?_ | exact gt_nw (by assumption) | refine gt_odr (by first | assumption | (apply Ne.symm; assumption) | omega) ?_)), (by repeat (first | assumption | (refine gt_upI ?_; (repeat (first | refine In_up ?_ | refine In_nw ?_)); apply In_of; assumption) | refine gt_rd (by first | assumption | (apply Ne.symm; assumption) | (exact hj _ _ (by omega) (by omega) (by omega)) | omega) ?_ | exact gt_nw (by assumption) | refine gt_odr (by first | assumption | (apply Ne.symm; assumption) | omega) ?_)), (by repeat (first | assumption | (refine gt_upI ?_; (repeat (first | refine In_up ?_ | refine In_nw ?_)); apply In_of; assumption) | refine gt_rd (by first | assumption | (apply Ne.symm; assumption) | (exact hj _ _ (by omega) (by omega) (by omega)) | omega) ?_ | exact gt_nw (by assumption) | refine gt_odr (by first | assumption | (apply Ne.symm; assumption) | omega) ?_)), (by repeat (first | assumption | (refine gt_upI ?_; (repeat (first | refine In_up ?_ | refine In_nw ?_)); apply In_of; assumption) | refine gt_rd (by first | assumption | (apply Ne.symm; assumption) | (exact hj _ _ (by omega) (by omega) (by omega)) | omega) ?_ | exact gt_nw (by assumption) | refine gt_odr (by first | assumption | (apply Ne.symm; assumption) | omega) ?_))⟩ ?_
  · rw [gt_upI (by (repeat (first | refine In_up ?_ | refine In_nw ?_)); apply In_of; assumption)]
    rfl
  · rw [gt_ne (hj _ _ (by decide) (by decide) (by decide)), gt_upI (by (repeat (first | refine In_up ?_ | refine In_nw ?_)); apply In_of; assumption)]
    rfl
  · exact ((((Fr.rf.pt (by simp [hfr])).pt (by simp [hfr])).pt (by simp [hfr])).pt (by simp [hfr])).pt (by simp [hfr])
end AUC
