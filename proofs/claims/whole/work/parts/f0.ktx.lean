/-! text -/
def qx (q : Nat → Nat) : Nat → Nat := fun i => if i < 40 then q i else if i < 43 then q (i + 3) else if i < 46 then q (i - 3) else q i
theorem qx_at {q : Nat → Nat} {i : Nat} (hi : i < 82) : ∃ c, qx q i = q c ∧ c < 82 ∧ (i < 40 ∧ c = i ∨ 40 ≤ i ∧ i < 43 ∧ c = i + 3 ∨ 43 ≤ i ∧ i < 46 ∧ c = i - 3 ∨ 46 ≤ i ∧ c = i) := by
  rw [qx]
  by_cases h1 : i < 40
  · rw [if_pos h1]; exact ⟨i, rfl, hi, by omega⟩
  · rw [if_neg h1]
    by_cases h2 : i < 43
    · rw [if_pos h2]; exact ⟨_, rfl, by omega, by omega⟩
    · rw [if_neg h2]
      by_cases h3 : i < 46
      · rw [if_pos h3]; exact ⟨_, rfl, by omega, by omega⟩
      · rw [if_neg h3]; exact ⟨i, rfl, hi, by omega⟩
theorem qx_sq {q : Nat → Nat} : SQ q (qx q) := ⟨rfl, fun i hi => by
  obtain ⟨c, h1, h2, -⟩ := qx_at (q := q) hi
  exact ⟨c, h2, h1⟩⟩
theorem qx_inj {q : Nat → Nat} (hj : InjQ q) : InjQ (qx q) := by
  intro i j hi hj2 hne
  obtain ⟨c, c1, c2, c3⟩ := qx_at (q := q) hi
  obtain ⟨d, d1, d2, d3⟩ := qx_at (q := q) hj2
  rw [c1, d1]
  exact hj c d c2 d2 (by omega)
theorem qx_o {q : Nat → Nat} {i : Nat} (h : 46 ≤ i) : qx q i = q i := by rw [qx, if_neg (by omega), if_neg (by omega), if_neg (by omega)]
theorem txb_at {s : Ps} : bn (txb s) = (nI s.2.2.1).toNatClampNeg ∧ txb s 328 = nI s.2.2.1 ∧ txb s 329 = 0 ∧ txb s 330 = rfv s ∧ txb s 331 = lov s ∧ txb s 332 = hiv s ∧ ∀ j, j < 328 → txb s j = s.2.1 j := by
  have e8 : txb s 328 = nI s.2.2.1 := by rw [txb, pk_un (by decide), pk_un (by decide), pk_un (by decide), pk_un (by decide), pk_us]
  refine ⟨by rw [bn, e8], e8, ?_, ?_, ?_, ?_, fun j hj => ?_⟩
  · rw [txb, pk_un (by decide), pk_un (by decide), pk_un (by decide), pk_us]
  · rw [txb, pk_un (by decide), pk_un (by decide), pk_us]; rfl
  · rw [txb, pk_un (by decide), pk_us]; rfl
  · rw [txb, pk_us]; rfl
  · rw [txb, pk_un (by omega), pk_un (by omega), pk_un (by omega), pk_un (by omega), pk_un (by omega)]
section KTX
variable {G : GP} {M : Wd} {q : Nat → Nat} {na : Nat} {S : Sg}
set_option maxRecDepth 20000 in
theorem k_text {x : Int32} (hC : CR q na S M) (hS : Sok S) (hb : Tby S) : CtI G mX5_text [.ref (q 0), .int x] M 0 0 (fun y M' => y = (sp_text S x).1 ∧ KR q (sp_text S x).2 M M') := by
  have hC0 := hC
  obtain ⟨⟨hj, hna⟩, h0, ⟨⟨e, ht⟩, ⟨t, hbb, hbt⟩, g, h4, h5⟩, h2, hA, h3, n9, ph, rf, lo, hi, f2, g2, d43, d44, d45⟩ := hC
  have hz := hS.2.2.2
  have no : ∀ a2 a3, ¬ (0 ≤ x ∧ x ≤ nI S.2.2.2.1) → Ev G mX5_text 15 [some (.ref (q 0)), some (.int x), a2, a3] [] M 0 0 (fun v M' => ∃ y : Int32, v = some (.int y) ∧ y = (sp_text S x).1 ∧ KR q (sp_text S x).2 M M') := by
    intro a2 a3 hno
    refine Ev.iconst (v := -1) dX5_text_15 (by decide) ?_
    refine Ev.iret dX5_text_16 rfl rfl ?_
    rw [sp_text, if_neg hno]
    exact ⟨_, rfl, rfl, q, na, hC0, SQ.rf, Fr.rf⟩
  refine Ct.of (ls := [some (.ref (q 0)), some (.int x), none, none]) (by decide) (by decide) rfl rfl rfl ?_
  refine Ev.ild1 dX5_text_0 ?_
  refine Ev.if_lt (tgt := 15) dX5_text_1 (by decide) (fun c1 => ?_) (fun c1 => ?_)
  · exact no _ _ (fun z => absurd c1 (Int32.not_lt.mpr z.1))
  · refine Ev.ild1 dX5_text_4 ?_
    refine Ev.ald0 dX5_text_5 ?_
    apply Ev.getf dX5_text_6 fX5_12
    · repeat (first | assumption | (refine gt_upI ?_; (repeat (first | exact In_of (gt_nw (by assumption)) | (apply In_of; assumption) | refine In_up ?_ | refine In_nw ?_)); done) | refine gt_rd (by first | assumption | (apply Ne.symm; assumption) | (exact hj _ _ (by omega) (by omega) (by omega)) | omega) ?_ | exact gt_nw (by assumption) | refine gt_odr (by first | assumption | (apply Ne.symm; assumption) | omega) ?_)
    · first | rfl | assumption
    apply Ev.getf dX5_text_9 fX5_61
    · repeat (first | assumption | (refine gt_upI ?_; (repeat (first | exact In_of (gt_nw (by assumption)) | (apply In_of; assumption) | refine In_up ?_ | refine In_nw ?_)); done) | refine gt_rd (by first | assumption | (apply Ne.symm; assumption) | (exact hj _ _ (by omega) (by omega) (by omega)) | omega) ?_ | exact gt_nw (by assumption) | refine gt_odr (by first | assumption | (apply Ne.symm; assumption) | omega) ?_)
    · first | rfl | assumption
    refine Ev.icmp_le (tgt := 17) dX5_text_12 (by decide) (fun c12 => ?_) (fun c12 => ?_)
    · have x0 : 0 ≤ x := Int32.not_lt.mp c1
      obtain ⟨n, hn, rfl⟩ : ∃ n, n ≤ S.2.2.2.1 ∧ x = nI n := int_le (by omega) x0 c12
      have ecl : (nI n).toNatClampNeg = n := nI_clamp (by omega)
      rw [sp_text, if_pos ⟨x0, c12⟩, ecl]
      refine Ev.ald0 dX5_text_17 ?_
      apply Ev.getf dX5_text_18 fX5_23
      · repeat (first | assumption | (refine gt_upI ?_; (repeat (first | exact In_of (gt_nw (by assumption)) | (apply In_of; assumption) | refine In_up ?_ | refine In_nw ?_)); done) | refine gt_rd (by first | assumption | (apply Ne.symm; assumption) | (exact hj _ _ (by omega) (by omega) (by omega)) | omega) ?_ | exact gt_nw (by assumption) | refine gt_odr (by first | assumption | (apply Ne.symm; assumption) | omega) ?_)
      · first | rfl | assumption
      refine Ev.cvV (Yc := mX2_reset) (ci := 2) dX5_text_21 lX5_64 vX2_reset rfl (c_X2_reset d43) ?_ rfl rfl rfl rfl ?_
      · apply Exists.intro; repeat (first | assumption | (refine gt_upI ?_; (repeat (first | exact In_of (gt_nw (by assumption)) | (apply In_of; assumption) | refine In_up ?_ | refine In_nw ?_)); done) | refine gt_rd (by first | assumption | (apply Ne.symm; assumption) | (exact hj _ _ (by omega) (by omega) (by omega)) | omega) ?_ | exact gt_nw (by assumption) | refine gt_odr (by first | assumption | (apply Ne.symm; assumption) | omega) ?_)
      rintro M1 rfl
      have k0 : gt (up M (q 43) (ob 2 [.ref (q 44), .ref (q 45), .int 0, .int 0, .int 100, .int 1, .int 999])) (q 0) = some (oco q na S.2.1.length S.2.2.2.2.2) := gt_rd (hj _ _ (by decide) (by decide) (by decide)) h0
      have k1 : gt (up M (q 43) (ob 2 [.ref (q 44), .ref (q 45), .int 0, .int 0, .int 100, .int 1, .int 999])) (q 1) = some (tpo (q 2) (nI S.2.2.2.1) e) := gt_rd (hj _ _ (by decide) (by decide) (by decide)) ht
      have k43 : gt (up M (q 43) (ob 2 [.ref (q 44), .ref (q 45), .int 0, .int 0, .int 100, .int 1, .int 999])) (q 43) = some (bk (q 44) (q 45) 0 0 100 1 999) := gt_up d43
      have k44 : gt (up M (q 43) (ob 2 [.ref (q 44), .ref (q 45), .int 0, .int 0, .int 100, .int 1, .int 999])) (q 44) = some (ia 0 328 f2) := gt_rd (hj _ _ (by decide) (by decide) (by decide)) d44
      have k45 : gt (up M (q 43) (ob 2 [.ref (q 44), .ref (q 45), .int 0, .int 0, .int 100, .int 1, .int 999])) (q 45) = some (ia 0 320 g2) := gt_rd (hj _ _ (by decide) (by decide) (by decide)) d45
      have hF1 : Fr ([43, 44, 45].map q) M (up M (q 43) (ob 2 [.ref (q 44), .ref (q 45), .int 0, .int 0, .int 100, .int 1, .int 999])) := Fr.rf.pt (by simp)
      have hH : HCt (q 1) (q 2) (q 43) (q 44) n (cdt S.2.2.1) t (up M (q 43) (ob 2 [.ref (q 44), .ref (q 45), .int 0, .int 0, .int 100, .int 1, .int 999])) := ⟨⟨hj _ _ (by decide) (by decide) (by decide), hj _ _ (by decide) (by decide) (by decide), hj _ _ (by decide) (by decide) (by decide), hj _ _ (by decide) (by decide) (by decide), hj _ _ (by decide) (by decide) (by decide), hj _ _ (by decide) (by decide) (by decide)⟩, by omega, gt_rd (hj _ _ (by decide) (by decide) (by decide)) hbb, fun j hj9 => by
        obtain ⟨b1, b2, b3, b4⟩ := hb j (by omega)
        rw [hbt j (by omega)]
        exact ⟨b2, b3, b4⟩⟩
      generalize up M (q 43) (ob 2 [.ref (q 44), .ref (q 45), .int 0, .int 0, .int 100, .int 1, .int 999]) = X at *
      refine Ev.ald0 dX5_text_24 ?_
      apply Ev.getf dX5_text_25 fX5_12
      · repeat (first | assumption | (refine gt_upI ?_; (repeat (first | exact In_of (gt_nw (by assumption)) | (apply In_of; assumption) | refine In_up ?_ | refine In_nw ?_)); done) | refine gt_rd (by first | assumption | (apply Ne.symm; assumption) | (exact hj _ _ (by omega) (by omega) (by omega)) | omega) ?_ | exact gt_nw (by assumption) | refine gt_odr (by first | assumption | (apply Ne.symm; assumption) | omega) ?_)
      · first | rfl | assumption
      refine Ev.ild1 dX5_text_28 ?_
      refine Ev.ald0 dX5_text_29 ?_
      apply Ev.getf dX5_text_30 fX5_23
      · repeat (first | assumption | (refine gt_upI ?_; (repeat (first | exact In_of (gt_nw (by assumption)) | (apply In_of; assumption) | refine In_up ?_ | refine In_nw ?_)); done) | refine gt_rd (by first | assumption | (apply Ne.symm; assumption) | (exact hj _ _ (by omega) (by omega) (by omega)) | omega) ?_ | exact gt_nw (by assumption) | refine gt_odr (by first | assumption | (apply Ne.symm; assumption) | omega) ?_)
      · first | rfl | assumption
      refine Ev.cvI (Yc := mX4_read) (ci := 4) dX5_text_33 lX5_67 vX4_read rfl (t_read (w := q 45) hH k1 hn hz k43 k44) ?_ rfl rfl rfl rfl ?_
      · apply Exists.intro; repeat (first | assumption | (refine gt_upI ?_; (repeat (first | exact In_of (gt_nw (by assumption)) | (apply In_of; assumption) | refine In_up ?_ | refine In_nw ?_)); done) | refine gt_rd (by first | assumption | (apply Ne.symm; assumption) | (exact hj _ _ (by omega) (by omega) (by omega)) | omega) ?_ | exact gt_nw (by assumption) | refine gt_odr (by first | assumption | (apply Ne.symm; assumption) | omega) ?_)
      rintro y M2 hR
      have N : ∀ i, i < 82 → i ∉ [1, 43, 44] → q i ∉ [1, 43, 44].map q := fun i h1 h2 => ninQ hj h1 (by decide) h2
      have N3 : ∀ i, i < 82 → i ∉ [43, 44, 45] → q i ∉ [43, 44, 45].map q := fun i h1 h2 => ninQ hj h1 (by decide) h2
      cases hp : prs0 (cdt S.2.2.1) n (fun _ => 0) with
      | inl F =>
        rw [hp] at hR
        obtain ⟨rfl, b1, b2, hF2, p, v, hr, hc, hpn, hA2, N9, p9, r9, l9, i9, f9, u1, u2⟩ := hR
        have hF2' : Fr ([1, 43, 44].map q) X M2 := hF2
        have l0 := hF2'.rd (N 0 (by decide) (by decide)) k0
        refine Ev.ist2 dX5_text_36 rfl rfl ?_
        refine Ev.ild2 dX5_text_37 ?_
        refine Ev.if_eq (tgt := 46) dX5_text_38 (by decide) (fun c9 => absurd ((nI_eq (b := 0) (by omega) (by omega)).mp c9) b1) (fun _ => ?_)
        refine Ev.bipush (v := -2) dX5_text_41 (by decide) ?_
        refine Ev.ild2 dX5_text_43 ?_
        refine Ev.isub dX5_text_44 ?_
        refine Ev.iret dX5_text_45 rfl rfl ?_
        have hFq : Fr (qfr q) M M2 := (hF1.q (by decide)).tr (hF2'.q (by decide))
        have R : ∀ {i : Nat} {en : En}, i < 82 → i ∉ [1, 43, 44, 45] → gt M (q i) = some en → gt M2 (q i) = some en := fun hi hn k => hF2'.rd (N _ hi (fun z => hn (by simp at z ⊢; omega))) (hF1.rd (N3 _ hi (fun z => hn (by simp at z ⊢; omega))) k)
        refine ⟨_, rfl, rfl, q, na, ⟨⟨hj, hna⟩, l0, ⟨⟨fun i => if i = 0 then nI n else if i = 1 then nI (tkA (cdt S.2.2.1) n p) else if i = 2 then nI (xtE (cdt S.2.2.1) n p) else if i = 3 then nI (tkT (cdt S.2.2.1) n p) else if i = 4 then v else if i = 5 then nI F else if i = 6 then hr else hc, hA2⟩, ⟨t, R (by decide) (by decide) hbb, fun j hj9 => absurd hj9 (Nat.not_lt_zero _)⟩, g, R (by decide) (by decide) h4, h5⟩, ?_, ?_, ?_, ?_⟩, SQ.rf, hFq⟩
        · exact CRb.fr (q := q) (na := na) (S := S) (CRb.fr (q := q) (na := na) (S := S) h2 hj hF1 (by decide)) hj hF2' (by decide)
        · exact (hA.fr hj hF1 (by decide)).fr hj hF2' (by decide)
        · exact (h3.fr hF1 (N3 40 (by decide) (by decide)) (N3 41 (by decide) (by decide)) (N3 42 (by decide) (by decide))).fr hF2' (N 40 (by decide) (by decide)) (N 41 (by decide) (by decide)) (N 42 (by decide) (by decide))
        · exact ⟨_, _, _, _, _, _, _, u1, u2, hF2'.rd (N 45 (by decide) (by decide)) k45⟩
      | inr s =>
        rw [hp] at hR
        obtain ⟨rfl, v, hF2, hpn, hv, hA2, hN4, f9, u1, u2, u3⟩ := hR
        have hF2' : Fr ([1, 43, 44].map q) X M2 := hF2
        have l0 := hF2'.rd (N 0 (by decide) (by decide)) k0
        refine Ev.ist2 dX5_text_36 rfl rfl ?_
        refine Ev.ild2 dX5_text_37 ?_
        refine Ev.if_eq (tgt := 46) dX5_text_38 (by decide) (fun _ => ?_) (fun c9 => absurd rfl c9)
        refine Ev.ald0 dX5_text_46 ?_
        apply Ev.getf dX5_text_47 fX5_19
        · repeat (first | assumption | (refine gt_upI ?_; (repeat (first | exact In_of (gt_nw (by assumption)) | (apply In_of; assumption) | refine In_up ?_ | refine In_nw ?_)); done) | refine gt_rd (by first | assumption | (apply Ne.symm; assumption) | (exact hj _ _ (by omega) (by omega) (by omega)) | omega) ?_ | exact gt_nw (by assumption) | refine gt_odr (by first | assumption | (apply Ne.symm; assumption) | omega) ?_)
        · first | rfl | assumption
        refine Ev.ast3 dX5_text_50 rfl rfl ?_
        refine Ev.ald0 dX5_text_51 ?_
        refine Ev.ald0 dX5_text_52 ?_
        apply Ev.getf dX5_text_53 fX5_23
        · repeat (first | assumption | (refine gt_upI ?_; (repeat (first | exact In_of (gt_nw (by assumption)) | (apply In_of; assumption) | refine In_up ?_ | refine In_nw ?_)); done) | refine gt_rd (by first | assumption | (apply Ne.symm; assumption) | (exact hj _ _ (by omega) (by omega) (by omega)) | omega) ?_ | exact gt_nw (by assumption) | refine gt_odr (by first | assumption | (apply Ne.symm; assumption) | omega) ?_)
        · first | rfl | assumption
        apply Ev.put dX5_text_56 fX5_19
        · repeat (first | assumption | (refine gt_upI ?_; (repeat (first | exact In_of (gt_nw (by assumption)) | (apply In_of; assumption) | refine In_up ?_ | refine In_nw ?_)); done) | refine gt_rd (by first | assumption | (apply Ne.symm; assumption) | (exact hj _ _ (by omega) (by omega) (by omega)) | omega) ?_ | exact gt_nw (by assumption) | refine gt_odr (by first | assumption | (apply Ne.symm; assumption) | omega) ?_)
        · rfl
        · rfl
        · rfl
        refine Ev.ald0 dX5_text_59 ?_
        refine Ev.ald3 dX5_text_60 ?_
        apply Ev.put dX5_text_61 fX5_23
        · repeat (first | assumption | (refine gt_upI ?_; (repeat (first | exact In_of (gt_nw (by assumption)) | (apply In_of; assumption) | refine In_up ?_ | refine In_nw ?_)); done) | refine gt_rd (by first | assumption | (apply Ne.symm; assumption) | (exact hj _ _ (by omega) (by omega) (by omega)) | omega) ?_ | exact gt_nw (by assumption) | refine gt_odr (by first | assumption | (apply Ne.symm; assumption) | omega) ?_)
        · rfl
        · rfl
        · rfl
        refine Ev.ald0 dX5_text_64 ?_
        refine Ev.iconst (v := 0) dX5_text_65 (by decide) ?_
        apply Ev.put dX5_text_66 fX5_43
        · repeat (first | assumption | (refine gt_upI ?_; (repeat (first | exact In_of (gt_nw (by assumption)) | (apply In_of; assumption) | refine In_up ?_ | refine In_nw ?_)); done) | refine gt_rd (by first | assumption | (apply Ne.symm; assumption) | (exact hj _ _ (by omega) (by omega) (by omega)) | omega) ?_ | exact gt_nw (by assumption) | refine gt_odr (by first | assumption | (apply Ne.symm; assumption) | omega) ?_)
        · rfl
        · rfl
        · rfl
        refine Ev.ald0 dX5_text_69 ?_
        refine Ev.iconst (v := 0) dX5_text_70 (by decide) ?_
        apply Ev.put dX5_text_71 fX5_50
        · repeat (first | assumption | (refine gt_upI ?_; (repeat (first | exact In_of (gt_nw (by assumption)) | (apply In_of; assumption) | refine In_up ?_ | refine In_nw ?_)); done) | refine gt_rd (by first | assumption | (apply Ne.symm; assumption) | (exact hj _ _ (by omega) (by omega) (by omega)) | omega) ?_ | exact gt_nw (by assumption) | refine gt_odr (by first | assumption | (apply Ne.symm; assumption) | omega) ?_)
        · rfl
        · rfl
        · rfl
        repeat rw [up_up]
        refine Ev.cgM (M' := up M2 (q 0) (oco (qx q) na 0 0)) rfl rfl ?_
        have z0 : gt (up M2 (q 0) (oco (qx q) na 0 0)) (q 0) = some (oco (qx q) na 0 0) := gt_up l0
        have z43 : gt (up M2 (q 0) (oco (qx q) na 0 0)) (q 43) = some (bk (q 44) (q 45) s.2.2.1 0 (rfv s) (lov s) (hiv s)) := gt_rd (hj _ _ (by decide) (by decide) (by decide)) u1
        have z43' : gt (up M2 (q 0) (oco (qx q) na 0 0)) (qx q 40) = some (bk (q 44) (q 45) s.2.2.1 0 (rfv s) (lov s) (hiv s)) := z43
        refine Ev.ald0 dX5_text_74 ?_
        apply Ev.getf dX5_text_75 fX5_19
        · repeat (first | assumption | (refine gt_upI ?_; (repeat (first | exact In_of (gt_nw (by assumption)) | (apply In_of; assumption) | refine In_up ?_ | refine In_nw ?_)); done) | refine gt_rd (by first | assumption | (apply Ne.symm; assumption) | (exact hj _ _ (by omega) (by omega) (by omega)) | omega) ?_ | exact gt_nw (by assumption) | refine gt_odr (by first | assumption | (apply Ne.symm; assumption) | omega) ?_)
        · first | rfl | assumption
        apply Ev.getf dX5_text_78 fX5_71
        · repeat (first | assumption | (refine gt_upI ?_; (repeat (first | exact In_of (gt_nw (by assumption)) | (apply In_of; assumption) | refine In_up ?_ | refine In_nw ?_)); done) | refine gt_rd (by first | assumption | (apply Ne.symm; assumption) | (exact hj _ _ (by omega) (by omega) (by omega)) | omega) ?_ | exact gt_nw (by assumption) | refine gt_odr (by first | assumption | (apply Ne.symm; assumption) | omega) ?_)
        · first | rfl | assumption
        refine Ev.iret dX5_text_81 rfl rfl ?_
        have hF3 : Fr ([0].map q) M2 (up M2 (q 0) (oco (qx q) na 0 0)) := Fr.rf.pt (by simp)
        have hFq : Fr (qfr q) M (up M2 (q 0) (oco (qx q) na 0 0)) := ((hF1.q (by decide)).tr (hF2'.q (by decide))).tr (hF3.q (by decide))
        have N0 : ∀ i, i < 82 → i ∉ [0] → q i ∉ [0].map q := fun i h1 h2 => ninQ hj h1 (by decide) h2
        have R : ∀ {i : Nat} {en : En}, i < 82 → i ∉ [0, 1, 43, 44, 45] → gt M (q i) = some en → gt (up M2 (q 0) (oco (qx q) na 0 0)) (q i) = some en := fun hi hn k => hF3.rd (N0 _ hi (fun z => hn (by simp at z ⊢; omega))) (hF2'.rd (N _ hi (fun z => hn (by simp at z ⊢; omega))) (hF1.rd (N3 _ hi (fun z => hn (by simp at z ⊢; omega))) k))
        obtain ⟨e8, -, e9, e0, e1, e2, er⟩ := txb_at (s := s)
        rw [nI_clamp (by omega)] at e8
        refine ⟨_, rfl, rfl, qx q, na, ⟨⟨qx_inj hj, hna⟩, z0, ⟨⟨fun i => if i = 0 then nI n else if i = 1 then nI (tkA (cdt S.2.2.1) n s.1) else if i = 2 then nI (xtE (cdt S.2.2.1) n s.1) else if i = 3 then nI (tkT (cdt S.2.2.1) n s.1) else if i = 4 then v else if i = 5 then nI 0 else if i = 6 then hrv s else hcv s, gt_rd (hj _ _ (by decide) (by decide) (by decide)) hA2⟩, ⟨t, R (by decide) (by decide) hbb, fun j hj9 => absurd hj9 (Nat.not_lt_zero _)⟩, g, R (by decide) (by decide) h4, fun j hj9 => absurd (show j < 4 * min 8 0 from hj9) (by simp)⟩, ?_, ?_, ?_, ?_⟩, qx_sq, hFq⟩
        · obtain ⟨⟨ac, a1, a2⟩, a3, -⟩ := h2
          refine ⟨⟨ac, R (by decide) (by decide) a1, fun i hi => by rw [qx_o (by omega)]; exact a2 i hi⟩, fun i hi => ?_, fun k p hk => by cases hk⟩
          rw [qx_o (by omega), qx_o (by omega), qx_o (by omega)]
          obtain ⟨n', a, b', c', d', f', g', w1, w2, w3⟩ := a3 i hi
          exact ⟨n', a, b', c', d', f', g', R (by omega) (by simp; omega) w1, R (by omega) (by simp; omega) w2, R (by omega) (by simp; omega) w3⟩
        · exact ((hA.fr hj hF1 (by decide)).fr hj hF2' (by decide)).fr hj hF3 (by decide)
        · refine ⟨f9, g2, ?_, gt_rd (hj _ _ (by decide) (by decide) (by decide)) u2, gt_rd (hj _ _ (by decide) (by decide) (by decide)) (hF2'.rd (N 45 (by decide) (by decide)) k45), ?_, fun z => ?_⟩
          · show gt _ (q 43) = some (bk (q 44) (q 45) (bn (txb s)) (txb s 329) (txb s 330) (txb s 331) (txb s 332))
            rw [e8, e9, e0, e1, e2]
            exact z43
          · show Ar (bn (txb s)) f9 (txb s)
            rw [e8]
            intro j hj9
            rw [er j (by omega)]
            exact u3 j hj9
          · have z2 : txb s 329 = 2 := z
            rw [e9] at z2
            exact absurd z2 (by decide)
        · obtain ⟨b40, b41, w1, w2, w3, -⟩ := h3
          exact ⟨_, _, _, _, _, b40, b41, R (by decide) (by decide) w1, R (by decide) (by decide) w2, R (by decide) (by decide) w3⟩
    · exact no _ _ (fun z => c12 z.2)
end KTX
