/-! what holds at the law's loop -/
theorem Bk.mn {M M' : Wd} {h r w : Nat} {p : Bw} (hB : Bk M h r w p) (h1 : ∀ e, gt M h = some e → gt M' h = some e) (h2 : ∀ e, gt M r = some e → gt M' r = some e) (h3 : ∀ e, gt M w = some e → gt M' w = some e) : Bk M' h r w p := by
  obtain ⟨f, g, g1, g2, g3, g4⟩ := hB
  exact ⟨f, g, h1 _ g1, h2 _ g2, h3 _ g3, g4⟩
theorem Ba.mn {M M' : Wd} {h r w : Nat} (hB : Ba M h r w) (h1 : ∀ e, gt M h = some e → gt M' h = some e) (h2 : ∀ e, gt M r = some e → gt M' r = some e) (h3 : ∀ e, gt M w = some e → gt M' w = some e) : Ba M' h r w := by
  obtain ⟨n, a, b, c, d, f, g, g1, g2, g3⟩ := hB
  exact ⟨n, a, b, c, d, f, g, h1 _ g1, h2 _ g2, h3 _ g3⟩
theorem CR.mn {q : Nat → Nat} {na : Nat} {S : Sg} {M M' : Wd} (h : CR q na S M) (hm : ∀ i, i < 82 → ∀ e, gt M (q i) = some e → gt M' (q i) = some e) : CR q na S M' := by
  obtain ⟨⟨hj, hna⟩, h0, ⟨⟨e, t1⟩, ⟨t, t2, t3⟩, g, t4, t5⟩, ⟨⟨ac, b1, b2⟩, b3, b4⟩, hA, hB, hD⟩ := h
  refine ⟨⟨hj, hna⟩, hm 0 (by decide) _ h0, ⟨⟨e, hm 1 (by decide) _ t1⟩, ⟨t, hm 2 (by decide) _ t2, t3⟩, g, hm 4 (by decide) _ t4, t5⟩, ⟨⟨ac, hm 3 (by decide) _ b1, b2⟩, fun i hi => (b3 i hi).mn (hm _ (by omega)) (hm _ (by omega)) (hm _ (by omega)), fun k p hp => ?_⟩, ?_, hB.mn (hm 40 (by decide)) (hm 41 (by decide)) (hm 42 (by decide)), hD.mn (hm 43 (by decide)) (hm 44 (by decide)) (hm 45 (by decide))⟩
  · have := rgp_lt (na := na) (L := S.2.1.length) (k := k)
    exact (b4 k p hp).mn (hm _ (by omega)) (hm _ (by omega)) (hm _ (by omega))
  · obtain ⟨so, po, t0, r0, i1, i2, i3, i4, ov, hp, vo, re, t, g, fl, tr, sa, cn, tu, s0, s1, p0, p1, hs, r3, r0', r1, r2, r6, r7, r8, r9, r10, r11, r15, r16, r17, r18⟩ := hA
    exact ⟨so, po, t0, r0, i1, i2, i3, i4, ov, hp, vo, re, t, g, fl, tr, sa, cn, tu, s0, s1, p0, p1, hs, hm 13 (by decide) _ r3, hm 10 (by decide) _ r0', hm 11 (by decide) _ r1, hm 12 (by decide) _ r2, hm 16 (by decide) _ r6, hm 17 (by decide) _ r7, hm 18 (by decide) _ r8, hm 19 (by decide) _ r9, hm 20 (by decide) _ r10, hm 21 (by decide) _ r11, hm 25 (by decide) _ r15, hm 26 (by decide) _ r16, hm 27 (by decide) _ r17, hm 28 (by decide) _ r18⟩
theorem MX.mn {a : Nat → Nat} {v : Nat → Int32} {L : Int64} {X : Nat → Nat → Int32} {M M' : Wd} (h : MX a v L X M) (hm : ∀ x ∈ mdl a, ∀ e, gt M x = some e → gt M' x = some e) : MX a v L X M' := by
  refine ⟨hm _ (by simp) _ h.1, fun q hq => hm _ ?_ _ (h.2 q hq)⟩
  simp only [mtb, List.mem_cons, List.not_mem_nil, or_false] at hq
  rcases hq with rfl | rfl | rfl | rfl | rfl | rfl | rfl | rfl | rfl | rfl | rfl | rfl | rfl | rfl | rfl | rfl | rfl <;> simp
/-- class at S', reference at S, k calls done -/
def LI (q : Nat → Nat) (na : Nat) (a : Nat → Nat) (o : Nat) (S S' : Sg) (k : Nat) (M : Wd) : Prop := CR q na S' M ∧ (∃ v L X, InjM a ∧ MX a v L X M ∧ MR v X S) ∧ Inv S' k ∧ (∃ f, gt M o = some (la 1 f)) ∧ o ∉ qfr q ∧ o ∉ mdl a ∧ ∀ x ∈ mdl a, x ∉ qfr q
section LIN
variable {q a : Nat → Nat} {na o k k' : Nat} {S S' : Sg} {M M1 M2 : Wd}
theorem qfr_in {i : Nat} (hi : i < 82) : q i ∈ qfr q := List.mem_map.mpr ⟨i, List.mem_range.mpr hi, rfl⟩
theorem LI.cls (h : LI q na a o S S k M) (hK : KR q S' M M1) (hI : Inv S' k') : ∃ q' na', q' 0 = q 0 ∧ LI q' na' a o S S' k' M1 := by
  obtain ⟨-, ⟨v, L, X, h1, h2, h3⟩, -, ⟨f, h4⟩, h5, h6, h7⟩ := h
  obtain ⟨q', na', k1, k2, k3⟩ := hK
  have hsub : ∀ x, x ∈ qfr q' → x ∈ qfr q := fun x hx => by
    obtain ⟨i, i1, i2⟩ := List.mem_map.mp hx
    obtain ⟨j, j1, j2⟩ := k2.2 i (List.mem_range.mp i1)
    exact List.mem_map.mpr ⟨j, List.mem_range.mpr j1, by rw [← j2]; exact i2⟩
  exact ⟨q', na', k2.1, k1, ⟨v, L, X, h1, h2.mn (fun x hx e he => k3.rd (h7 x hx) he), h3⟩, hI, ⟨f, k3.rd h5 h4⟩, fun z => h5 (hsub _ z), h6, fun x hx z => h7 x hx (hsub _ z)⟩
theorem LI.mz (h : LI q na a o S S' k M) : ∃ v L X, MZ a M v L X M ∧ MR v X S := by
  obtain ⟨-, ⟨v, L, X, h1, h2, h3⟩, -⟩ := h
  exact ⟨v, L, X, ⟨h1, h2, Fw.rf⟩, h3⟩
theorem LI.ref {v : Nat → Int32} {L : Int64} {X : Nat → Nat → Int32} (h : LI q na a o S S' k M1) (hZ : MZ a M1 v L X M2) (hR : MR v X S') : LI q na a o S' S' k M2 := by
  obtain ⟨h1, -, h3, ⟨f, h4⟩, h5, h6, h7⟩ := h
  obtain ⟨z1, z2, z3⟩ := hZ
  exact ⟨h1.mn (fun i hi e he => z3 _ (fun z => h7 _ z (qfr_in hi)) e he), ⟨v, L, X, z1, z2, hR⟩, h3, ⟨f, z3 _ h6 _ h4⟩, h5, h6, h7⟩
/-- the reference answers without a change of state -/
theorem LI.ref' {v : Nat → Int32} {L : Int64} {X : Nat → Nat → Int32} (h : LI q na a o S S k M1) (hZ : MZ a M1 v L X M2) (hR : MR v X S) : LI q na a o S S k M2 := h.ref hZ hR
theorem LI.out {g : Nat → Int64} (h : LI q na a o S S' k M) : LI q na a o S S' k (up M o (la 1 g)) := by
  obtain ⟨h1, ⟨v, L, X, z1, z2, z3⟩, h3, ⟨f, h4⟩, h5, h6, h7⟩ := h
  have ne : ∀ x e, x ≠ o → gt M x = some e → gt (up M o (la 1 g)) x = some e := fun x e hx he => gt_rd hx he
  exact ⟨h1.mn (fun i hi e he => ne _ e (fun z => h5 (z ▸ qfr_in hi)) he), ⟨v, L, X, z1, z2.mn (fun x hx e he => ne x e (fun z => h6 (z ▸ hx)) he), z3⟩, h3, ⟨g, gt_up h4⟩, h5, h6, h7⟩
theorem LI.inv (h : LI q na a o S S' k M) : Inv S' k := h.2.2.1
theorem LI.up (h : LI q na a o S S' k M) (hk : k ≤ k') : LI q na a o S S' k' M := by
  obtain ⟨h1, h2, ⟨i1, i2, i3, i4⟩, h4⟩ := h
  exact ⟨h1, h2, ⟨i1, i2, i3, Nat.le_trans i4 hk⟩, h4⟩
end LIN
