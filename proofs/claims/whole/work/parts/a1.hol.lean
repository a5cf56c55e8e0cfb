/-! what hold lays down -/
def sv (f : Nat → Int32) (sd o t : Nat) : Prop := f (8 * o + 7) = 0 ∧ f (8 * o + 0) = nI sd ∧ (t = 0 ∨ t = 1 ∧ f (8 * o + 1) = 3 ∧ f (8 * o + 4) < f (8 * o + 2))
def HS (H : Hs) (P0 P1 : Int32 → Prop) (c0 c1 : Nat) : Prop := H.2.2.1 0 = nI c0 ∧ H.2.2.1 1 = nI c1 ∧ SO H.1 c0 ∧ SO H.2.1 c1 ∧ (∀ x, IN H.1 c0 x ↔ P0 x) ∧ ∀ x, IN H.2.1 c1 x ↔ P1 x
theorem HS.cg {H : Hs} {P0 P1 Q0 Q1 : Int32 → Prop} {c0 c1 : Nat} (h : HS H P0 P1 c0 c1) (h0 : ∀ x, P0 x ↔ Q0 x) (h1 : ∀ x, P1 x ↔ Q1 x) : HS H Q0 Q1 c0 c1 := ⟨h.1, h.2.1, h.2.2.1, h.2.2.2.1, fun x => (h.2.2.2.2.1 x).trans (h0 x), fun x => (h.2.2.2.2.2 x).trans (h1 x)⟩
theorem hs1_0 {H : Hs} {P0 P1 : Int32 → Prop} {c0 c1 : Nat} {key : Int32} (h : HS H P0 P1 c0 c1) (hn : ¬ P0 key) (hc : c0 < 1000) : HS (hs1 H 0 key) (fun x => P0 x ∨ x = key) P1 (c0 + 1) c1 ∧ (hs1 H 0 key).2.2.2 = H.2.2.2 := by
  obtain ⟨h1, h2, h3, h4, h5, h6⟩ := h
  have e : hs1 H 0 key = (insf H.1 c0 key, H.2.1, upd H.2.2.1 0 (H.2.2.1 0 + 1), H.2.2.2) := by rw [hs1, if_pos rfl, h1, nI_clamp (by omega)]
  obtain ⟨i1, i2, i3⟩ := ins_sp c0 H.1 h3 (fun i hi z => hn ((h5 key).mp ⟨i, hi, z⟩))
  rw [e]
  refine ⟨⟨?_, ?_, i1, h4, fun x => ?_, h6⟩, rfl⟩
  · show upd H.2.2.1 0 (H.2.2.1 0 + 1) 0 = _
    rw [pk_us, h1, nI_1]
  · show upd H.2.2.1 0 (H.2.2.1 0 + 1) 1 = _
    rw [pk_un (by decide)]; exact h2
  · show IN _ _ _ ↔ P0 x ∨ x = key
    rw [← h5 x]; exact i2 x
theorem hs1_1 {H : Hs} {P0 P1 : Int32 → Prop} {c0 c1 : Nat} {key : Int32} (h : HS H P0 P1 c0 c1) (hn : ¬ P1 key) (hc : c1 < 1000) : HS (hs1 H 1 key) P0 (fun x => P1 x ∨ x = key) c0 (c1 + 1) ∧ (hs1 H 1 key).2.2.2 = H.2.2.2 := by
  obtain ⟨h1, h2, h3, h4, h5, h6⟩ := h
  have e : hs1 H 1 key = (H.1, insf H.2.1 c1 key, upd H.2.2.1 1 (H.2.2.1 1 + 1), H.2.2.2) := by rw [hs1, if_neg (by decide), h2, nI_clamp (by omega)]
  obtain ⟨i1, i2, i3⟩ := ins_sp c1 H.2.1 h4 (fun i hi z => hn ((h6 key).mp ⟨i, hi, z⟩))
  rw [e]
  refine ⟨⟨?_, ?_, h3, i1, h5, fun x => ?_⟩, rfl⟩
  · show upd H.2.2.1 1 (H.2.2.1 1 + 1) 0 = _
    rw [pk_un (by decide)]; exact h1
  · show upd H.2.2.1 1 (H.2.2.1 1 + 1) 1 = _
    rw [pk_us, h2, nI_1]
  · show IN _ _ _ ↔ P1 x ∨ x = key
    rw [← h6 x]; exact i2 x
section HOL
variable {f : Nat → Int32} {n : Nat}
def PS (f : Nat → Int32) (sd k : Nat) (x : Int32) : Prop := ∃ o t, o < k ∧ sv f sd o t ∧ x = nI (skey f o t)
theorem skey_lt (h : OW f n) (hn : n ≤ 41) {o t : Nat} (ho : o < n) : skey f o t < 1000000 := by
  have a1 := nea_le h ho
  have b1 := hid_le (f := f) (o := o) (t := t)
  have c1 := bas0_c f o
  rw [skey]
  omega
theorem skey_o (h : OW f n) (hn : n ≤ 41) {o t : Nat} (ho : o < n) : skey f o t % 64 = o := by
  have a1 := nea_le h ho
  have b1 := hid_le (f := f) (o := o) (t := t)
  have c1 := bas0_c f o
  rw [skey]
  omega
theorem skey_inj (h : OW f n) (hn : n ≤ 41) {o t o' t' : Nat} (ho : o < n) (ho' : o' < n) (e : nI (skey f o t) = nI (skey f o' t')) : o = o' ∧ hid f o t = hid f o' t' := by
  have e := (nI_eq (by have := skey_lt (t := t) h hn ho; omega) (by have := skey_lt (t := t') h hn ho'; omega)).mp e
  have e1 := skey_o (t := t) h hn ho
  have e2 := skey_o (t := t') h hn ho'
  have eo : o = o' := by rw [← e1, ← e2, e]
  subst eo
  rw [skey, skey] at e
  exact ⟨rfl, by omega⟩
theorem hs2_sp (hO : OW f n) (hn : n ≤ 41) {k : Nat} (hk : k < n) (hg : f (8 * k + 7) = 0) {H : Hs} {c0 c1 : Nat} (h : HS H (PS f 0 k) (PS f 1 k) c0 c1) (h0 : c0 ≤ 2 * k) (h1 : c1 ≤ 2 * k) : ∃ c0' c1', HS (hs2 H f k) (PS f 0 (k + 1)) (PS f 1 (k + 1)) c0' c1' ∧ c0' ≤ 2 * (k + 1) ∧ c1' ≤ 2 * (k + 1) ∧ (hs2 H f k).2.2.2 = H.2.2.2 := by
  have new : ∀ sd t, ¬ PS f sd k (nI (skey f k t)) := by
    rintro sd t ⟨o, t', g1, g2, g3⟩
    have := (skey_inj hO hn hk (by omega) g3).1
    omega
  have kA : f (8 * k + 1) ≠ 2 → ky f k = nI (skey f k 0) := fun h2 => by
    rw [ky_n hO hn hk, skey, hid, if_neg (fun z => z.elim h2 (by decide))]
    congr 1
  have kB : ky f k ||| 64 = nI (skey f k 1) := by
    rw [ky_64 hO hn hk, skey, hid, if_pos (Or.inr rfl)]
  have kC : f (8 * k + 1) = 2 → ky f k ||| 64 = nI (skey f k 0) := fun h2 => by
    rw [ky_64 hO hn hk, skey, hid, if_pos (Or.inl h2)]
  have other : ∀ sd, f (8 * k + 0) ≠ nI sd → ∀ x, PS f sd k x ↔ PS f sd (k + 1) x := by
    intro sd hs x
    constructor
    · rintro ⟨o, t, g1, g2⟩; exact ⟨o, t, by omega, g2⟩
    · rintro ⟨o, t, g1, g2, g3⟩
      by_cases e : o = k
      · subst e; exact absurd g2.2.1 hs
      · exact ⟨o, t, by omega, g2, g3⟩
  have two : ∀ sd, f (8 * k + 0) = nI sd → f (8 * k + 1) = 3 ∧ f (8 * k + 4) < f (8 * k + 2) → ∀ x, ((PS f sd k x ∨ x = nI (skey f k 0)) ∨ x = nI (skey f k 1)) ↔ PS f sd (k + 1) x := by
    intro sd hs h3 x
    constructor
    · rintro ((⟨o, t, g1, g2⟩ | g) | g)
      · exact ⟨o, t, by omega, g2⟩
      · exact ⟨k, 0, by omega, ⟨hg, hs, Or.inl rfl⟩, g⟩
      · exact ⟨k, 1, by omega, ⟨hg, hs, Or.inr ⟨rfl, h3⟩⟩, g⟩
    · rintro ⟨o, t, g1, g2, g3⟩
      by_cases e : o = k
      · subst e
        rcases g2.2.2 with z | ⟨z, -⟩
        · rw [z] at g3; exact Or.inl (Or.inr g3)
        · rw [z] at g3; exact Or.inr g3
      · exact Or.inl (Or.inl ⟨o, t, by omega, g2, g3⟩)
  have one : ∀ sd, f (8 * k + 0) = nI sd → ¬ (f (8 * k + 1) = 3 ∧ f (8 * k + 4) < f (8 * k + 2)) → ∀ x, (PS f sd k x ∨ x = nI (skey f k 0)) ↔ PS f sd (k + 1) x := by
    intro sd hs h3 x
    constructor
    · rintro (⟨o, t, g1, g2⟩ | g)
      · exact ⟨o, t, by omega, g2⟩
      · exact ⟨k, 0, by omega, ⟨hg, hs, Or.inl rfl⟩, g⟩
    · rintro ⟨o, t, g1, g2, g3⟩
      by_cases e : o = k
      · subst e
        rcases g2.2.2 with z | ⟨z, z2⟩
        · rw [z] at g3; exact Or.inr g3
        · exact absurd z2 h3
      · exact Or.inl ⟨o, t, by omega, g2, g3⟩
  have k01 : nI (skey f k 1) ≠ nI (skey f k 0) ∨ f (8 * k + 1) = 2 := by
    by_cases h2 : f (8 * k + 1) = 2
    · exact Or.inr h2
    · refine Or.inl (fun z => ?_)
      have := (skey_inj hO hn hk hk z).2
      rw [hid, hid, if_pos (Or.inr rfl), if_neg (fun z => z.elim h2 (by decide))] at this
      omega
  rw [hs2]
  by_cases h3 : f (8 * k + 1) = 3 ∧ f (8 * k + 4) < f (8 * k + 2)
  · have h2 : f (8 * k + 1) ≠ 2 := by rw [h3.1]; decide
    have k01 := k01.resolve_right h2
    rw [if_pos h3, kA h2, show nI (skey f k 0) ||| 64 = nI (skey f k 1) by rw [← kA h2, kB]]
    rcases hO.sd hk with hs | hs
    · rw [hs]
      obtain ⟨a1, a2⟩ := hs1_0 (key := nI (skey f k 0)) h (new 0 0) (by omega)
      obtain ⟨b1, b2⟩ := hs1_0 (key := nI (skey f k 1)) a1 (fun z => z.elim (new 0 1) k01) (by omega)
      exact ⟨c0 + 1 + 1, c1, b1.cg (two 0 hs h3) (other 1 (by rw [hs]; decide)), by omega, by omega, b2.trans a2⟩
    · rw [hs]
      obtain ⟨a1, a2⟩ := hs1_1 (key := nI (skey f k 0)) h (new 1 0) (by omega)
      obtain ⟨b1, b2⟩ := hs1_1 (key := nI (skey f k 1)) a1 (fun z => z.elim (new 1 1) k01) (by omega)
      exact ⟨c0, c1 + 1 + 1, b1.cg (other 0 (by rw [hs]; decide)) (two 1 hs h3), by omega, by omega, b2.trans a2⟩
  · have ek : (if f (8 * k + 1) = 2 then ky f k ||| 64 else ky f k) = nI (skey f k 0) := by
      by_cases h2 : f (8 * k + 1) = 2
      · rw [if_pos h2, kC h2]
      · rw [if_neg h2, kA h2]
    rw [if_neg h3, ek]
    rcases hO.sd hk with hs | hs
    · rw [hs]
      obtain ⟨a1, a2⟩ := hs1_0 (key := nI (skey f k 0)) h (new 0 0) (by omega)
      exact ⟨c0 + 1, c1, a1.cg (one 0 hs h3) (other 1 (by rw [hs]; decide)), by omega, by omega, a2⟩
    · rw [hs]
      obtain ⟨a1, a2⟩ := hs1_1 (key := nI (skey f k 0)) h (new 1 0) (by omega)
      exact ⟨c0, c1 + 1, a1.cg (other 0 (by rw [hs]; decide)) (one 1 hs h3), by omega, by omega, a2⟩
def PT (f : Nat → Int32) (k : Nat) (x : Int32) : Prop := ∃ o, o < k ∧ f (8 * o + 7) = 0 ∧ f (8 * o + 1) ≠ 0 ∧ x = nI (tkey f o)
theorem hld_sp (hO : OW f n) (hn : n ≤ 41) (H0 : Hs) : ∀ k, k ≤ n → (∃ c0 c1, HS (hld f H0 k) (PS f 0 k) (PS f 1 k) c0 c1 ∧ c0 ≤ 2 * k ∧ c1 ≤ 2 * k) ∧ SO (hld f H0 k).2.2.2.1 (hld f H0 k).2.2.2.2 ∧ (∀ x, IN (hld f H0 k).2.2.2.1 (hld f H0 k).2.2.2.2 x ↔ PT f k x) ∧ (hld f H0 k).2.2.2.2 ≤ k
  | 0, _ => by
    refine ⟨⟨0, 0, ⟨rfl, rfl, fun i j h1 h2 => by omega, fun i j h1 h2 => by omega, fun x => ⟨fun ⟨i, h, _⟩ => by omega, fun ⟨o, t, h, _⟩ => by omega⟩, fun x => ⟨fun ⟨i, h, _⟩ => by omega, fun ⟨o, t, h, _⟩ => by omega⟩⟩, by omega, by omega⟩, fun i j h1 h2 => ?_, fun x => ⟨fun ⟨i, h, _⟩ => ?_, fun ⟨o, h, _⟩ => by omega⟩, Nat.le_refl _⟩
    · exact absurd h2 (Nat.not_lt_zero _)
    · exact absurd h (Nat.not_lt_zero _)
  | k + 1, hk => by
    obtain ⟨⟨c0, c1, i1, i2, i3⟩, i4, i5, i6⟩ := hld_sp hO hn H0 k (by omega)
    rw [hld]
    by_cases hg : f (8 * k + 7) = 0
    · rw [if_pos hg]
      obtain ⟨d0, d1, j1, j2, j3, j4⟩ := hs2_sp hO hn (show k < n by omega) hg i1 i2 i3
      rw [ht1]
      by_cases hm : f (8 * k + 1) = 0
      · rw [if_pos hm]
        refine ⟨⟨d0, d1, j1, j2, j3⟩, by rw [j4]; exact i4, fun x => ?_, by rw [j4]; omega⟩
        rw [j4, i5]
        constructor
        · rintro ⟨o, g1, g2⟩; exact ⟨o, by omega, g2⟩
        · rintro ⟨o, g1, g2, g3, g4⟩
          by_cases e : o = k
          · subst e; exact absurd hm g3
          · exact ⟨o, by omega, g2, g3, g4⟩
      · rw [if_neg hm]
        have hfr := hO.fr (show k < n by omega)
        have ekey : ((if f (8 * k + 0) = 0 then f (8 * k + 3) + 1 else f (8 * k + 3)) <<< ((6 : Int32) &&& 31)) ||| nI k = nI (tkey f k) := by
          have e1 : (if f (8 * k + 0) = 0 then f (8 * k + 3) + 1 else f (8 * k + 3)) = nI (frm f k) := by
            rw [frm]
            by_cases z : f (8 * k + 0) = 0
            · rw [if_pos z, if_pos z, hfr.2.1, nI_clamp (by omega), nI_1]
            · rw [if_neg z, if_neg z]; exact hfr.2.1
          rw [e1, pk_shlN _ 6 (by decide) (by omega), nI_or (by omega) (by omega), tkey]
        rw [ekey, j4]
        obtain ⟨t1, t2, t3⟩ := ins_sp (key := nI (tkey f k)) (hld f H0 k).2.2.2.2 (hld f H0 k).2.2.2.1 i4 (fun i hi z => by
          obtain ⟨o, g1, g2, g3, g4⟩ := (i5 _).mp ⟨i, hi, z⟩
          have f2 := hO.fr (show o < n by omega)
          rw [tkey, tkey] at g4
          have := (nI_eq (by omega) (by omega)).mp g4
          omega)
        refine ⟨⟨d0, d1, j1, j2, j3⟩, t1, fun x => ?_, by show (hld f H0 k).2.2.2.2 + 1 ≤ k + 1; omega⟩
        rw [t2, i5]
        constructor
        · rintro (⟨o, g1, g2⟩ | g)
          · exact ⟨o, by omega, g2⟩
          · exact ⟨k, by omega, hg, hm, g⟩
        · rintro ⟨o, g1, g2, g3, g4⟩
          by_cases e : o = k
          · subst e; exact Or.inr g4
          · exact Or.inl ⟨o, by omega, g2, g3, g4⟩
    · rw [if_neg hg]
      have ps : ∀ sd x, PS f sd k x ↔ PS f sd (k + 1) x := by
        intro sd x
        constructor
        · rintro ⟨o, t, g1, g2⟩; exact ⟨o, t, by omega, g2⟩
        · rintro ⟨o, t, g1, g2, g3⟩
          by_cases e : o = k
          · subst e; exact absurd g2.1 hg
          · exact ⟨o, t, by omega, g2, g3⟩
      refine ⟨⟨c0, c1, i1.cg (ps 0) (ps 1), by omega, by omega⟩, i4, fun x => ?_, by omega⟩
      rw [i5]
      constructor
      · rintro ⟨o, g1, g2⟩; exact ⟨o, by omega, g2⟩
      · rintro ⟨o, g1, g2, g3, g4⟩
        by_cases e : o = k
        · subst e; exact absurd g2 hg
        · exact ⟨o, by omega, g2, g3, g4⟩
theorem TU_of {tu : Nat → Int32} {tc : Nat} (h1 : SO tu tc) (h2 : ∀ x, IN tu tc x ↔ PT f n x) : TU f n tu tc := by
  refine ⟨fun i hi => ?_, h1, fun o ho hg hm => ?_⟩
  · obtain ⟨o, g1, g2, g3, g4⟩ := (h2 _).mp ⟨i, hi, rfl⟩
    exact ⟨o, g1, g2, g3, g4⟩
  · obtain ⟨i, hi, e⟩ := (h2 (nI (tkey f o))).mpr ⟨o, ho, hg, hm, rfl⟩
    exact ⟨i, hi, e⟩
/-- the slices of a side as one list -/
def LSl (f : Nat → Int32) (n sd : Nat) (s : Nat → Int32) (l : List (Nat × Nat)) : Prop := (∀ (i : Nat) (q : Nat × Nat), l[i]? = some q → s i = nI (skey f q.1 q.2)) ∧ l.Pairwise (fun q r => skey f q.1 q.2 < skey f r.1 r.2) ∧ ∀ o t, (o, t) ∈ l ↔ o < n ∧ sv f sd o t
theorem LSl_of (hO : OW f n) (hn : n ≤ 41) {s : Nat → Int32} {c sd : Nat} (h1 : SO s c) (h2 : ∀ x, IN s c x ↔ PS f sd n x) : ∃ l, LSl f n sd s l ∧ l.length = c := by
  have ch : ∀ i, ∃ q : Nat × Nat, i < c → q.1 < n ∧ sv f sd q.1 q.2 ∧ s i = nI (skey f q.1 q.2) := by
    intro i
    by_cases hi : i < c
    · obtain ⟨o, t, g1, g2, g3⟩ := (h2 _).mp ⟨i, hi, rfl⟩
      exact ⟨(o, t), fun _ => ⟨g1, g2, g3⟩⟩
    · exact ⟨(0, 0), fun z => absurd z hi⟩
  obtain ⟨φ, hφ⟩ := Classical.axiomOfChoice ch
  refine ⟨(List.range c).map φ, ⟨fun i q hq => ?_, ?_, fun o t => ?_⟩, by simp⟩
  · rw [List.getElem?_map] at hq
    obtain ⟨j, hj, rfl⟩ := Option.map_eq_some_iff.mp hq
    obtain ⟨e1, e2⟩ := List.getElem?_eq_some_iff.mp hj
    simp only [List.getElem_range] at e2
    subst e2
    simp only [List.length_range] at e1
    exact (hφ i e1).2.2
  · rw [List.pairwise_map]
    refine List.Pairwise.imp_of_mem ?_ (List.pairwise_lt_range (n := c))
    intro x y hx hy hxy
    have hx := List.mem_range.mp hx
    have hy := List.mem_range.mp hy
    have := h1 x y hxy hy
    rw [(hφ x hx).2.2, (hφ y hy).2.2] at this
    exact (nI_ltI (by have := skey_lt (t := (φ x).2) hO hn (hφ x hx).1; omega) (by have := skey_lt (t := (φ y).2) hO hn (hφ y hy).1; omega)).mp this
  · constructor
    · intro hm
      obtain ⟨i, hi, e⟩ := List.mem_map.mp hm
      have := hφ i (List.mem_range.mp hi)
      rw [e] at this
      exact ⟨this.1, this.2.1⟩
    · rintro ⟨ho, hv⟩
      obtain ⟨i, hi, e⟩ := (h2 (nI (skey f o t))).mpr ⟨o, t, ho, hv, rfl⟩
      have g := hφ i hi
      rw [e] at g
      have ej := skey_inj hO hn ho g.1 g.2.2
      refine List.mem_map.mpr ⟨i, List.mem_range.mpr hi, ?_⟩
      have e1 : (φ i).1 = o := ej.1.symm
      have e2 : (φ i).2 = t := by
        have hv2 := g.2.1
        rw [e1] at hv2
        have hd := ej.2
        rw [e1, hid, hid] at hd
        rcases hv.2.2 with z | ⟨z, z3, -⟩ <;> rcases hv2.2.2 with y | ⟨y, y3, -⟩
        · omega
        · rw [z, y] at hd
          rw [if_pos (Or.inr rfl), if_neg (fun w => w.elim (fun u => by rw [y3] at u; exact absurd u (by decide)) (by decide))] at hd
          omega
        · rw [z, y] at hd
          rw [if_pos (Or.inr rfl), if_neg (fun w => w.elim (fun u => by rw [z3] at u; exact absurd u (by decide)) (by decide))] at hd
          omega
        · omega
      rw [← e1, ← e2]
end HOL
