/-! the rounds: class and reference come to one cross -/
abbrev mkK (f tu : Nat → Int32) (tc n r lo hi : Nat) (s0 s1 : Nat → Int32) (c0 c1 : Nat) : K9 := (f, tu, tc, n, nI r, nI lo, nI hi, s0, s1, c0, c1)
theorem ci_0 {V R : Nat → Int32} {lo r : Nat} {g : Nat → Int32} : CI V R lo r 0 (upd (upd (upd (upd g 5 (nI r)) 1 0) 4 0) 6 0) := by
  refine ⟨⟨?_, ?_⟩, fun p h1 h2 => by omega, Or.inl ⟨?_, ?_, ?_⟩⟩
  · rw [pk_un (by decide), pk_un (by decide), pk_un (by decide), pk_us]
  · rw [pk_un (by decide), pk_un (by decide), pk_us]; decide
  · rw [pk_un (by decide), pk_un (by decide), pk_us]
  · rw [pk_un (by decide), pk_us]
  · rw [pk_us]
theorem OW.abz {b ct : Nat → Int32} {n : Nat} {p : Int32} (h : OW b n) (hn : n ≤ 41) : ab (ref (bs4 b ct (qt b) p n)) < 1000000 := by
  have h1 := h.sums (ct := ct) (p := p) hn 0 0
  have h2 := h.sums (ct := ct) (p := p) hn 1 0
  have h3 := h.sums (ct := ct) (p := p) hn 0 1
  have h4 := h.sums (ct := ct) (p := p) hn 1 1
  rw [h.num, ref_n h1 h2 h3 h4]
  generalize sN (wt b ct (qt b) p 0 0) n = B at *
  generalize sN (wt b ct (qt b) p 1 0) n = S at *
  generalize sN (wt b ct (qt b) p 0 1) n = EB at *
  generalize sN (wt b ct (qt b) p 1 1) n = ES at *
  have hz : -1000000 < reN B S EB ES ∧ reN B S EB ES < 1000000 := by
    rw [reN, hpN]
    split <;> omega
  generalize reN B S EB ES = z at hz
  rw [ab, show (1000000 : Int32) = iI 1000000 from rfl, show (0 : Int32) = iI 0 from rfl]
  split
  · exact (iI_lt (by omega) (by omega) (by omega) (by omega)).mpr (by omega)
  · rw [iI_sub]
    exact (iI_lt (by omega) (by omega) (by omega) (by omega)).mpr (by omega)
theorem fil_out {m my : Nat → Int32} {k : Nat} : ∀ (l : List (Nat × Nat)) (x : Int32) (fl : Nat → Int32), (∀ q ∈ l, q.1 ≠ k) → fil m my l x fl k = fl k
  | [], _, _, _ => rfl
  | q :: r, x, fl, h => by
    rw [fil, fil_out r _ _ (fun p hp => h p (List.mem_cons_of_mem _ hp)), pk_un (fun z => h q List.mem_cons_self z.symm)]
theorem fil_z {m my : Nat → Int32} : ∀ (l : List (Nat × Nat)) (fl : Nat → Int32), (∀ q ∈ l, ∃ x, x ≤ 9999 ∧ ptf m my q.1 (nI q.2) = nI x) → fil m my l 0 fl = fl
  | [], _, _ => rfl
  | q :: r, fl, h => by
    obtain ⟨x, h1, h2⟩ := h q List.mem_cons_self
    have e : mn 0 (ptf m my q.1 (nI q.2)) = 0 := by
      rw [h2, show (0 : Int32) = nI 0 from rfl, mn_n (by omega) (by omega), Nat.zero_min]
    rw [fil, e, Int32.sub_zero, Int32.add_zero, fil_z r _ (fun p hp => h p (List.mem_cons_of_mem _ hp))]
    funext j
    by_cases z : j = q.1
    · rw [z, pk_us]
    · rw [pk_un z]
/-- the books are in order -/
def RO (f m tu s0 s1 : Nat → Int32) (n tc r lo hi : Nat) (l0 l1 : List (Nat × Nat)) : Prop := (OW f n) ∧ (n ≤ 41) ∧ (Ar n f m) ∧ (m 330 = nI r) ∧ (r < 1000000) ∧ (1 ≤ lo) ∧ (lo ≤ hi) ∧ (hi ≤ 999) ∧ (TU f n tu tc) ∧ (LSl f n 0 s0 l0) ∧ (LSl f n 1 s1 l1)
theorem RO.ow {f m tu s0 s1 : Nat → Int32} {n tc r lo hi : Nat} {l0 l1 : List (Nat × Nat)} (h : RO f m tu s0 s1 n tc r lo hi l0 l1) : OW f n := h.1
theorem RO.hn {f m tu s0 s1 : Nat → Int32} {n tc r lo hi : Nat} {l0 l1 : List (Nat × Nat)} (h : RO f m tu s0 s1 n tc r lo hi l0 l1) : n ≤ 41 := h.2.1
theorem RO.ar {f m tu s0 s1 : Nat → Int32} {n tc r lo hi : Nat} {l0 l1 : List (Nat × Nat)} (h : RO f m tu s0 s1 n tc r lo hi l0 l1) : Ar n f m := h.2.2.1
theorem RO.h330 {f m tu s0 s1 : Nat → Int32} {n tc r lo hi : Nat} {l0 l1 : List (Nat × Nat)} (h : RO f m tu s0 s1 n tc r lo hi l0 l1) : m 330 = nI r := h.2.2.2.1
theorem RO.hr {f m tu s0 s1 : Nat → Int32} {n tc r lo hi : Nat} {l0 l1 : List (Nat × Nat)} (h : RO f m tu s0 s1 n tc r lo hi l0 l1) : r < 1000000 := h.2.2.2.2.1
theorem RO.hlo {f m tu s0 s1 : Nat → Int32} {n tc r lo hi : Nat} {l0 l1 : List (Nat × Nat)} (h : RO f m tu s0 s1 n tc r lo hi l0 l1) : 1 ≤ lo := h.2.2.2.2.2.1
theorem RO.hlh {f m tu s0 s1 : Nat → Int32} {n tc r lo hi : Nat} {l0 l1 : List (Nat × Nat)} (h : RO f m tu s0 s1 n tc r lo hi l0 l1) : lo ≤ hi := h.2.2.2.2.2.2.1
theorem RO.hhi {f m tu s0 s1 : Nat → Int32} {n tc r lo hi : Nat} {l0 l1 : List (Nat × Nat)} (h : RO f m tu s0 s1 n tc r lo hi l0 l1) : hi ≤ 999 := h.2.2.2.2.2.2.2.1
theorem RO.tu {f m tu s0 s1 : Nat → Int32} {n tc r lo hi : Nat} {l0 l1 : List (Nat × Nat)} (h : RO f m tu s0 s1 n tc r lo hi l0 l1) : TU f n tu tc := h.2.2.2.2.2.2.2.2.1
theorem RO.l0 {f m tu s0 s1 : Nat → Int32} {n tc r lo hi : Nat} {l0 l1 : List (Nat × Nat)} (h : RO f m tu s0 s1 n tc r lo hi l0 l1) : LSl f n 0 s0 l0 := h.2.2.2.2.2.2.2.2.2.1
theorem RO.l1 {f m tu s0 s1 : Nat → Int32} {n tc r lo hi : Nat} {l0 l1 : List (Nat × Nat)} (h : RO f m tu s0 s1 n tc r lo hi l0 l1) : LSl f n 1 s1 l1 := h.2.2.2.2.2.2.2.2.2.2
/-- what a round has told -/
def RD (f m : Nat → Int32) (n lo hi : Nat) (l0 l1 : List (Nat × Nat)) (ct : Nat → Int32) (D : R5) : Prop := (D.2.1 0 = (rP m ct (qt m) n lo hi).1) ∧ (D.2.1 1 = rV m ct (qt m) n lo hi) ∧ (D.2.1 2 = rR m ct (qt m) n lo hi) ∧ (D.2.1 3 = (rP m ct (qt m) n lo hi).2.1) ∧ (D.2.1 4 = (rP m ct (qt m) n lo hi).2.2) ∧ (∀ k, k < n → D.2.2.1 k = rF m ct (qt m) n lo hi k) ∧ (∀ j, j < l0.length → (pl ct f (rP m ct (qt m) n lo hi).1 l0 (rV m ct (qt m) n lo hi))[j]? = some (D.2.2.2.1 j)) ∧ (∀ j, j < l1.length → (pl ct f (rP m ct (qt m) n lo hi).1 l1 (rV m ct (qt m) n lo hi))[j]? = some (D.2.2.2.2 j)) ∧ (∃ v, v < 1000000 ∧ rV m ct (qt m) n lo hi = nI v) ∧ ((rP m ct (qt m) n lo hi).1 < 0 → rV m ct (qt m) n lo hi = 0 ∧ (rP m ct (qt m) n lo hi).2.1 = 0)
theorem RD.g0 {f m : Nat → Int32} {n lo hi : Nat} {l0 l1 : List (Nat × Nat)} {ct : Nat → Int32} {D : R5} (h : RD f m n lo hi l0 l1 ct D) : D.2.1 0 = (rP m ct (qt m) n lo hi).1 := h.1
theorem RD.g1 {f m : Nat → Int32} {n lo hi : Nat} {l0 l1 : List (Nat × Nat)} {ct : Nat → Int32} {D : R5} (h : RD f m n lo hi l0 l1 ct D) : D.2.1 1 = rV m ct (qt m) n lo hi := h.2.1
theorem RD.g2 {f m : Nat → Int32} {n lo hi : Nat} {l0 l1 : List (Nat × Nat)} {ct : Nat → Int32} {D : R5} (h : RD f m n lo hi l0 l1 ct D) : D.2.1 2 = rR m ct (qt m) n lo hi := h.2.2.1
theorem RD.g3 {f m : Nat → Int32} {n lo hi : Nat} {l0 l1 : List (Nat × Nat)} {ct : Nat → Int32} {D : R5} (h : RD f m n lo hi l0 l1 ct D) : D.2.1 3 = (rP m ct (qt m) n lo hi).2.1 := h.2.2.2.1
theorem RD.g4 {f m : Nat → Int32} {n lo hi : Nat} {l0 l1 : List (Nat × Nat)} {ct : Nat → Int32} {D : R5} (h : RD f m n lo hi l0 l1 ct D) : D.2.1 4 = (rP m ct (qt m) n lo hi).2.2 := h.2.2.2.2.1
theorem RD.fl {f m : Nat → Int32} {n lo hi : Nat} {l0 l1 : List (Nat × Nat)} {ct : Nat → Int32} {D : R5} (h : RD f m n lo hi l0 l1 ct D) : ∀ k, k < n → D.2.2.1 k = rF m ct (qt m) n lo hi k := h.2.2.2.2.2.1
theorem RD.p0 {f m : Nat → Int32} {n lo hi : Nat} {l0 l1 : List (Nat × Nat)} {ct : Nat → Int32} {D : R5} (h : RD f m n lo hi l0 l1 ct D) : ∀ j, j < l0.length → (pl ct f (rP m ct (qt m) n lo hi).1 l0 (rV m ct (qt m) n lo hi))[j]? = some (D.2.2.2.1 j) := h.2.2.2.2.2.2.1
theorem RD.p1 {f m : Nat → Int32} {n lo hi : Nat} {l0 l1 : List (Nat × Nat)} {ct : Nat → Int32} {D : R5} (h : RD f m n lo hi l0 l1 ct D) : ∀ j, j < l1.length → (pl ct f (rP m ct (qt m) n lo hi).1 l1 (rV m ct (qt m) n lo hi))[j]? = some (D.2.2.2.2 j) := h.2.2.2.2.2.2.2.1
theorem RD.vn {f m : Nat → Int32} {n lo hi : Nat} {l0 l1 : List (Nat × Nat)} {ct : Nat → Int32} {D : R5} (h : RD f m n lo hi l0 l1 ct D) : ∃ v, v < 1000000 ∧ rV m ct (qt m) n lo hi = nI v := h.2.2.2.2.2.2.2.2.1
theorem RD.neg {f m : Nat → Int32} {n lo hi : Nat} {l0 l1 : List (Nat × Nat)} {ct : Nat → Int32} {D : R5} (h : RD f m n lo hi l0 l1 ct D) : (rP m ct (qt m) n lo hi).1 < 0 → rV m ct (qt m) n lo hi = 0 ∧ (rP m ct (qt m) n lo hi).2.1 = 0 := h.2.2.2.2.2.2.2.2.2
section RND
variable {f m tu s0 s1 : Nat → Int32} {n tc r lo hi : Nat} {l0 l1 : List (Nat × Nat)}
/-- states and counted agree -/
def CA (f : Nat → Int32) (n : Nat) (sa ct : Nat → Int32) : Prop := (∀ k, k < n → (ct k ≠ 0 ↔ sa k = 0)) ∧ ∀ k, k < n → sa k = 0 → f (8 * k + 7) = 0
theorem rd_g (h : RO f m tu s0 s1 n tc r lo hi l0 l1) {ct : Nat → Int32} {D : R5} (hC : CA f n D.1 ct) :
    rdg (mkK f tu tc n r lo hi s0 s1 l0.length l1.length) D 0 = (rP m ct (qt m) n lo hi).1 ∧ rdg (mkK f tu tc n r lo hi s0 s1 l0.length l1.length) D 1 = rV m ct (qt m) n lo hi ∧ rdg (mkK f tu tc n r lo hi s0 s1 l0.length l1.length) D 2 = rR m ct (qt m) n lo hi ∧ rdg (mkK f tu tc n r lo hi s0 s1 l0.length l1.length) D 3 = (rP m ct (qt m) n lo hi).2.1 ∧ rdg (mkK f tu tc n r lo hi s0 s1 l0.length l1.length) D 4 = (rP m ct (qt m) n lo hi).2.2 ∧ (∃ v, v < 1000000 ∧ rV m ct (qt m) n lo hi = nI v) ∧ ((rP m ct (qt m) n lo hi).1 < 0 → rV m ct (qt m) n lo hi = 0 ∧ (rP m ct (qt m) n lo hi).2.1 = 0) := by
  have hci := fpl_ci (r := r) h.ow h.hn h.tu hC.2 hC.1 h.hr h.hlo h.hhi (tc + 1) lo 0 (upd (upd (upd (upd D.2.1 5 (nI r)) 1 0) 4 0) 6 0) (Nat.le_refl _) (by have := h.hlh; omega) (by omega) (fun i hi => by omega) (fun _ => Or.inl (by omega)) (by rw [Nat.sub_self]; exact ci_0)
  have hlh := h.hlh
  have hhi := h.hhi
  obtain ⟨d1, d2, d3, d4, d5⟩ := fp3_dcd h.hr (by omega) (fun p _ _ => h.ow.abz (ct := ct) (p := nI p) h.hn) hci
  have eP : rP m ct (qt m) n lo hi = fp3 (fun q => vof (bs4 f ct (qt f) (nI q) n)) (fun q => ref (bs4 f ct (qt f) (nI q) n)) lo (hi + 1 - lo) (nI r) := by
    rw [rP, h.h330]
    exact fp3_cg (fun p _ _ => by
      have := bs4_cm (p := nI p) h.ar.sy n (Nat.le_refl _) (ct := ct) (ct' := ct) (fun _ _ => rfl) (qt_cm h.ar.sy)
      rw [this]
      exact ⟨rfl, rfl⟩)
  have eG : rdg (mkK f tu tc n r lo hi s0 s1 l0.length l1.length) D = dcd (fpl f D.1 tu tc (nI hi) (tc + 1) (nI lo) 0 (tpj f D.1 tu n 0) (upd (upd (upd (upd D.2.1 5 (nI r)) 1 0) 4 0) 6 0)) := rfl
  rw [eG]
  generalize fpl f D.1 tu tc (nI hi) (tc + 1) (nI lo) 0 (tpj f D.1 tu n 0) (upd (upd (upd (upd D.2.1 5 (nI r)) 1 0) 4 0) 6 0) = g at *
  rw [← eP] at d1 d2 d3 d5
  refine ⟨d1.symm, ?_⟩
  rcases d5 with ⟨c1, c2, c3⟩ | ⟨c1, q, q1, q2, q3, q4, q5⟩
  · have hneg : (rP m ct (qt m) n lo hi).1 < 0 := by rw [c2]; decide
    have eV : rV m ct (qt m) n lo hi = 0 := by rw [rV, if_pos hneg]
    refine ⟨by rw [d4, c1, eV], by rw [c3, rR, if_pos hneg], d2.symm, d3.symm, ⟨0, by omega, eV⟩, fun _ => ⟨eV, ?_⟩⟩
    rw [d2, dcd_0 c1]
    rfl
  · have hneg : ¬ (rP m ct (qt m) n lo hi).1 < 0 := by
      rw [q3]
      exact Int32.not_lt.mpr (nI_pos' (by omega))
    have eb : bs4 m ct (qt m) (nI q) n = bs4 f ct (qt f) (nI q) n := bs4_cm h.ar.sy n (Nat.le_refl _) (fun _ _ => rfl) (qt_cm h.ar.sy)
    have eV : rV m ct (qt m) n lo hi = g 1 := by rw [rV, if_neg hneg, q3, eb]; exact q4
    have eR : rR m ct (qt m) n lo hi = dcd g 2 := by rw [rR, if_neg hneg, q3, eb]; exact q5
    obtain ⟨t, t1, t2, -⟩ := h.ow.vol (ct := ct) (p := nI q) h.hn
    exact ⟨by rw [d4, eV], eR.symm, d2.symm, d3.symm, ⟨t, t2, by rw [eV, ← q4]; exact t1⟩, fun z => absurd z hneg⟩
theorem rd_sp (h : RO f m tu s0 s1 n tc r lo hi l0 l1) {ct : Nat → Int32} {D : R5} (hC : CA f n D.1 ct) : RD f m n lo hi l0 l1 ct (rd1 (mkK f tu tc n r lo hi s0 s1 l0.length l1.length) D) := by
  obtain ⟨a0, a1, a2, a3, a4, ⟨v, v1, v2⟩, a5⟩ := rd_g h hC
  have hg : ∀ k, k < n → ct k ≠ 0 → f (8 * k + 7) = 0 := fun k hk z => hC.2 k hk ((hC.1 k hk).mp z)
  have S0 := shr_sp (pr := (rP m ct (qt m) n lo hi).1) (v := v) (p0 := D.2.2.2.1) (fl := fl0 D.2.2.1 0 41) h.ow h.hn h.l0 hC.1 (by omega) l0.length (Nat.le_refl _)
  have eA : rda (mkK f tu tc n r lo hi s0 s1 l0.length l1.length) D = shr f D.1 s0 (rP m ct (qt m) n lo hi).1 (nI v) D.2.2.2.1 (fl0 D.2.2.1 0 41) l0.length := by
    show shr f D.1 s0 (rdg _ D 0) (rdg _ D 1) D.2.2.2.1 (fl0 D.2.2.1 0 41) l0.length = _
    rw [a0, a1, v2]
  have S1 := shr_sp (pr := (rP m ct (qt m) n lo hi).1) (v := v) (p0 := D.2.2.2.2) (fl := (rda (mkK f tu tc n r lo hi s0 s1 l0.length l1.length) D).2.2) h.ow h.hn h.l1 hC.1 (by omega) l1.length (Nat.le_refl _)
  have eB : rdb (mkK f tu tc n r lo hi s0 s1 l0.length l1.length) D = shr f D.1 s1 (rP m ct (qt m) n lo hi).1 (nI v) D.2.2.2.2 (rda (mkK f tu tc n r lo hi s0 s1 l0.length l1.length) D).2.2 l1.length := by
    show shr f D.1 s1 (rdg _ D 0) (rdg _ D 1) D.2.2.2.2 _ l1.length = _
    rw [a0, a1, v2]
  rw [List.take_length] at S0 S1
  rw [← eA] at S0
  rw [← eB] at S1
  refine ⟨a0, a1, a2, a3, a4, fun k hk => ?_, fun j hj => ?_, fun j hj => ?_, ⟨v, v1, v2⟩, a5⟩
  · show (rdb _ D).2.2 k = _
    rw [S1.2.2.1, S0.2.2.1]
    have m0 : ∀ q ∈ lwv ct f (rP m ct (qt m) n lo hi).1 l0, q.1 < n ∧ ∃ x, x ≤ 9999 ∧ ptf f (qt f) q.1 (nI q.2) = nI x := fun q hq => by
      have := (h.l0.2.2 q.1 q.2).mp (lwv_mem.mp hq).1
      obtain ⟨x, -, x2, x3⟩ := sv_pos h.ow this.1 this.2
      exact ⟨this.1, x, x2, x3⟩
    have m1 : ∀ q ∈ lwv ct f (rP m ct (qt m) n lo hi).1 l1, q.1 < n ∧ ∃ x, x ≤ 9999 ∧ ptf f (qt f) q.1 (nI q.2) = nI x := fun q hq => by
      have := (h.l1.2.2 q.1 q.2).mp (lwv_mem.mp hq).1
      obtain ⟨x, -, x2, x3⟩ := sv_pos h.ow this.1 this.2
      exact ⟨this.1, x, x2, x3⟩
    have z : ∀ j, j < n → fl0 D.2.2.1 0 41 j = 0 := fun j hj => by rw [fl0_at, if_pos (by have := h.hn; omega)]
    rw [rF]
    by_cases hneg : (rP m ct (qt m) n lo hi).1 < 0
    · rw [if_pos hneg]
      have e0 := (a5 hneg).1
      rw [v2] at e0
      rw [e0, fil_z _ _ (fun q hq => (m0 q hq).2), fil_z _ _ (fun q hq => (m1 q hq).2)]
      exact z k hk
    · rw [if_neg hneg, v2]
      have L0 : slc m ct (qt m) 0 (rP m ct (qt m) n lo hi).1 n = lwv ct f (rP m ct (qt m) n lo hi).1 l0 := by
        rw [slc_cm h.ar.sy (fun _ _ => rfl) (qt_cm h.ar.sy)]
        exact slc_lw h.ow h.hn (by omega) h.l0 hg
      have L1 : slc m ct (qt m) 1 (rP m ct (qt m) n lo hi).1 n = lwv ct f (rP m ct (qt m) n lo hi).1 l1 := by
        rw [slc_cm h.ar.sy (fun _ _ => rfl) (qt_cm h.ar.sy)]
        exact slc_lw h.ow h.hn (by omega) h.l1 hg
      rw [L0, L1]
      exact fil_cm h.ar _ _ _ _ (fun q hq => (m1 q hq).1) (qt_cm h.ar) (fil_cm h.ar _ _ _ _ (fun q hq => (m0 q hq).1) (qt_cm h.ar) z) k hk
  · rw [v2]; exact S0.2.2.2 j hj
  · rw [v2]; exact S1.2.2.2 j hj
/-- only who is counted is filled -/
theorem rF_ct (h : RO f m tu s0 s1 n tc r lo hi l0 l1) {ct sa : Nat → Int32} (hC : CA f n sa ct) {k : Nat} (hz : ct k = 0) : rF m ct (qt m) n lo hi k = 0 := by
  rw [rF]
  split
  · rfl
  · have hs : ∀ sd, ∀ q ∈ slc m ct (qt m) sd (rP m ct (qt m) n lo hi).1 n, q.1 ≠ k := fun sd q hq z => by
      have := (slc_lt rfl q hq).2.2.2.1.1
      rw [z] at this
      exact this hz
    rw [fil_out _ _ _ (hs 1), fil_out _ _ _ (hs 0)]
theorem lus_unh (h : RO f m tu s0 s1 n tc r lo hi l0 l1) {ct sa fl : Nat → Int32} (hC : CA f n sa ct) (hf : ∀ k, k < n → fl k = rF m ct (qt m) n lo hi k) : ∀ i, i ≤ n → lus f fl i = unh m ct (rF m ct (qt m) n lo hi) i
  | 0, _ => rfl
  | i + 1, hi1 => by
    rw [lus, unh, lus_unh h hC hf i (by omega), hf i (by omega), h.ar.at (i := 5) (show i < n by omega) (by omega)]
    by_cases c : 0 < rF m ct (qt m) n lo hi i ∧ rF m ct (qt m) n lo hi i < m (8 * i + 5)
    · have hz : ct i ≠ 0 := fun z => by
        have c1 := c.1
        rw [rF_ct h hC z] at c1
        exact absurd c1 (by decide)
      rw [if_pos c, if_pos ⟨hz, c⟩]
    · rw [if_neg c, if_neg (fun z => c z.2)]
theorem cnc_pos {ct : Nat → Int32} {k : Nat} (hk : ct k ≠ 0) : ∀ n, k < n → 1 ≤ cnc ct n
  | 0, h => by omega
  | n + 1, h => by
    rw [cnc]
    by_cases e : k = n
    · subst e; rw [if_pos hk]; omega
    · have := cnc_pos hk n (by omega)
      omega
/-- states, counted, outs -/
def CO (f : Nat → Int32) (n : Nat) (sa ct ou : Nat → Int32) : Prop := CA f n sa ct ∧ (∀ k, k < n → (ou k = 0 ↔ sa k ≠ 2)) ∧ ∀ k, k < n → (sa k = 1 ∨ f (8 * k + 7) = 0) ∧ (sa k = 0 ∨ sa k = 1 ∨ sa k = 2)
theorem rl_sp (h : RO f m tu s0 s1 n tc r lo hi l0 l1) : ∀ (e k : Nat) (D : R5) (ct ou : Nat → Int32), CO f n D.1 ct ou → cnc ct n < e →
    (rlp (mkK f tu tc n r lo hi s0 s1 l0.length l1.length) e (k + 1) D).1 = (crs m (qt m) n lo hi e ct ou k).2.2 ∧ CO f n (rlp (mkK f tu tc n r lo hi s0 s1 l0.length l1.length) e (k + 1) D).2.1 (crs m (qt m) n lo hi e ct ou k).1 (crs m (qt m) n lo hi e ct ou k).2.1 ∧ RD f m n lo hi l0 l1 (crs m (qt m) n lo hi e ct ou k).1 (rlp (mkK f tu tc n r lo hi s0 s1 l0.length l1.length) e (k + 1) D).2 ∧ k < (crs m (qt m) n lo hi e ct ou k).2.2 ∧ (crs m (qt m) n lo hi e ct ou k).2.2 ≤ k + 1 + cnc ct n := by
  intro e
  induction e with
  | zero => intro k D ct ou _ hc; omega
  | succ e ih =>
    intro k D ct ou hC hc
    have hR := rd_sp h hC.1
    have hl := lus_unh h hC.1 hR.fl n (Nat.le_refl _)
    rw [rlp, crs_s]
    show (if lus f (rd1 (mkK f tu tc n r lo hi s0 s1 l0.length l1.length) D).2.2.1 n = -1 then _ else _ : Nat × R5).1 = _ ∧ _
    have hn := h.hn
    rcases unh_in (m := m) (ct := ct) (fl := rF m ct (qt m) n lo hi) n with u | ⟨w, w1, w2, w3, w4⟩
    · rw [hl, u, if_pos rfl, if_pos (by decide)]
      exact ⟨rfl, hC, hR, Nat.lt_succ_self _, by show k + 1 ≤ _; omega⟩
    · rw [hl, w2, if_neg (fun z => by have := nI_pos' (n := w) (by omega); rw [z] at this; exact absurd this (by decide)), if_neg (Int32.not_lt.mpr (nI_pos' (by omega))), nI_clamp (by omega)]
      have ho := cnc_out w3 n
      rw [if_pos w1] at ho
      have hC2 : CO f n (upd D.1 w 2) (upd ct w 0) (upd ou w 1) := by
        refine ⟨⟨fun j hj => ?_, fun j hj hz => ?_⟩, fun j hj => ?_, fun j hj => ?_⟩
        · by_cases e : j = w
          · subst e; rw [pk_us, pk_us]; exact ⟨fun z => absurd rfl z, fun z => absurd z (by decide)⟩
          · rw [pk_un e, pk_un e]; exact hC.1.1 j hj
        · by_cases e : j = w
          · subst e; rw [pk_us] at hz; exact absurd hz (by decide)
          · rw [pk_un e] at hz; exact hC.1.2 j hj hz
        · by_cases e : j = w
          · subst e; rw [pk_us, pk_us]; exact ⟨fun z => absurd z (by decide), fun z => absurd rfl z⟩
          · rw [pk_un e, pk_un e]; exact hC.2.1 j hj
        · by_cases e : j = w
          · subst e; rw [pk_us]; exact ⟨Or.inr (hC.1.2 j hj ((hC.1.1 j hj).mp w3)), Or.inr (Or.inr rfl)⟩
          · rw [pk_un e]; exact hC.2.2 j hj
      obtain ⟨i1, i2, i3, i4, i5⟩ := ih (k + 1) (upd D.1 w 2, (rd1 (mkK f tu tc n r lo hi s0 s1 l0.length l1.length) D).2) (upd ct w 0) (upd ou w 1) hC2 (by omega)
      exact ⟨i1, i2, i3, by omega, by omega⟩
theorem st0_at {x : Int32} {sa : Nat → Int32} : ∀ i j, j < i → st0 f x sa i j = if nI j = x ∨ f (8 * j + 7) ≠ 0 then 1 else 0
  | 0, j, h => by omega
  | i + 1, j, h => by
    rw [st0]
    by_cases e : j = i
    · subst e; rw [pk_us]
    · rw [pk_un e]; exact st0_at i j (by omega)
theorem st0_co (h : RO f m tu s0 s1 n tc r lo hi l0 l1) {x : Int32} {sa : Nat → Int32} : CO f n (st0 f x sa n) (ct0 m x) (fun _ => 0) := by
  have key : ∀ k, k < n → ((m (8 * k + 7) = 1 ∨ nI k = x) ↔ (nI k = x ∨ f (8 * k + 7) ≠ 0)) := fun k hk => by
    rw [← h.ar.at (i := 7) hk (by omega)]
    have := h.ow.g01 hk
    constructor
    · rintro (z | z)
      · exact Or.inr (fun y => this.mpr y z)
      · exact Or.inl z
    · rintro (z | z)
      · exact Or.inr z
      · by_cases y : f (8 * k + 7) = 1
        · exact Or.inl y
        · exact absurd (this.mp y) z
  refine ⟨⟨fun k hk => ?_, fun k hk hz => ?_⟩, fun k hk => ?_, fun k hk => ?_⟩
  · rw [st0_at n k hk, ct0]
    by_cases c : m (8 * k + 7) = 1 ∨ nI k = x
    · rw [if_pos c, if_pos ((key k hk).mp c)]
      exact ⟨fun z => absurd rfl z, fun z => absurd z (by decide)⟩
    · rw [if_neg c, if_neg (fun z => c ((key k hk).mpr z))]
      exact ⟨fun _ => rfl, fun _ => by decide⟩
  · rw [st0_at n k hk] at hz
    by_cases c : nI k = x ∨ f (8 * k + 7) ≠ 0
    · rw [if_pos c] at hz; exact absurd hz (by decide)
    · exact Classical.not_not.mp (fun z => c (Or.inr z))
  · rw [st0_at n k hk]
    refine ⟨fun _ => ?_, fun _ => rfl⟩
    split <;> decide
  · rw [st0_at n k hk]
    by_cases c : nI k = x ∨ f (8 * k + 7) ≠ 0
    · rw [if_pos c]; exact ⟨Or.inl rfl, Or.inr (Or.inl rfl)⟩
    · rw [if_neg c]; exact ⟨Or.inr (Classical.not_not.mp (fun z => c (Or.inr z))), Or.inl rfl⟩
/-- the class's run and the reference's cross -/
theorem run_sp (h : RO f m tu s0 s1 n tc r lo hi l0 l1) {x : Int32} {D : R5} :
    (rlp (mkK f tu tc n r lo hi s0 s1 l0.length l1.length) (n + 1) 1 (st0 f x D.1 n, D.2)).1 = (crs m (qt m) n lo hi (n + 1) (ct0 m x) (fun _ => 0) 0).2.2 ∧ CO f n (rlp (mkK f tu tc n r lo hi s0 s1 l0.length l1.length) (n + 1) 1 (st0 f x D.1 n, D.2)).2.1 (crs m (qt m) n lo hi (n + 1) (ct0 m x) (fun _ => 0) 0).1 (crs m (qt m) n lo hi (n + 1) (ct0 m x) (fun _ => 0) 0).2.1 ∧ RD f m n lo hi l0 l1 (crs m (qt m) n lo hi (n + 1) (ct0 m x) (fun _ => 0) 0).1 (rlp (mkK f tu tc n r lo hi s0 s1 l0.length l1.length) (n + 1) 1 (st0 f x D.1 n, D.2)).2 ∧ 0 < (crs m (qt m) n lo hi (n + 1) (ct0 m x) (fun _ => 0) 0).2.2 ∧ (crs m (qt m) n lo hi (n + 1) (ct0 m x) (fun _ => 0) 0).2.2 ≤ 42 := by
  have hc := cnc_le (ct0 m x) n
  have hn := h.hn
  obtain ⟨i1, i2, i3, i4, i5⟩ := rl_sp h (n + 1) 0 (st0 f x D.1 n, D.2) (ct0 m x) (fun _ => 0) (st0_co h) (by omega)
  exact ⟨i1, i2, i3, i4, by omega⟩
end RND
