/-! the class's trades are the reference's -/
theorem ls_len {f s0 s1 : Nat → Int32} {n : Nat} {l0 l1 : List (Nat × Nat)} (h0 : LSl f n 0 s0 l0) (h1 : LSl f n 1 s1 l1) : l0.length + l1.length ≤ 2 * n := by
  have nd : ∀ {sd : Nat} {s : Nat → Int32} {l : List (Nat × Nat)}, LSl f n sd s l → l.Nodup := fun h => h.2.1.imp (fun hlt e => by rw [e] at hlt; exact Nat.lt_irrefl _ hlt)
  have hnd : (l0 ++ l1).Nodup := by
    refine List.nodup_append.mpr ⟨nd h0, nd h1, fun a ha b hb e => ?_⟩
    subst e
    have x0 := ((h0.2.2 a.1 a.2).mp ha).2.2.1
    have x1 := ((h1.2.2 a.1 a.2).mp hb).2.2.1
    rw [x0] at x1
    exact absurd x1 (by decide)
  have := pig (2 * n) ((l0 ++ l1).map (fun q => 2 * q.1 + q.2)) ?_ ?_
  · rw [List.length_map, List.length_append] at this
    exact this
  · rw [List.Nodup, List.pairwise_map]
    refine List.Pairwise.imp_of_mem ?_ hnd
    intro q r hq hr hne e
    have tq : q.2 < 2 := by
      rcases List.mem_append.mp hq with w | w
      · exact sv_t ((h0.2.2 q.1 q.2).mp w).2
      · exact sv_t ((h1.2.2 q.1 q.2).mp w).2
    have tr : r.2 < 2 := by
      rcases List.mem_append.mp hr with w | w
      · exact sv_t ((h0.2.2 r.1 r.2).mp w).2
      · exact sv_t ((h1.2.2 r.1 r.2).mp w).2
    exact hne (Prod.ext (by omega) (by omega))
  · intro x hx
    obtain ⟨q, hq, rfl⟩ := List.mem_map.mp hx
    rcases List.mem_append.mp hq with w | w
    · have := (h0.2.2 q.1 q.2).mp w
      have := sv_t this.2
      omega
    · have := (h1.2.2 q.1 q.2).mp w
      have := sv_t this.2
      omega
section XTR
variable {f m tu s0 s1 : Nat → Int32} {n tc r lo hi : Nat} {l0 l1 : List (Nat × Nat)}
theorem kl_of {s p : Nat → Int32} {sd v : Nat} {l : List (Nat × Nat)} {ct : Nat → Int32} {pr : Int32} (hO : OW f n) (hn : n ≤ 41) (hl : LSl f n sd s l) (hv : v < 1000000) (hp : ∀ j, j < l.length → (pl ct f pr l (nI v))[j]? = some (p j)) : KL s p 0 l.length (zp ct f pr l v) := by
  refine ⟨by rw [zp_len]; omega, fun i q hq => ?_⟩
  obtain ⟨⟨a, a1, a2⟩, b1, b2⟩ := zp_pl (ct := ct) (p := pr) l v (by omega) (fun x hx => by
    have := (hl.2.2 x.1 x.2).mp hx
    obtain ⟨y, -, y2, y3⟩ := sv_pos hO this.1 this.2
    exact ⟨y, y2, y3⟩) i q hq
  obtain ⟨hi, e⟩ := List.getElem?_eq_some_iff.mp a1
  have hm := (hl.2.2 a.1 a.2).mp (by rw [← e]; exact List.getElem_mem hi)
  rw [Nat.zero_add]
  refine ⟨?_, ?_, by omega⟩
  · rw [hl.1 i a a1, a2, pk_andN (by have := skey_lt (t := a.2) hO hn hm.1; omega) 6 (by decide), show skey f a.1 a.2 % 2 ^ 6 = a.1 from skey_o hO hn hm.1]
  · have := hp i hi
    rw [b1] at this
    exact (Option.some.inj this).symm
theorem szn_pos {s : Nat → Int32} {sd : Nat} {l : List (Nat × Nat)} (hO : OW f n) (hl : LSl f n sd s l) : ∀ q ∈ l, (1 ≤ (szn f q).2 ∧ (szn f q).2 < 2 ^ 31) ∧ ptf f (qt f) q.1 (nI q.2) = nI (szn f q).2 := fun q hq => by
  have := (hl.2.2 q.1 q.2).mp hq
  obtain ⟨y, y1, y2, y3⟩ := sv_pos hO this.1 this.2
  have e : (szn f q).2 = y := by rw [szn, y3]; exact nI_clamp (by omega)
  rw [e]
  exact ⟨⟨y1, by omega⟩, y3⟩
theorem mat_sp (h : RO f m tu s0 s1 n tc r lo hi l0 l1) (hbn : bn m = n) (hblo : blo m = lo) (hbhi : bhi m = hi) {D : R5} {sa : Nat → Int32} (hC : CA f n sa (xC m (-1)).1) (hD : RD f m n lo hi l0 l1 (xC m (-1)).1 D) {tr : Nat → Int32} :
    ∃ T, TCl (mlp s0 s1 l0.length l1.length (l0.length + l1.length) 0 0 (D.2.2.2.1, D.2.2.2.2, tr, 0)).2.2.1 (mlp s0 s1 l0.length l1.length (l0.length + l1.length) 0 0 (D.2.2.2.1, D.2.2.2.2, tr, 0)).2.2.2 T ∧ T.map gq = xT m ∧ T.length ≤ 82 := by
  subst hbn; subst hblo; subst hbhi
  obtain ⟨v, v1, v2⟩ := hD.vn
  have hlen := ls_len h.l0 h.l1
  have hn := h.hn
  have hg : ∀ k, k < bn m → (xC m (-1)).1 k ≠ 0 → f (8 * k + 7) = 0 := fun k hk z => hC.2 k hk ((hC.1 k hk).mp z)
  have K0 := kl_of (p := D.2.2.2.1) h.ow h.hn h.l0 v1 (by rw [← v2]; exact hD.p0)
  have K1 := kl_of (p := D.2.2.2.2) h.ow h.hn h.l1 v1 (by rw [← v2]; exact hD.p1)
  have z0 := szn_pos h.ow h.l0
  have z1 := szn_pos h.ow h.l1
  have hT := mlp_mt (l0.length + l1.length) 0 0 (D.2.2.2.1, D.2.2.2.2, tr, 0) _ _ [] K0 K1 ⟨rfl, fun k q hq => absurd hq (by simp)⟩ (by rw [zp_len, zp_len]; show 0 + _ + _ ≤ 82; omega)
  rw [List.nil_append] at hT
  have eP : xP m (-1) = rP m (xC m (-1)).1 (qt m) (bn m) (blo m) (bhi m) := rfl
  have eV : xV m (-1) = nI v := v2
  have hm := mt_mg (l0.length + l1.length) ((lwv (xC m (-1)).1 f (xP m (-1)).1 l0).length + (lwv (xC m (-1)).1 f (xP m (-1)).1 l1).length) (zp (xC m (-1)).1 f (xP m (-1)).1 l0 v) (zp (xC m (-1)).1 f (xP m (-1)).1 l1 v) (by rw [zp_len, zp_len]; exact Nat.le_refl _) (by
    rw [zp_cz _ _ (fun q hq => (z0 q hq).1.1), zp_cz _ _ (fun q hq => (z1 q hq).1.1)]
    have a1 := cz_len ((lwv (xC m (-1)).1 f (xP m (-1)).1 l0).map (szn f)) v
    have a2 := cz_len ((lwv (xC m (-1)).1 f (xP m (-1)).1 l1).map (szn f)) v
    rw [List.length_map] at a1 a2
    omega)
  refine ⟨_, hT, ?_, ?_⟩
  · rw [← eP, hm, zp_cz _ _ (fun q hq => (z0 q hq).1.1), zp_cz _ _ (fun q hq => (z1 q hq).1.1), xT]
    by_cases hneg : (xP m (-1)).1 < 0
    · rw [if_pos hneg]
      have e0 := (hD.neg hneg).1
      rw [v2] at e0
      have : v = 0 := (nI_eq (b := 0) (by omega) (by omega)).mp e0
      rw [this, cz_0, mg_0]
      rfl
    · rw [if_neg hneg]
      have sl : ∀ (sd : Nat) (s : Nat → Int32) (l : List (Nat × Nat)), sd < 2 → LSl f (bn m) sd s l → slp m (xC m (-1)).1 (nI sd) (xP m (-1)).1 = ((lwv (xC m (-1)).1 f (xP m (-1)).1 l).map (szn f)).map fq := by
        intro sd s l hsd hl
        rw [slp, slc_cm h.ar.sy (fun _ _ => rfl) (qt_cm h.ar.sy), slc_lw h.ow h.hn hsd hl hg, List.map_map]
        refine List.map_congr_left (fun q hq => ?_)
        have hq := (lwv_mem.mp hq).1
        have hq2 := (hl.2.2 q.1 q.2).mp hq
        rw [ptf_cm h.ar.sy hq2.1 (qt_cm h.ar.sy q.1 hq2.1), (szn_pos h.ow hl q hq).2]
        rfl
      have pn : ∀ (sd : Nat) (s : Nat → Int32) (l : List (Nat × Nat)), LSl f (bn m) sd s l → PN ((lwv (xC m (-1)).1 f (xP m (-1)).1 l).map (szn f)) := by
        intro sd s l hl x hx
        obtain ⟨q, hq, rfl⟩ := List.mem_map.mp hx
        exact (szn_pos h.ow hl q (lwv_mem.mp hq).1).1
      have s0' := sl 0 s0 l0 (by omega) h.l0
      have s1' := sl 1 s1 l1 (by omega) h.l1
      rw [show nI 0 = 0 from rfl] at s0'
      rw [show nI 1 = 1 from rfl] at s1'
      rw [s0', s1', eV, trd_mg _ v _ _ (by omega) (pn 0 s0 l0 h.l0) (pn 1 s1 l1 h.l1), List.length_map, List.length_map, List.length_map, List.length_map]
  · -- as many as slices at most
    have ml : ∀ (e : Nat) (B S : List (Nat × Nat)), (mt e B S).length ≤ e := by
      intro e
      induction e with
      | zero => intro B S; exact Nat.le_refl _
      | succ e ih =>
        intro B S
        cases B with
        | nil => exact Nat.zero_le _
        | cons q B =>
          cases S with
          | nil => exact Nat.zero_le _
          | cons r S =>
            rw [mt, List.length_append]
            have a : (if 0 < min q.2 r.2 then [(q.1, r.1, min q.2 r.2)] else []).length ≤ 1 := by split <;> simp
            have b : (if q.2 - min q.2 r.2 = 0 then mt e B ((r.1, r.2 - min q.2 r.2) :: S) else mt e ((q.1, q.2 - min q.2 r.2) :: B) S).length ≤ e := by
              split
              · exact ih _ _
              · exact ih _ _
            omega
    have := ml (l0.length + l1.length) (zp (xC m (-1)).1 f (rP m (xC m (-1)).1 (qt m) (bn m) (blo m) (bhi m)).1 l0 v) (zp (xC m (-1)).1 f (rP m (xC m (-1)).1 (qt m) (bn m) (blo m) (bhi m)).1 l1 v)
    omega
end XTR
