section ESW
variable {G : GP} {Y : MI} {pc : Nat} {ls : List (Option Value)} {st : List Value} {M : Wd} {kr nr : Nat} {Q : Option Value → Wd → Prop}
theorem Ev.lsw {dflt : Int} {ps : Array (Int × Int)} {len : Nat} {x : Int32} {off : Int} {tgt : Nat} (hd : Dc Y pc (.lookupswitch dflt ps) len) (hp : (ps.toList.zip (ps.toList.drop 1)).all (fun (a, next) => a.1 < next.1) = true) (ho : Op.lookupswitch.offset ps.toList dflt x.toInt = off) (ht : (pc : Int) + off = (tgt : Int)) (k : Ev G Y tgt ls st M kr nr Q) : Ev G Y pc ls (.int x :: st) M kr nr Q := by
  intro p e R s m args below meth c Z C hR arr H locs cells slots hl hP hS h1 h2
  exact lv_lookup C.1 C.2.1 hd hp ho ht (k p e R s m args below meth c Z C hR arr H locs cells slots hl hP hS h1 h2)
theorem Ev.tin {dflt lo hi : Int} {offs : Array Int} {len : Nat} {x : Int32} {off : Int} {tgt : Nat} (hd : Dc Y pc (.tableswitch dflt lo hi offs) len) (g1 : ¬ x.toInt < lo) (g2 : ¬ hi < x.toInt) (ho : offs[(x.toInt - lo).toNat]? = some off) (ht : (pc : Int) + off = (tgt : Int)) (k : Ev G Y tgt ls st M kr nr Q) : Ev G Y pc ls (.int x :: st) M kr nr Q := by
  intro p e R s m args below meth c Z C hR arr H locs cells slots hl hP hS h1 h2
  exact lv_tableIn C.1 C.2.1 hd g1 g2 ho ht (k p e R s m args below meth c Z C hR arr H locs cells slots hl hP hS h1 h2)
theorem Ev.tout {dflt lo hi : Int} {offs : Array Int} {len : Nat} {x : Int32} {tgt : Nat} (hd : Dc Y pc (.tableswitch dflt lo hi offs) len) (g1 : x.toInt < lo ∨ hi < x.toInt) (ht : (pc : Int) + dflt = (tgt : Int)) (k : Ev G Y tgt ls st M kr nr Q) : Ev G Y pc ls (.int x :: st) M kr nr Q := by
  intro p e R s m args below meth c Z C hR arr H locs cells slots hl hP hS h1 h2
  exact lv_tableOut C.1 C.2.1 hd g1 ht (k p e R s m args below meth c Z C hR arr H locs cells slots hl hP hS h1 h2)
end ESW
/-- all cells but those of L stay -/
def Fr (L : List Nat) (M M' : Wd) : Prop := ∀ b : Nat, b ∉ L → gt M' b = gt M b
theorem Fr.rf {L : List Nat} {M : Wd} : Fr L M M := fun _ _ => rfl
theorem Fr.pt {L : List Nat} {M M1 : Wd} {a : Nat} {e : En} (h : Fr L M M1) (ha : a ∈ L) : Fr L M (up M1 a e) := fun b hb => by
  have hne : b ≠ a := fun q => hb (by rw [q]; exact ha)
  rw [gt_ne hne]
  exact h b hb
theorem Fr.tr {L : List Nat} {M M1 M2 : Wd} (h : Fr L M M1) (h2 : Fr L M1 M2) : Fr L M M2 := fun b hb => (h2 b hb).trans (h b hb)
theorem Fr.mono {L L' : List Nat} {M M1 : Wd} (h : Fr L M M1) (hL : ∀ a, a ∈ L → a ∈ L') : Fr L' M M1 := fun b hb => h b (fun q => hb (hL b q))
theorem Fr.rd {L : List Nat} {M M1 : Wd} {b : Nat} {e : En} (h : Fr L M M1) (hb : b ∉ L) (k : gt M b = some e) : gt M1 b = some e := (h b hb).trans k
theorem nI_inc (k : Nat) : nI k + Int32.ofInt 1 = nI (k + 1) := nI_1 k
theorem nI_dec (k : Nat) : nI (k + 1) + Int32.ofInt (-1) = nI k := pk_m1 k
theorem ix8 {k j n : Nat} (h : 8 * k + j < n) (hn : n ≤ 100000) : vp_in (nI k * 8 + nI j) n ∧ (nI k * 8 + nI j).toNatClampNeg = 8 * k + j := by
  have e : nI k * 8 + nI j = nI (8 * k + j) := by
    have := pk_mul k 8
    rw [show nI 8 = 8 from rfl] at this
    rw [this, nI_add, Nat.mul_comm]
  rw [e]
  exact ⟨vp_in_nI h (by omega), nI_clamp (by omega)⟩
/-- an int of either sign -/
def iI (z : Int) : Int32 := Int32.ofInt z
theorem iI_n (n : Nat) : iI (n : Int) = nI n := Int32.ofInt_eq_ofNat
theorem iI_toInt {z : Int} (h1 : -2147483648 ≤ z) (h2 : z < 2147483648) : (iI z).toInt = z := by
  exact Int32.toInt_ofInt_of_le (by omega) (by omega)
theorem iI_eq {a b : Int} (h1 : -2147483648 ≤ a) (h2 : a < 2147483648) (h3 : -2147483648 ≤ b) (h4 : b < 2147483648) : iI a = iI b ↔ a = b := by
  rw [← Int32.toInt_inj, iI_toInt h1 h2, iI_toInt h3 h4]
theorem iI_lt {a b : Int} (h1 : -2147483648 ≤ a) (h2 : a < 2147483648) (h3 : -2147483648 ≤ b) (h4 : b < 2147483648) : iI a < iI b ↔ a < b := by
  rw [Int32.lt_iff_toInt_lt, iI_toInt h1 h2, iI_toInt h3 h4]
theorem iI_le {a b : Int} (h1 : -2147483648 ≤ a) (h2 : a < 2147483648) (h3 : -2147483648 ≤ b) (h4 : b < 2147483648) : iI a ≤ iI b ↔ a ≤ b := by
  rw [Int32.le_iff_toInt_le, iI_toInt h1 h2, iI_toInt h3 h4]
theorem iI_add (a b : Int) : iI a + iI b = iI (a + b) := (Int32.ofInt_add a b).symm
theorem iI_sub (a b : Int) : iI a - iI b = iI (a - b) := (Int32.ofInt_sub a b).symm
theorem iI_mul (a b : Int) : iI a * iI b = iI (a * b) := (Int32.ofInt_mul a b).symm
theorem iI_neg (a : Int) : -iI a = iI (-a) := (Int32.ofInt_neg a).symm
theorem nI_iI (n : Nat) : nI n = iI (n : Int) := (iI_n n).symm
theorem nI_in_of {x : Int32} {n : Nat} (h1 : 0 ≤ x) (h2 : x < nI n) (hn : n < 2 ^ 31) : ∃ k : Nat, k < n ∧ x = nI k := by
  obtain ⟨j, hj, e⟩ := nI_of (Int32.not_lt.mpr h1)
  subst e
  exact ⟨j, (nI_ltI hj hn).mp h2, rfl⟩
theorem Ct.mono {G : GP} {Y : MI} {As : List Value} {M : Wd} {mc ms : Nat} {Q Q' : Option Value → Wd → Prop} (h : Ct G Y As M mc ms Q) (hq : ∀ v M', Q v M' → Q' v M') : Ct G Y As M mc ms Q' := by
  intro p e ha hc hk s m args below hf hfit hP hK
  obtain ⟨k, o, h1, h2, h3, ⟨⟨⟨v, M', g1, g2, g3⟩, g4⟩, g5⟩⟩ := h p e ha hc hk s m args below hf hfit hP hK
  exact ⟨k, o, h1, h2, h3, ⟨⟨v, M', g1, hq _ _ g2, g3⟩, g4⟩, g5⟩
theorem Ev.cg {G : GP} {Y : MI} {pc : Nat} {ls ls' : List (Option Value)} {st : List Value} {M : Wd} {kr nr : Nat} {Q : Option Value → Wd → Prop} (h : ls = ls') (k : Ev G Y pc ls' st M kr nr Q) : Ev G Y pc ls st M kr nr Q := h ▸ k
theorem Ev.cgM {G : GP} {Y : MI} {pc : Nat} {ls ls' : List (Option Value)} {st : List Value} {M M' : Wd} {kr nr : Nat} {Q : Option Value → Wd → Prop} (h : ls = ls') (hM : M = M') (k : Ev G Y pc ls' st M' kr nr Q) : Ev G Y pc ls st M kr nr Q := by subst h; subst hM; exact k
theorem Ev.post {G : GP} {Y : MI} {pc : Nat} {ls : List (Option Value)} {st : List Value} {M : Wd} {kr nr : Nat} {Q Q' : Option Value → Wd → Prop} (k : Ev G Y pc ls st M kr nr Q) (h : ∀ v M', Q v M' → Q' v M') : Ev G Y pc ls st M kr nr Q' := by
  intro p e R s m args below meth c Z C hR
  exact k p e R s m args below meth c Z C ⟨fun v M pc arr H locs cells slots hQ => hR.1 v M pc arr H locs cells slots (h v M hQ), fun M pc arr H locs cells slots hQ => hR.2 M pc arr H locs cells slots (h none M hQ)⟩
def In (M : Wd) (a : Nat) : Prop := gt M a ≠ none
theorem In_of {M : Wd} {a : Nat} {x : En} (h : gt M a = some x) : In M a := by unfold In; rw [h]; exact fun q => by cases q
theorem In_up {M : Wd} {a b : Nat} {e : En} (h : In M b) : In (up M a e) b := fun q => h (gt_none_up.mp q)
theorem In_nw {M : Wd} {a b : Nat} {e : En} (h : In M b) : In (M ++ [(a, e)]) b := by
  cases hx : gt M b with
  | none => exact absurd hx h
  | some x =>
    by_cases q : b = a
    · subst q
      intro z
      have : ∀ (M : Wd) (x : En), gt M b = some x → gt (M ++ [(b, e)]) b = some x := by
        intro M
        induction M with
        | nil => intro x h; cases h
        | cons p t ih =>
          intro x h
          obtain ⟨c, e1⟩ := p
          by_cases hb : b = c
          · simp [gt, hb] at h ⊢
            exact h
          · simp only [gt, if_neg hb, List.cons_append] at h ⊢
            exact ih x h
      rw [this M x hx] at z
      cases z
    · exact In_of (gt_odr q hx)
theorem gt_upI {M : Wd} {a : Nat} {e : En} (h : In M a) : gt (up M a e) a = some e := by
  cases hx : gt M a with
  | none => exact absurd hx h
  | some x => exact gt_up hx
