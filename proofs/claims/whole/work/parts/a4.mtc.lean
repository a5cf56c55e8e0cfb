/-! trades: parts side by side are slices side by side -/
def nz (l : List (Nat × Nat)) : List (Nat × Nat) := l.filter (fun q => decide (0 < q.2))
theorem nz_t {q : Nat × Nat} {l : List (Nat × Nat)} (h : 0 < q.2) : nz (q :: l) = q :: nz l := List.filter_cons_of_pos (decide_eq_true h)
theorem nz_f {q : Nat × Nat} {l : List (Nat × Nat)} (h : ¬ 0 < q.2) : nz (q :: l) = nz l := List.filter_cons_of_neg (by rw [decide_eq_true_iff]; exact h)
def cz : Nat → List (Nat × Nat) → List (Nat × Nat)
  | _, [] => []
  | t, q :: B => if t = 0 then [] else (q.1, min t q.2) :: cz (t - min t q.2) B
theorem cz_0 : ∀ B, cz 0 B = []
  | [] => rfl
  | q :: B => by rw [cz, if_pos rfl]
theorem cz_len : ∀ (B : List (Nat × Nat)) (t : Nat), (cz t B).length ≤ B.length
  | [], t => Nat.le_refl _
  | q :: B, t => by
    rw [cz]
    split
    · exact Nat.zero_le _
    · rw [List.length_cons, List.length_cons]
      have := cz_len B (t - min t q.2)
      omega
def hd (q : Nat × Nat) (d : Nat) (B : List (Nat × Nat)) : List (Nat × Nat) := if q.2 - d = 0 then B else (q.1, q.2 - d) :: B
def mg : Nat → List (Nat × Nat) → List (Nat × Nat) → List (Nat × Nat × Nat)
  | 0, _, _ => []
  | _ + 1, [], _ => []
  | _ + 1, _ :: _, [] => []
  | e + 1, q :: B, r :: S => (q.1, r.1, min q.2 r.2) :: mg e (hd q (min q.2 r.2) B) (hd r (min q.2 r.2) S)
theorem mg_0 : ∀ e S, mg e [] S = []
  | 0, _ => rfl
  | _ + 1, _ => rfl
theorem mg_1 : ∀ e B, mg e B [] = []
  | 0, _ => rfl
  | _ + 1, [] => rfl
  | _ + 1, _ :: _ => rfl
theorem cz_hd {q : Nat × Nat} {t d : Nat} {B : List (Nat × Nat)} (hq : 1 ≤ q.2) (ht : 1 ≤ t) (hd1 : d ≤ min t q.2) : cz (t - d) (hd q d B) = hd (q.1, min t q.2) d (cz (t - min t q.2) B) := by
  rw [hd, hd]
  by_cases c : t ≤ q.2
  · have e : min t q.2 = t := Nat.min_eq_left c
    rw [e] at hd1 ⊢
    show _ = if t - d = 0 then _ else (q.1, t - d) :: _
    rw [Nat.sub_self, cz_0]
    by_cases z : t - d = 0
    · rw [if_pos z, z, cz_0]
    · rw [if_neg z]
      by_cases y : q.2 - d = 0
      · omega
      · rw [if_neg y, cz, if_neg z]
        show (q.1, min (t - d) (q.2 - d)) :: cz (t - d - min (t - d) (q.2 - d)) B = _
        rw [show min (t - d) (q.2 - d) = t - d by omega, Nat.sub_self, cz_0]
  · have e : min t q.2 = q.2 := Nat.min_eq_right (by omega)
    rw [e] at hd1 ⊢
    show _ = if q.2 - d = 0 then _ else (q.1, q.2 - d) :: _
    by_cases z : q.2 - d = 0
    · rw [if_pos z, if_pos z, show t - d = t - q.2 by omega]
    · rw [if_neg z, if_neg z, cz, if_neg (by omega)]
      show (q.1, min (t - d) (q.2 - d)) :: cz (t - d - min (t - d) (q.2 - d)) B = _
      rw [show min (t - d) (q.2 - d) = q.2 - d by omega, show t - d - (q.2 - d) = t - q.2 by omega]
abbrev fq (q : Nat × Nat) : Nat × Int32 := (q.1, nI q.2)
abbrev gq (q : Nat × Nat × Nat) : Nat × Nat × Int32 := (q.1, q.2.1, nI q.2.2)
def PN (B : List (Nat × Nat)) : Prop := ∀ q ∈ B, 1 ≤ q.2 ∧ q.2 < 2 ^ 31
theorem PN.hdq {q : Nat × Nat} {d : Nat} {B : List (Nat × Nat)} (h : PN (q :: B)) : PN (hd q d B) := by
  rw [hd]
  have h0 := h q List.mem_cons_self
  split
  · exact fun p hp => h p (List.mem_cons_of_mem _ hp)
  · intro p hp
    rcases List.mem_cons.mp hp with e | e
    · rw [e]
      show 1 ≤ q.2 - d ∧ q.2 - d < 2 ^ 31
      omega
    · exact h p (List.mem_cons_of_mem _ e)
theorem trd_mg : ∀ (e t : Nat) (B S : List (Nat × Nat)), t < 2 ^ 31 → PN B → PN S → trd e (nI t) (B.map fq) (S.map fq) = (mg e (cz t B) (cz t S)).map gq
  | 0, _, _, _, _, _, _ => rfl
  | e + 1, t, [], S, _, _, _ => by rw [cz, mg_0]; rfl
  | e + 1, t, q :: B, [], _, _, _ => by rw [show cz t [] = [] from rfl, mg_1]; rfl
  | e + 1, t, q :: B, r :: S, ht, hB, hS => by
    have hq := hB q List.mem_cons_self
    have hr := hS r List.mem_cons_self
    show (if nI t ≤ 0 then [] else _) = _
    by_cases z : t = 0
    · subst z
      rw [if_pos (by decide), cz_0, mg_0]; rfl
    · rw [if_neg (fun w => by have := (nI_leI (b := 0) (by omega) (by omega)).mp w; omega), cz, cz, if_neg z, if_neg z, mg]
      have em : mn (nI t) (mn (nI q.2) (nI r.2)) = nI (min t (min q.2 r.2)) := by rw [mn_n hq.2 hr.2, mn_n ht (by omega)]
      have ed : min (min t q.2) (min t r.2) = min t (min q.2 r.2) := by omega
      show (q.1, r.1, mn (nI t) (mn (nI q.2) (nI r.2))) :: trd e (nI t - mn (nI t) (mn (nI q.2) (nI r.2))) (if nI q.2 - mn (nI t) (mn (nI q.2) (nI r.2)) = 0 then B.map fq else (q.1, nI q.2 - mn (nI t) (mn (nI q.2) (nI r.2))) :: B.map fq) (if nI r.2 - mn (nI t) (mn (nI q.2) (nI r.2)) = 0 then S.map fq else (r.1, nI r.2 - mn (nI t) (mn (nI q.2) (nI r.2))) :: S.map fq) = (q.1, r.1, nI (min (min t q.2) (min t r.2))) :: (mg e (hd (q.1, min t q.2) (min (min t q.2) (min t r.2)) (cz (t - min t q.2) B)) (hd (r.1, min t r.2) (min (min t q.2) (min t r.2)) (cz (t - min t r.2) S))).map gq
      rw [em, ed]
      generalize hD : min t (min q.2 r.2) = d
      rw [← cz_hd hq.1 (by omega) (by omega), ← cz_hd hr.1 (by omega) (by omega), nI_subI (by omega), nI_subI (by omega), nI_subI (by omega)]
      have hh : ∀ (p : Nat × Nat) (C : List (Nat × Nat)), p.2 < 2 ^ 31 → (if nI (p.2 - d) = 0 then C.map fq else (p.1, nI (p.2 - d)) :: C.map fq) = (hd p d C).map fq := by
        intro p C hp
        rw [hd]
        by_cases w : p.2 - d = 0
        · rw [if_pos w, w, if_pos nI_0]
        · rw [if_neg w, if_neg (show ¬ nI (p.2 - d) = 0 from fun y => w ((nI_eq (b := 0) (by omega) (by omega)).mp y))]; rfl
      rw [hh q B hq.2, hh r S hr.2, trd_mg e (t - d) _ _ (by omega) hB.hdq hS.hdq]
/-- the class's way over lists -/
def mt : Nat → List (Nat × Nat) → List (Nat × Nat) → List (Nat × Nat × Nat)
  | 0, _, _ => []
  | _ + 1, [], _ => []
  | _ + 1, _ :: _, [] => []
  | e + 1, q :: B, r :: S => (if 0 < min q.2 r.2 then [(q.1, r.1, min q.2 r.2)] else []) ++ (if q.2 - min q.2 r.2 = 0 then mt e B ((r.1, r.2 - min q.2 r.2) :: S) else mt e ((q.1, q.2 - min q.2 r.2) :: B) S)
theorem nz_hd {q : Nat × Nat} {d : Nat} {B : List (Nat × Nat)} : nz ((q.1, q.2 - d) :: B) = hd q d (nz B) := by
  rw [hd]
  by_cases z : q.2 - d = 0
  · rw [if_pos z, nz_f (by show ¬ 0 < q.2 - d; omega)]
  · rw [if_neg z, nz_t (by show 0 < q.2 - d; omega)]
theorem nz_len {B : List (Nat × Nat)} : (nz B).length ≤ B.length := List.length_filter_le _ _
theorem hd_len {q : Nat × Nat} {d : Nat} {B : List (Nat × Nat)} : (hd q d B).length ≤ B.length + 1 ∧ (q.2 - d = 0 → hd q d B = B) := by
  rw [hd]
  refine ⟨?_, fun z => if_pos z⟩
  split
  · omega
  · exact Nat.le_refl _
theorem mt_mg : ∀ (e e' : Nat) (B S : List (Nat × Nat)), B.length + S.length ≤ e → (nz B).length + (nz S).length ≤ e' → mt e B S = mg e' (nz B) (nz S)
  | 0, e', [], S, _, _ => (mg_0 _ _).symm
  | 0, e', _ :: _, S, h, _ => by rw [List.length_cons] at h; omega
  | e + 1, e', [], S, _, _ => (mg_0 _ _).symm
  | e + 1, e', q :: B, [], _, _ => (mg_1 _ _).symm
  | e + 1, e', q :: B, r :: S, h, h' => by
    rw [List.length_cons, List.length_cons] at h
    rw [mt]
    by_cases c1 : 0 < q.2
    · by_cases c2 : 0 < r.2
      · rw [nz_t c1, nz_t c2] at h' ⊢
        rw [List.length_cons, List.length_cons] at h'
        obtain ⟨e2, rfl⟩ : ∃ e2, e' = e2 + 1 := ⟨e' - 1, by omega⟩
        rw [mg, if_pos (by omega)]
        show (q.1, r.1, min q.2 r.2) :: _ = _
        congr 1
        by_cases z : q.2 - min q.2 r.2 = 0
        · rw [if_pos z, hd_len.2 z, ← nz_hd]
          refine mt_mg e e2 _ _ (by rw [List.length_cons]; omega) ?_
          have := nz_hd (q := r) (d := min q.2 r.2) (B := S)
          rw [this]
          have := (hd_len (q := r) (d := min q.2 r.2) (B := nz S)).1
          omega
        · rw [if_neg z, (hd_len (q := r) (d := min q.2 r.2) (B := nz S)).2 (by omega), ← nz_hd]
          refine mt_mg e e2 _ _ (by rw [List.length_cons]; omega) ?_
          have := nz_hd (q := q) (d := min q.2 r.2) (B := B)
          rw [this]
          have := (hd_len (q := q) (d := min q.2 r.2) (B := nz B)).1
          omega
      · have e0 : r.2 = 0 := by omega
        have em : min q.2 r.2 = 0 := by omega
        rw [em, if_neg (by omega), if_neg (by omega), nz_f c2]
        rw [nz_f c2] at h'
        exact mt_mg e e' (q :: B) S (by rw [List.length_cons]; omega) h'
    · have em : min q.2 r.2 = 0 := by omega
      rw [em, if_neg (by omega), if_pos (by omega), nz_f c1]
      rw [nz_f c1] at h'
      exact mt_mg e e' B (r :: S) (by rw [List.length_cons]; omega) h'
/-- a list in keys and parts, from i on -/
def KL (s p : Nat → Int32) (i c : Nat) (B : List (Nat × Nat)) : Prop := i + B.length = c ∧ ∀ (r : Nat) (q : Nat × Nat), B[r]? = some q → s (i + r) &&& 63 = nI q.1 ∧ p (i + r) = nI q.2 ∧ q.2 < 2 ^ 31
theorem KL.tl {s p : Nat → Int32} {i c : Nat} {q : Nat × Nat} {B : List (Nat × Nat)} {y : Int32} (h : KL s p i c (q :: B)) : KL s (upd p i y) (i + 1) c B := by
  refine ⟨by have := h.1; rw [List.length_cons] at this; omega, fun r x hx => ?_⟩
  have := h.2 (r + 1) x (by simpa using hx)
  rw [show i + (r + 1) = i + 1 + r by omega] at this
  rw [pk_un (by omega)]
  exact this
theorem KL.up {s p : Nat → Int32} {i c x : Nat} {q : Nat × Nat} {B : List (Nat × Nat)} (h : KL s p i c (q :: B)) (hx : x < 2 ^ 31) : KL s (upd p i (nI x)) i c ((q.1, x) :: B) := by
  refine ⟨by have := h.1; rw [List.length_cons] at this ⊢; omega, fun r y hy => ?_⟩
  cases r with
  | zero =>
    have := h.2 0 q rfl
    have e : (q.1, x) = y := by simpa using hy
    subst e
    exact ⟨this.1, pk_us .., hx⟩
  | succ r =>
    rw [pk_un (by omega)]
    exact h.2 (r + 1) y (by simpa using hy)
/-- trades as the class notes them -/
def TCl (tr : Nat → Int32) (c : Nat) (T : List (Nat × Nat × Nat)) : Prop := c = T.length ∧ ∀ (k : Nat) (q : Nat × Nat × Nat), T[k]? = some q → tr (3 * k + 0) = nI q.1 ∧ tr (3 * k + 1) = nI q.2.1 ∧ tr (3 * k + 2) = nI q.2.2
theorem TCl.ad {tr : Nat → Int32} {c : Nat} {T : List (Nat × Nat × Nat)} {q : Nat × Nat × Nat} (h : TCl tr c T) {x y z : Int32} (hx : x = nI q.1) (hy : y = nI q.2.1) (hz : z = nI q.2.2) : TCl (upd (upd (upd tr (3 * c + 0) x) (3 * c + 1) y) (3 * c + 2) z) (c + 1) (T ++ [q]) := by
  refine ⟨by rw [List.length_append, h.1]; rfl, fun k p hp => ?_⟩
  by_cases e : k < T.length
  · rw [List.getElem?_append_left e] at hp
    have hc := h.1
    rw [pk_un (by omega), pk_un (by omega), pk_un (by omega), pk_un (by omega), pk_un (by omega), pk_un (by omega), pk_un (by omega), pk_un (by omega), pk_un (by omega)]
    exact h.2 k p hp
  · rw [List.getElem?_append_right (by omega)] at hp
    have hk : k - T.length = 0 := by
      by_cases w : k - T.length = 0
      · exact w
      · rw [List.getElem?_eq_none (by simp; omega)] at hp
        exact absurd hp (by simp)
    rw [hk] at hp
    have e2 : q = p := by simpa using hp
    have e3 : k = c := by have := h.1; omega
    subst e2; subst e3
    refine ⟨?_, ?_, ?_⟩
    · rw [pk_un (by omega), pk_un (by omega), pk_us, hx]
    · rw [pk_un (by omega), pk_us, hy]
    · rw [pk_us, hz]
theorem mlp_mt {s0 s1 : Nat → Int32} {c0 c1 : Nat} : ∀ (e b s : Nat) (P : P4) (B S : List (Nat × Nat)) (T : List (Nat × Nat × Nat)), KL s0 P.1 b c0 B → KL s1 P.2.1 s c1 S → TCl P.2.2.1 P.2.2.2 T → P.2.2.2 + B.length + S.length ≤ 82 → TCl (mlp s0 s1 c0 c1 e b s P).2.2.1 (mlp s0 s1 c0 c1 e b s P).2.2.2 (T ++ mt e B S) := by
  intro e
  induction e with
  | zero =>
    intro b s P B S T hB hS hT hc
    rw [mt, List.append_nil]
    exact hT
  | succ e ih =>
    intro b s P B S T hB hS hT hc
    rw [mlp]
    cases B with
    | nil =>
      have := hB.1
      rw [List.length_nil] at this
      rw [if_neg (by omega), mt, List.append_nil]
      exact hT
    | cons q B =>
      cases S with
      | nil =>
        have := hS.1
        rw [List.length_nil] at this
        rw [if_neg (by omega), mt, List.append_nil]
        exact hT
      | cons r S =>
        have h1 := hB.1
        have h2 := hS.1
        rw [List.length_cons] at h1 h2 hc
        rw [List.length_cons] at hc
        obtain ⟨k0, p0, z0⟩ := hB.2 0 q rfl
        obtain ⟨k1, p1, z1⟩ := hS.2 0 r rfl
        rw [Nat.add_zero] at k0 p0 k1 p1
        have em : mn (P.1 b) (P.2.1 s) = nI (min q.2 r.2) := by rw [p0, p1, mn_n z0 z1]
        rw [if_pos ⟨by omega, by omega⟩, mt]
        have hT2 : TCl (mn2 s0 s1 b s P).2.2.1 (mn2 s0 s1 b s P).2.2.2 (T ++ (if 0 < min q.2 r.2 then [(q.1, r.1, min q.2 r.2)] else [])) ∧ (mn2 s0 s1 b s P).2.2.2 ≤ P.2.2.2 + 1 := by
          show TCl (mn1 s0 s1 b s P).2.2.1 (mn1 s0 s1 b s P).2.2.2 _ ∧ (mn1 s0 s1 b s P).2.2.2 ≤ _
          rw [mn1, em]
          by_cases w : 0 < min q.2 r.2
          · rw [if_pos w, if_pos ⟨(nI_ltI (a := 0) (by omega) (by omega)).mpr w, by omega⟩]
            exact ⟨hT.ad k0 k1 rfl, Nat.le_refl _⟩
          · rw [if_neg w, if_neg (fun y => w ((nI_ltI (a := 0) (by omega) (by omega)).mp y.1)), List.append_nil]
            exact ⟨hT, by omega⟩
        have e0 : (mn2 s0 s1 b s P).1 = upd P.1 b (nI (q.2 - min q.2 r.2)) := by
          show upd P.1 b (P.1 b - mn (P.1 b) (P.2.1 s)) = _
          rw [em, p0, nI_subI (by omega)]
        have e1 : (mn2 s0 s1 b s P).2.1 = upd P.2.1 s (nI (r.2 - min q.2 r.2)) := by
          show upd P.2.1 s (P.2.1 s - mn (P.1 b) (P.2.1 s)) = _
          rw [em, p1, nI_subI (by omega)]
        have ez : (P.1 b - mn (P.1 b) (P.2.1 s) = 0) ↔ q.2 - min q.2 r.2 = 0 := by
          rw [em, p0, nI_subI (by omega)]
          exact nI_eq (b := 0) (by omega) (by omega)
        by_cases w : q.2 - min q.2 r.2 = 0
        · rw [if_pos (ez.mpr w), if_pos w, ← List.append_assoc]
          refine ih (b + 1) s _ B ((r.1, r.2 - min q.2 r.2) :: S) _ ?_ ?_ hT2.1 (by rw [List.length_cons]; have := hT2.2; omega)
          · rw [e0]; exact hB.tl
          · rw [e1]; exact hS.up (by omega)
        · rw [if_neg (fun y => w (ez.mp y)), if_neg w, ← List.append_assoc]
          refine ih b (s + 1) _ ((q.1, q.2 - min q.2 r.2) :: B) S _ ?_ ?_ hT2.1 (by rw [List.length_cons]; have := hT2.2; omega)
          · rw [e0]; exact hB.up (by omega)
          · rw [e1]; exact hS.tl
/-- the parts of a side, zeros left out, are the slices cut to the volume -/
def szn (f : Nat → Int32) (q : Nat × Nat) : Nat × Nat := (q.1, (ptf f (qt f) q.1 (nI q.2)).toNatClampNeg)
noncomputable def zp (ct f : Nat → Int32) (p : Int32) : List (Nat × Nat) → Nat → List (Nat × Nat)
  | [], _ => []
  | q :: r, t => @ite _ (srv ct f p q) (Classical.propDecidable _) ((q.1, min t (szn f q).2) :: zp ct f p r (t - min t (szn f q).2)) ((q.1, 0) :: zp ct f p r t)
section MTC
variable {f ct : Nat → Int32} {p : Int32}
theorem zp_0 : ∀ l, nz (zp ct f p l 0) = []
  | [] => rfl
  | q :: r => by
    rw [zp]
    by_cases c : srv ct f p q
    · rw [if_pos c, Nat.zero_min, nz_f (by show ¬ 0 < 0; omega)]
      exact zp_0 r
    · rw [if_neg c, nz_f (by show ¬ 0 < 0; omega)]
      exact zp_0 r
theorem zp_cz : ∀ (l : List (Nat × Nat)) (t : Nat), (∀ q ∈ l, 1 ≤ (szn f q).2) → nz (zp ct f p l t) = cz t ((lwv ct f p l).map (szn f))
  | [], t, _ => rfl
  | q :: r, t, h => by
    have hq := h q List.mem_cons_self
    have hr := fun x hx => h x (List.mem_cons_of_mem q hx)
    rw [zp]
    by_cases c : srv ct f p q
    · rw [if_pos c, lwv_t c, List.map_cons, cz]
      by_cases z : t = 0
      · subst z
        rw [if_pos rfl, Nat.zero_min, nz_f (by show ¬ 0 < 0; omega)]
        exact zp_0 r
      · rw [if_neg z, nz_t (by show 0 < min t (szn f q).2; omega), zp_cz r _ hr]
        rfl
    · rw [if_neg c, lwv_f c, nz_f (by show ¬ 0 < 0; omega)]
      exact zp_cz r t hr
theorem zp_len : ∀ (l : List (Nat × Nat)) (t : Nat), (zp ct f p l t).length = l.length
  | [], t => rfl
  | q :: r, t => by
    rw [zp]
    split
    · rw [List.length_cons, List.length_cons, zp_len r]
    · rw [List.length_cons, List.length_cons, zp_len r]
theorem zp_pl : ∀ (l : List (Nat × Nat)) (t : Nat), t < 2 ^ 31 → (∀ q ∈ l, ∃ x, x ≤ 9999 ∧ ptf f (qt f) q.1 (nI q.2) = nI x) → ∀ (i : Nat) (x : Nat × Nat), (zp ct f p l t)[i]? = some x → (∃ q : Nat × Nat, l[i]? = some q ∧ x.1 = q.1) ∧ (pl ct f p l (nI t))[i]? = some (nI x.2) ∧ x.2 ≤ t
  | [], t, _, _, i, x, h => by rw [zp] at h; exact absurd h (by simp)
  | q :: r, t, ht, hl, i, x, h => by
    obtain ⟨y, y1, y2⟩ := hl q List.mem_cons_self
    have hr := fun x hx => hl x (List.mem_cons_of_mem q hx)
    have es : (szn f q).2 = y := by rw [szn, y2]; exact nI_clamp (by omega)
    rw [zp] at h
    rw [pl]
    by_cases c : srv ct f p q
    · rw [if_pos c, es] at h
      rw [if_pos c, y2, mn_n ht (by omega), nI_subI (by omega)]
      cases i with
      | zero =>
        have e : (q.1, min t y) = x := by simpa using h
        subst e
        exact ⟨⟨q, rfl, rfl⟩, rfl, by show min t y ≤ t; omega⟩
      | succ i =>
        have h2 : (zp ct f p r (t - min t y))[i]? = some x := by simpa using h
        obtain ⟨⟨a, a1, a2⟩, b1, b2⟩ := zp_pl r (t - min t y) (by omega) hr i x h2
        exact ⟨⟨a, by simpa using a1, a2⟩, by simpa using b1, by omega⟩
    · rw [if_neg c] at h
      rw [if_neg c]
      cases i with
      | zero =>
        have e : (q.1, 0) = x := by simpa using h
        subst e
        exact ⟨⟨q, rfl, rfl⟩, rfl, by show 0 ≤ t; omega⟩
      | succ i =>
        have h2 : (zp ct f p r t)[i]? = some x := by simpa using h
        obtain ⟨⟨a, a1, a2⟩, b1, b2⟩ := zp_pl r t ht hr i x h2
        exact ⟨⟨a, by simpa using a1, a2⟩, by simpa using b1, b2⟩
end MTC
