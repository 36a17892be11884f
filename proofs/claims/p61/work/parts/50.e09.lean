abbrev n_L (c : Nat) : Prop := c = 115 ∨ c = 103 ∨ c = 114 ∨ c = 100 ∨ c = 120 ∨ c = 116
def n_lo (c : Nat) : Nat := if c = 116 then 1 else 0
def n_hi (c : Nat) : Nat := if c = 116 then 100 else if c = 100 ∨ c = 120 then 59 else 11
set_option maxRecDepth 16384 in
theorem n_hi_is (c : Nat) : 11 ≤ n_hi c ∧ n_hi c ≤ 100 := by unfold n_hi; split <;> (try split) <;> omega
set_option maxRecDepth 16384 in
theorem n_lo_is (c : Nat) : n_lo c ≤ 1 := by unfold n_lo; split <;> omega
def n_dg (x : Nat → Nat) (m : Nat) : Nat → Nat → Nat → Nat × Nat
  | 0, p, v => (p, v)
  | d + 1, p, v => if 48 ≤ x p ∧ x p ≤ 57 ∧ 10 * v + (x p - 48) ≤ m then n_dg x m d (p + 1) (10 * v + (x p - 48)) else (p, v)
def n_num (x : Nat → Nat) (l p lo m : Nat) : Nat × Nat × Nat := if p < l ∧ 48 + lo ≤ x p ∧ x p ≤ 57 then (if x p = 48 then (1, p + 1, 0) else (1, n_dg x m (l - (p + 1)) (p + 1) (x p - 48))) else (0, p, 0)
def n_pt (x : Nat → Nat) (l p : Nat) : Nat × Nat × Nat × Nat := if p < l ∧ n_L (x p) then ((n_num x l (p + 1) (n_lo (x p)) (n_hi (x p))).1, (n_num x l (p + 1) (n_lo (x p)) (n_hi (x p))).2.1, x p, (n_num x l (p + 1) (n_lo (x p)) (n_hi (x p))).2.2) else (0, p, 0, 0)
abbrev n_ok (w : Nat → Nat) (c v : Nat) : Prop := c = 116 ∨ ((c = 100 ∨ c = 120) ∧ v < w 552) ∨ (c = 115 ∧ w (8 * v) = 0) ∨ ((c = 103 ∨ c = 114) ∧ w (8 * v) = 3)
def n_do (w : Nat → Nat) (c v : Nat) : Nat → Nat := if c = 116 then (n_go v w).2 else if c = 100 then n_handle w v else if c = 120 then n_lose w v else if c = 115 then n_seek w v else if c = 103 then n_leave w v else n_want w v
def n_ef (o : Nat) (w : Nat → Nat) (c v : Nat) : Nat × (Nat → Nat) := if o = 1 ∧ n_ok w c v then (1, n_do w c v) else (0, w)
def n_pe (g o : Nat) (w : Nat → Nat) (c v : Nat) : Nat × (Nat → Nat) := if g = 0 then (o, w) else n_ef o w c v
def n_tx (x : Nat → Nat) (l : Nat) : Nat → Nat → Nat → (Nat → Nat) → Nat × Nat × Nat × (Nat → Nat)
  | 0, p, o, w => (0, p, o, w)
  | d + 1, p, o, w => if (n_pt x l p).1 = 0 then (0, (n_pt x l p).2.1, o, w) else if (n_pt x l p).2.1 < l then (if x (n_pt x l p).2.1 = 59 then n_tx x l d ((n_pt x l p).2.1 + 1) (n_ef o w (n_pt x l p).2.2.1 (n_pt x l p).2.2.2).1 (n_ef o w (n_pt x l p).2.2.1 (n_pt x l p).2.2.2).2 else (0, (n_pt x l p).2.1, (n_ef o w (n_pt x l p).2.2.1 (n_pt x l p).2.2.2).1, (n_ef o w (n_pt x l p).2.2.1 (n_pt x l p).2.2.2).2)) else (1, (n_pt x l p).2.1, (n_ef o w (n_pt x l p).2.2.1 (n_pt x l p).2.2.2).1, (n_ef o w (n_pt x l p).2.2.1 (n_pt x l p).2.2.2).2)
set_option maxRecDepth 16384 in
theorem n_dg_is {x : Nat → Nat} {m : Nat} : ∀ d p v, v ≤ m → p ≤ (n_dg x m d p v).1 ∧ (n_dg x m d p v).1 ≤ p + d ∧ (n_dg x m d p v).2 ≤ m ∧ v ≤ (n_dg x m d p v).2 := by
  intro d
  induction d with
  | zero => intro p v h; rw [n_dg]; exact ⟨Nat.le_refl _, Nat.le_refl _, h, Nat.le_refl _⟩
  | succ d ih =>
    intro p v h
    rw [n_dg]
    by_cases c : 48 ≤ x p ∧ x p ≤ 57 ∧ 10 * v + (x p - 48) ≤ m
    · rw [if_pos c]
      have := ih (p + 1) (10 * v + (x p - 48)) c.2.2
      omega
    · rw [if_neg c]; exact ⟨Nat.le_refl _, by omega, h, Nat.le_refl _⟩
set_option maxRecDepth 16384 in
theorem n_num_is {x : Nat → Nat} {l p lo m : Nat} (hp : p ≤ l) (hm : 9 ≤ m) (hlo : lo ≤ 1) : (n_num x l p lo m).1 ≤ 1 ∧ p ≤ (n_num x l p lo m).2.1 ∧ (n_num x l p lo m).2.1 ≤ l ∧ (n_num x l p lo m).2.2 ≤ m ∧ ((n_num x l p lo m).1 = 1 → p < (n_num x l p lo m).2.1 ∧ lo ≤ (n_num x l p lo m).2.2) := by
  unfold n_num
  by_cases c : p < l ∧ 48 + lo ≤ x p ∧ x p ≤ 57
  · rw [if_pos c]
    by_cases c2 : x p = 48
    · rw [if_pos c2]
      show 1 ≤ 1 ∧ p ≤ p + 1 ∧ p + 1 ≤ l ∧ 0 ≤ m ∧ (1 = 1 → p < p + 1 ∧ lo ≤ 0)
      omega
    · rw [if_neg c2]
      have := n_dg_is (x := x) (m := m) (l - (p + 1)) (p + 1) (x p - 48) (by omega)
      show 1 ≤ 1 ∧ p ≤ (n_dg x m (l - (p + 1)) (p + 1) (x p - 48)).1 ∧ (n_dg x m (l - (p + 1)) (p + 1) (x p - 48)).1 ≤ l ∧ (n_dg x m (l - (p + 1)) (p + 1) (x p - 48)).2 ≤ m ∧ (1 = 1 → p < (n_dg x m (l - (p + 1)) (p + 1) (x p - 48)).1 ∧ lo ≤ (n_dg x m (l - (p + 1)) (p + 1) (x p - 48)).2)
      omega
  · rw [if_neg c]
    show 0 ≤ 1 ∧ p ≤ p ∧ p ≤ l ∧ 0 ≤ m ∧ (0 = 1 → p < p ∧ lo ≤ 0)
    omega
section
variable {l p g o q m lo : Nat} {x : Nat → Nat} {u u0 : x_H} {w w' : Nat → Nat}
set_option maxRecDepth 16384 in
theorem xbo0 : x_bo (0 : Int32) := by decide
set_option maxRecDepth 16384 in
theorem xbo1 : x_bo (1 : Int32) := by decide
end

section
variable {l p g o q m lo : Nat} {x : Nat → Nat} {u u0 : x_H} {w w' : Nat → Nat}
set_option maxRecDepth 16384 in
theorem n_pe_0 {c v : Nat} : n_pe 0 o w c v = (o, w) := if_pos rfl
set_option maxRecDepth 16384 in
theorem n_pe_1 {c v : Nat} : n_pe 1 o w c v = n_ef o w c v := if_neg (by omega)
set_option maxRecDepth 16384 in
theorem n_ef_y {c v : Nat} (h : o = 1 ∧ n_ok w c v) : n_ef o w c v = (1, n_do w c v) := if_pos h
set_option maxRecDepth 16384 in
theorem n_ef_n {c v : Nat} (h : ¬ (o = 1 ∧ n_ok w c v)) : n_ef o w c v = (0, w) := if_neg h
end

set_option maxRecDepth 16384 in
theorem Wf_do {B : Nat} {w : Nat → Nat} (F : Wf B w) (h9 : B + 700000 ≤ 1000000000) {c v : Nat} (hc : n_L c) (hv : v ≤ n_hi c) (h : n_ok w c v) : Wf (B + 600100) (n_do w c v) := by
  unfold n_hi at hv
  rcases hc with rfl | rfl | rfl | rfl | rfl | rfl
  · rw [if_neg (by decide), if_neg (by decide)] at hv
    exact Wf_up (Wf_seek F (g := v) (by omega) (by omega)) (by omega) (by omega)
  · rw [if_neg (by decide), if_neg (by decide)] at hv
    exact Wf_up (Wf_leave F (g := v) (by omega) (by omega)) (by omega) (by omega)
  · rw [if_neg (by decide), if_neg (by decide)] at hv
    exact Wf_up (Wf_want F (g := v) (by omega) (by omega)) (by omega) (by omega)
  · exact Wf_up (Wf_handle F (p := v) (by omega) (by omega)) (by omega) (by omega)
  · exact Wf_up (Wf_lose F (p := v) (by omega) (by omega)) (by omega) (by omega)
  · rw [if_pos rfl] at hv
    exact (Wf_go F hv h9).1
set_option maxRecDepth 16384 in
theorem Wf_ef {B : Nat} {w : Nat → Nat} (F : Wf B w) (h9 : B + 700000 ≤ 1000000000) {c v : Nat} (hc : n_L c) (hv : v ≤ n_hi c) (o : Nat) : Wf (B + 600100) (n_ef o w c v).2 ∧ (n_ef o w c v).1 ≤ 1 := by
  by_cases h : o = 1 ∧ n_ok w c v
  · rw [n_ef_y h]; exact ⟨Wf_do F h9 hc hv h.2, Nat.le_refl _⟩
  · rw [n_ef_n h]; exact ⟨Wf_up F (by omega) (by omega), Nat.zero_le _⟩
set_option maxRecDepth 16384 in
theorem n_pt_is {x : Nat → Nat} {l p : Nat} (hp : p ≤ l) : (n_pt x l p).1 ≤ 1 ∧ p ≤ (n_pt x l p).2.1 ∧ (n_pt x l p).2.1 ≤ l ∧ ((n_pt x l p).1 = 1 → p < (n_pt x l p).2.1 ∧ n_L (n_pt x l p).2.2.1 ∧ n_lo (n_pt x l p).2.2.1 ≤ (n_pt x l p).2.2.2 ∧ (n_pt x l p).2.2.2 ≤ n_hi (n_pt x l p).2.2.1) := by
  unfold n_pt
  by_cases c : p < l ∧ n_L (x p)
  · rw [if_pos c]
    have h1 := n_hi_is (x p)
    have N := n_num_is (x := x) (l := l) (p := p + 1) (lo := n_lo (x p)) (m := n_hi (x p)) (by omega) (by omega) (n_lo_is _)
    exact ⟨N.1, by have := N.2.1; show p ≤ (n_num x l (p + 1) (n_lo (x p)) (n_hi (x p))).2.1; omega, N.2.2.1, fun h => ⟨by have := (N.2.2.2.2 h).1; show p < (n_num x l (p + 1) (n_lo (x p)) (n_hi (x p))).2.1; omega, c.2, (N.2.2.2.2 h).2, N.2.2.2.1⟩⟩
  · rw [if_neg c]
    exact ⟨Nat.zero_le _, Nat.le_refl _, hp, fun h => absurd (show (0 : Nat) = 1 from h) (by decide)⟩
set_option maxRecDepth 16384 in
theorem lit {k : Nat} (h : k < 1000) {j : Nat} (hj : j < 1000) (hne : k ≠ j) : ¬ nn k = nn j := fun e => hne ((nn_is j h hj).mp e)
section
variable {l p g o q m lo : Nat} {x : Nat → Nat} {u u0 : x_H} {w w' : Nat → Nat}
end

set_option maxRecDepth 16384 in
theorem bud_g {B z a b c : Nat} (h : z + b ≤ c) (hab : a ≤ b) : B + a + z ≤ B + c := by omega
set_option maxRecDepth 16384 in
theorem bud3 {B k k' : Nat} (h : k' + 1 ≤ k) : B + 600100 + 600200 * k' ≤ B + 600200 * k :=
  bud_g (b := 600200) (Nat.le_trans (Nat.le_of_eq (Nat.mul_succ 600200 k').symm) (Nat.mul_le_mul_left 600200 h)) (Nat.le_of_ble_eq_true rfl)
set_option maxRecDepth 16384 in
theorem bud4 {B k : Nat} (h : 1 ≤ k) : B + 600100 ≤ B + 600200 * k := by
  have := bud3 (B := B) (k := k) (k' := 0) h
  exact this
set_option maxRecDepth 16384 in
theorem bud5 {B k M : Nat} (h : B + 600200 * k + 700000 ≤ M) : B + 700000 ≤ M := by
  generalize 600200 * k = z at h
  omega
set_option maxRecDepth 16384 in
theorem bud6 {B k k' M : Nat} (hk : k' + 1 ≤ k) (h : B + 600200 * k + 700000 ≤ M) : B + 600100 + 600200 * k' + 700000 ≤ M := Nat.le_trans (Nat.add_le_add_right (bud3 hk) 700000) h
set_option maxRecDepth 16384 in
theorem bud7 {B k M : Nat} (h : B + 600200 * k + 700000 ≤ M) : B + 600200 * k ≤ M := Nat.le_trans (Nat.le_add_right _ _) h
section
variable {l : Nat} {x : Nat → Nat} {u0 : x_H}
set_option maxRecDepth 16384 in
theorem n_tx_is : ∀ (d B p k o : Nat) (w : Nat → Nat), p + k = l → k < d → o ≤ 1 → Wf B w → B + 600200 * k + 700000 ≤ 1000000000 → (n_tx x l d p o w).1 ≤ 1 ∧ (n_tx x l d p o w).2.1 ≤ l ∧ (n_tx x l d p o w).2.2.1 ≤ 1 ∧ Wf (B + 600200 * k) (n_tx x l d p o w).2.2.2 ∧ ((n_tx x l d p o w).1 = 1 → (n_tx x l d p o w).2.1 = l) := by
  intro d
  induction d with
  | zero => intro B p k o w h1 h2; omega
  | succ d ih =>
    intro B p k o w h1 h2 ho F H
    obtain ⟨p1, p2, p3, p4⟩ := n_pt_is (x := x) (l := l) (p := p) (by omega)
    rw [n_tx]
    by_cases cg : (n_pt x l p).1 = 0
    · rw [if_pos cg]
      exact ⟨Nat.zero_le _, p3, ho, Wf_up F (Nat.le_add_right _ _) (bud7 H), fun h => absurd (show (0 : Nat) = 1 from h) (by decide)⟩
    · have cg1 : (n_pt x l p).1 = 1 := by omega
      obtain ⟨q1, q2, q3, q4⟩ := p4 cg1
      have E := Wf_ef F (bud5 H) q2 q4 o
      rw [if_neg cg]
      by_cases cl : (n_pt x l p).2.1 < l
      · rw [if_pos cl]
        by_cases cx : x (n_pt x l p).2.1 = 59
        · rw [if_pos cx]
          have hk : l - ((n_pt x l p).2.1 + 1) + 1 ≤ k := by omega
          obtain ⟨i1, i2, i3, i4, i5⟩ := ih (B + 600100) ((n_pt x l p).2.1 + 1) (l - ((n_pt x l p).2.1 + 1)) (n_ef o w (n_pt x l p).2.2.1 (n_pt x l p).2.2.2).1 (n_ef o w (n_pt x l p).2.2.1 (n_pt x l p).2.2.2).2 (by omega) (by omega) E.2 E.1 (bud6 hk H)
          exact ⟨i1, i2, i3, Wf_up i4 (bud3 hk) (bud7 H), i5⟩
        · rw [if_neg cx]
          exact ⟨Nat.zero_le _, p3, E.2, Wf_up E.1 (bud4 (by omega)) (bud7 H), fun h => absurd (show (0 : Nat) = 1 from h) (by decide)⟩
      · rw [if_neg cl]
        exact ⟨Nat.le_refl _, p3, E.2, Wf_up E.1 (bud4 (by omega)) (bud7 H), fun _ => by show (n_pt x l p).2.1 = l; omega⟩
end

def Tg (u u0 : x_H) : Prop := ∀ k i, (k ≠ 37 ∨ i = 0) → u k i = u0 k i
def Tk (u u0 : x_H) (c v : Nat) : Prop := Tg u u0 ∧ u 37 1 = nn c ∧ u 37 2 = mm v
def CX (u0 : x_H) (l : Nat) (x : Nat → Nat) : Prop := u0 37 0 = nn l ∧ (∀ i, i < l → u0 38 i = nn (x i)) ∧ l ≤ 60 ∧ ∀ i, i < l → 33 ≤ x i ∧ x i ≤ 126
set_option maxRecDepth 16384 in
theorem ch_ok : ∀ g, g < 127 → x_ch (nn g) := by decide
section
variable {l p c v s n : Nat} {x : Nat → Nat} {u u0 : x_H}
set_option maxRecDepth 16384 in
theorem Tg_37 (T : Tg u u0) {i : Nat} (hi : i ≠ 0) (y : Int32) : Tg (x_hu u 37 i y) u0 := by
  intro k j h
  by_cases c : k = 37
  · rw [x_hu_ni (by omega)]; exact T k j h
  · rw [x_hu_ne c]; exact T k j h
set_option maxRecDepth 16384 in
theorem Tk_1 (T : Tk u u0 c v) {q : Nat} : Tk (x_hu u 37 1 (nn q)) u0 q v := ⟨Tg_37 T.1 (by omega) _, x_hu_eq rfl rfl, by rw [x_hu_ni (by omega)]; exact T.2.2⟩
set_option maxRecDepth 16384 in
theorem Tk_2 (T : Tk u u0 c v) {q : Nat} : Tk (x_hu u 37 2 (mm q)) u0 c q := ⟨Tg_37 T.1 (by omega) _, by rw [x_hu_ni (by omega)]; exact T.2.1, x_hu_eq rfl rfl⟩
set_option maxRecDepth 16384 in
theorem r_begin (T : Tg u u0) : Ok (fX0_beginPart u) (fun r => Tk r u0 0 0) := by
  rw [fX0_beginPart]
  refine Ok_let (fun u1 e1 => Ok_let (fun u3 e3 => Ok_some ⟨?_, ?_, ?_⟩))
  · rw [e3, e1]; exact Tg_37 (Tg_37 T (by omega) _) (by omega) _
  · rw [e3, x_hu_ni (by omega), e1]; exact x_hu_eq rfl rfl
  · rw [e3]; exact x_hu_eq rfl rfl
set_option maxRecDepth 16384 in
theorem r_isL (h : s < 127) : fX0_isLetter (nn s) = some (nn (if n_L s then 1 else 0)) := by
  have L : ∀ j, j < 1000 → s ≠ j → ¬ nn s = nn j := fun j hj hne => lit (by omega) hj hne
  rw [fX0_isLetter]
  by_cases c1 : s = 115
  · rw [if_pos (show nn s = (115 : Int32) by rw [c1]; rfl), if_pos (by omega)]; rfl
  rw [if_neg (show ¬ nn s = (115 : Int32) from L 115 (by omega) c1)]
  by_cases c2 : s = 103
  · rw [if_pos (show nn s = (103 : Int32) by rw [c2]; rfl), if_pos (by omega)]; rfl
  rw [if_neg (show ¬ nn s = (103 : Int32) from L 103 (by omega) c2)]
  by_cases c3 : s = 114
  · rw [if_pos (show nn s = (114 : Int32) by rw [c3]; rfl), if_pos (by omega)]; rfl
  rw [if_neg (show ¬ nn s = (114 : Int32) from L 114 (by omega) c3)]
  by_cases c4 : s = 100
  · rw [if_pos (show nn s = (100 : Int32) by rw [c4]; rfl), if_pos (by omega)]; rfl
  rw [if_neg (show ¬ nn s = (100 : Int32) from L 100 (by omega) c4)]
  by_cases c5 : s = 120
  · rw [if_pos (show nn s = (120 : Int32) by rw [c5]; rfl), if_pos (by omega)]; rfl
  rw [if_neg (show ¬ nn s = (120 : Int32) from L 120 (by omega) c5)]
  by_cases c6 : s = 116
  · rw [if_pos (show nn s = (116 : Int32) by rw [c6]; rfl), if_pos (by omega)]; rfl
  rw [if_neg (show ¬ nn s = (116 : Int32) from L 116 (by omega) c6), if_neg (by omega)]; rfl
set_option maxRecDepth 16384 in
theorem r_let (T : Tk u u0 0 v) (hs : s < 127) : Ok (fX0_reads u (nn s)) (fun r => r.1 = nn (if n_L s then 1 else 0) ∧ Tk r.2 u0 s v) := by
  rw [fX0_reads, T.2.1, if_pos (show nn 0 = (0 : Int32) from rfl), if_pos (ch_ok s hs), r_isL hs]
  refine Ok_let (fun u3 e3 => ?_)
  rw [xb_some, if_pos vpb]
  exact Ok_some ⟨rfl, by show Tk u3 _ _ _; rw [e3]; exact Tk_1 T⟩
set_option maxRecDepth 16384 in
theorem r_semi (T : Tk u u0 c v) (hc : n_L c) (hv : v < 1000) : Ok (fX0_reads u (nn 59)) (fun r => r.1 = nn (if v ≠ 0 then 1 else 0) ∧ Tk r.2 u0 0 0) := by
  rw [fX0_reads, T.2.1, if_neg (show ¬ nn c = (0 : Int32) from lit (j := 0) (by omega) (by omega) (by omega)), if_pos (show nn 59 = (59 : Int32) from rfl), T.2.2]
  by_cases h : v = 0
  · rw [if_pos ((mm_none hv).mpr h), if_neg (show ¬ v ≠ 0 from fun k => k h)]
    exact Ok_bind (r_begin T.1) (fun r hr => Ok_some ⟨rfl, hr⟩)
  · rw [if_neg (fun e => h ((mm_none hv).mp e)), if_pos h]
    exact Ok_bind (r_begin T.1) (fun r hr => Ok_some ⟨rfl, hr⟩)
set_option maxRecDepth 16384 in
theorem r_oth (T : Tk u u0 c v) (hc : n_L c) (hs : s < 127) (h1 : s ≠ 59) (h2 : ¬ (48 ≤ s ∧ s ≤ 57)) : Ok (fX0_reads u (nn s)) (fun r => r.1 = nn 0 ∧ Tk r.2 u0 c v) := by
  rw [fX0_reads, T.2.1, if_neg (show ¬ nn c = (0 : Int32) from lit (j := 0) (by omega) (by omega) (by omega)), if_neg (show ¬ nn s = (59 : Int32) from lit (j := 59) (by omega) (by omega) h1)]
  by_cases h3 : s < 48
  · rw [if_pos (show nn s < (48 : Int32) from (nn_lt (b := 48) (by omega) (by omega)).mpr h3)]
    exact Ok_some ⟨rfl, T⟩
  · rw [if_neg (show ¬ nn s < (48 : Int32) from fun h => h3 ((nn_lt (b := 48) (by omega) (by omega)).mp h)), if_pos (show (57 : Int32) < nn s from (nn_lt (a := 57) (by omega) (by omega)).mpr (by omega))]
    exact Ok_some ⟨rfl, T⟩
set_option maxRecDepth 16384 in
theorem r_lo (T : Tk u u0 c v) (hc : n_L c) : fX0_leastNumber u = some (nn (n_lo c)) := by
  rw [fX0_leastNumber, T.2.1, n_lo]
  by_cases h : c = 116
  · rw [if_pos (show nn c = (116 : Int32) by rw [h]; rfl), if_pos h]; rfl
  · rw [if_neg (show ¬ nn c = (116 : Int32) from lit (j := 116) (by omega) (by omega) h), if_neg h]; rfl
set_option maxRecDepth 16384 in
theorem r_hi (T : Tk u u0 c v) (hc : n_L c) : fX0_mostNumber u = some (nn (n_hi c)) := by
  rw [fX0_mostNumber, T.2.1, n_hi]
  by_cases h : c = 116
  · rw [if_pos (show nn c = (116 : Int32) by rw [h]; rfl), if_pos h]; rfl
  rw [if_neg (show ¬ nn c = (116 : Int32) from lit (j := 116) (by omega) (by omega) h), if_neg h]
  by_cases h2 : c = 100
  · rw [if_pos (show nn c = (100 : Int32) by rw [h2]; rfl), if_pos (Or.inl h2)]; rfl
  rw [if_neg (show ¬ nn c = (100 : Int32) from lit (j := 100) (by omega) (by omega) h2)]
  by_cases h3 : c = 120
  · rw [if_pos (show nn c = (120 : Int32) by rw [h3]; rfl), if_pos (Or.inr h3)]; rfl
  · rw [if_neg (show ¬ nn c = (120 : Int32) from lit (j := 120) (by omega) (by omega) h3), if_neg (by omega)]; rfl
set_option maxRecDepth 16384 in
theorem r_j31 (T : Tk u u0 c v) (hc : n_L c) {b : Nat} (hb : b < 2000) : Ok (fX0_readsDigit_j31 u (nn b)) (fun r => r.1 = nn (if n_lo c ≤ b ∧ b ≤ n_hi c then 1 else 0) ∧ Tk r.2 u0 c (b + 1)) := by
  have a1 := n_lo_is c
  have a2 := n_hi_is c
  rw [fX0_readsDigit_j31]
  refine Ok_let (fun u3 e3 => ?_)
  have T3 : Tk u3 u0 c (b + 1) := by rw [e3, ← mm_succ b]; exact Tk_2 T
  rw [r_lo T3 hc, xb_some, T3.2.2, mm_succ]
  by_cases h : b < n_lo c
  · rw [if_pos ((nn_lt (by omega) (by omega)).mpr h), if_neg (by omega)]
    exact Ok_some ⟨rfl, T3⟩
  · rw [if_neg (fun k => h ((nn_lt (by omega) (by omega)).mp k)), r_hi T3 hc, xb_some]
    by_cases h2 : n_hi c < b
    · rw [if_pos ((nn_lt (by omega) (by omega)).mpr h2), if_neg (by omega)]
      exact Ok_some ⟨rfl, T3⟩
    · rw [if_neg (fun k => h2 ((nn_lt (by omega) (by omega)).mp k)), if_pos (by omega)]
      exact Ok_some ⟨rfl, T3⟩
set_option maxRecDepth 16384 in
theorem r_dig (T : Tk u u0 c v) (hc : n_L c) (hs : 48 ≤ s ∧ s ≤ 57) (hv : v ≤ 101) : Ok (fX0_reads u (nn s)) (fun r => ∃ b v', r.1 = nn b ∧ b ≤ 1 ∧ Tk r.2 u0 c v' ∧ (v = 0 → v' = s - 48 + 1 ∧ (b = 1 ↔ n_lo c ≤ s - 48)) ∧ (v = 1 → b = 0) ∧ (2 ≤ v → v' = 10 * (v - 1) + (s - 48) + 1 ∧ (b = 1 ↔ 10 * (v - 1) + (s - 48) ≤ n_hi c))) := by
  have a1 := n_lo_is c
  have a2 := n_hi_is c
  have es : nn s - (48 : Int32) = nn (s - 48) := nn_sub (b := 48) hs.1
  rw [fX0_reads, T.2.1, if_neg (show ¬ nn c = (0 : Int32) from lit (j := 0) (by omega) (by omega) (by omega)), if_neg (show ¬ nn s = (59 : Int32) from lit (j := 59) (by omega) (by omega) (by omega)), if_neg (show ¬ nn s < (48 : Int32) from fun h => by have := (nn_lt (b := 48) (by omega) (by omega)).mp h; omega), if_neg (show ¬ (57 : Int32) < nn s from fun h => by have := (nn_lt (a := 57) (by omega) (by omega)).mp h; omega), es, fX0_readsDigit, T.2.2]
  have J : ∀ b' : Nat, b' < 2000 → Ok (Option.bind (fX0_readsDigit_j31 u (nn b')) fun r15 => (if r15.1 = 0 then some ((0 : Int32), r15.2) else some ((1 : Int32), r15.2))) (fun r => r.1 = nn (if n_lo c ≤ b' ∧ b' ≤ n_hi c then 1 else 0) ∧ Tk r.2 u0 c (b' + 1)) := by
    intro b' hb
    refine Ok_bind (r_j31 T hc hb) (fun r hr => ?_)
    rw [hr.1, nb_z]
    by_cases h : n_lo c ≤ b' ∧ b' ≤ n_hi c
    · rw [if_pos h]; exact Ok_some ⟨by rw [if_pos h]; rfl, hr.2⟩
    · rw [if_neg h]; exact Ok_some ⟨by rw [if_neg h]; rfl, hr.2⟩
  by_cases h1 : v = 1
  · rw [if_pos (show mm v = (0 : Int32) by rw [h1]; rfl), xb_some, if_pos rfl]
    exact Ok_some ⟨0, 1, rfl, by omega, by rw [← h1]; exact T, fun h => by omega, fun _ => rfl, fun h => by omega⟩
  · rw [if_neg (show ¬ mm v = (0 : Int32) from fun e => h1 ((mm_inj (b := 1) (by omega) (by omega)).mp e))]
    by_cases h0 : v = 0
    · rw [if_pos ((mm_none (by omega)).mpr h0)]
      refine Ok_mono (J (s - 48) (by omega)) (fun r hr => ⟨_, _, hr.1, by split <;> omega, hr.2, fun _ => ⟨rfl, ?_⟩, fun h => by omega, fun h => by omega⟩)
      by_cases h : n_lo c ≤ s - 48 ∧ s - 48 ≤ n_hi c
      · rw [if_pos h]; omega
      · rw [if_neg h]; omega
    · have ev : (10 : Int32) * mm v + nn (s - 48) = nn (10 * (v - 1) + (s - 48)) := by
        obtain ⟨a, rfl⟩ : ∃ a, v = a + 1 := ⟨v - 1, by omega⟩
        rw [mm_succ, show (10 : Int32) * nn a = nn (10 * a) from nn_mul 10 a, nn_add, Nat.add_sub_cancel]
      rw [if_neg (fun e => h0 ((mm_none (by omega)).mp e)), ev]
      refine Ok_mono (J (10 * (v - 1) + (s - 48)) (by omega)) (fun r hr => ⟨_, _, hr.1, by split <;> omega, hr.2, fun h => by omega, fun h => by omega, fun _ => ⟨rfl, ?_⟩⟩)
      by_cases h : n_lo c ≤ 10 * (v - 1) + (s - 48) ∧ 10 * (v - 1) + (s - 48) ≤ n_hi c
      · rw [if_pos h]; omega
      · rw [if_neg h]; omega
set_option maxRecDepth 16384 in
theorem e_step {P : Int32 × x_H → Prop} (X : CX u0 l x) (T : Tg u u0) (hp : p < l) (h : Ok (fX0_reads u (nn (x p))) (fun r => (r.1 = nn 0 ∧ P (nn p, r.2)) ∨ (r.1 = nn 1 ∧ Ok (fX0_errorAt_b6 n r.2 (nn (p + 1))) P))) : Ok (fX0_errorAt_b6 (n + 1) u (nn p)) P := by
  have hl := X.2.2.1
  rw [fX0_errorAt_b6, T 37 0 (by omega), X.1, if_neg (fun h => by have := (nn_le (by omega) (by omega)).mp h; omega), if_neg (fun h => by have := (nn_le (a := 60) (by omega) (by omega)).mp h; omega), if_pos (nn_in (by omega) (by omega)), nn_clamp (by omega), T 38 p (by omega), X.2.1 p hp, show nn p + (1 : Int32) = nn (p + 1) from nn_add p 1]
  refine Ok_bind h (fun r hr => ?_)
  rcases hr with ⟨h1, h2⟩ | ⟨h1, h2⟩
  · rw [h1, if_pos (show nn 0 = (0 : Int32) from rfl)]; exact Ok_some h2
  · rw [h1, if_neg (show ¬ nn 1 = (0 : Int32) from nn_one), x_let_n]; exact h2
set_option maxRecDepth 16384 in
theorem e_stop {P : Int32 × x_H → Prop} (X : CX u0 l x) (T : Tg u u0) (hp : p = l) (h : P (nn l, u)) : Ok (fX0_errorAt_b6 (n + 1) u (nn p)) P := by
  have hl := X.2.2.1
  rw [fX0_errorAt_b6, T 37 0 (by omega), X.1, if_pos ((nn_le (by omega) (by omega)).mpr (by omega))]
  exact Ok_some h
set_option maxRecDepth 16384 in
theorem n_dg_stuck {m : Nat} : ∀ d p v, p + d = l → (n_dg x m d p v).1 = l ∨ ¬ (48 ≤ x (n_dg x m d p v).1 ∧ x (n_dg x m d p v).1 ≤ 57 ∧ 10 * (n_dg x m d p v).2 + (x (n_dg x m d p v).1 - 48) ≤ m) := by
  intro d
  induction d with
  | zero => intro p v h; rw [n_dg]; exact Or.inl h
  | succ d ih =>
    intro p v h
    rw [n_dg]
    by_cases c : 48 ≤ x p ∧ x p ≤ 57 ∧ 10 * v + (x p - 48) ≤ m
    · rw [if_pos c]; exact ih _ _ (by omega)
    · rw [if_neg c]; exact Or.inr c
set_option maxRecDepth 16384 in
theorem e_dg {P : Int32 × x_H → Prop} (X : CX u0 l x) (hc : n_L c) : ∀ (d n p v : Nat) (u : x_H), p + d = l → d < n → 1 ≤ v → v ≤ n_hi c → Tk u u0 c (v + 1) → (∀ (n' : Nat) (u' : x_H), l - (n_dg x (n_hi c) d p v).1 < n' → Tk u' u0 c ((n_dg x (n_hi c) d p v).2 + 1) → Ok (fX0_errorAt_b6 n' u' (nn (n_dg x (n_hi c) d p v).1)) P) → Ok (fX0_errorAt_b6 n u (nn p)) P := by
  have a2 := n_hi_is c
  intro d
  induction d with
  | zero => intro n p v u h1 h2 h3 h4 T K; exact K n u (by show l - p < n; omega) T
  | succ d ih =>
    intro n p v u h1 h2 h3 h4 T K
    rw [n_dg] at K
    by_cases h : 48 ≤ x p ∧ x p ≤ 57 ∧ 10 * v + (x p - 48) ≤ n_hi c
    · rw [if_pos h] at K
      obtain ⟨n, rfl⟩ : ∃ m, n = m + 1 := ⟨n - 1, by omega⟩
      refine e_step X T.1 (by omega) (Ok_mono (r_dig T hc ⟨h.1, h.2.1⟩ (by omega)) (fun r hr => ?_))
      obtain ⟨b, v', e1, e2, e3, -, -, e4⟩ := hr
      obtain ⟨e5, e6⟩ := e4 (by omega)
      rw [Nat.add_sub_cancel] at e5 e6
      rw [e6.mpr h.2.2] at e1
      rw [e5] at e3
      exact Or.inr ⟨e1, ih n (p + 1) _ r.2 (by omega) (by omega) (by omega) h.2.2 e3 K⟩
    · rw [if_neg h] at K
      exact K n u (by show l - p < n; omega) T
set_option maxRecDepth 16384 in
theorem e_end {P : Int32 × x_H → Prop} (X : CX u0 l x) (hc : n_L c) (hp : p ≤ l) (hv : v ≤ 100) (hn : l - p < n) (T : Tk u u0 c (v + 1)) (hS : p < l → 48 ≤ x p → x p ≤ 57 → v = 0 ∨ n_hi c < 10 * v + (x p - 48)) (hl : p = l → ∀ u', Tk u' u0 c (v + 1) → P (nn l, u')) (hs : p < l → x p = 59 → ∀ (n' : Nat) (u' : x_H), l - (p + 1) < n' → Tk u' u0 0 0 → Ok (fX0_errorAt_b6 n' u' (nn (p + 1))) P) (he : p < l → x p ≠ 59 → ∀ u', Tg u' u0 → P (nn p, u')) : Ok (fX0_errorAt_b6 n u (nn p)) P := by
  obtain ⟨n, rfl⟩ : ∃ m, n = m + 1 := ⟨n - 1, by omega⟩
  by_cases h : p = l
  · exact e_stop X T.1 h (hl h u T)
  have hpl : p < l := by omega
  have xp := X.2.2.2 p hpl
  refine e_step X T.1 hpl ?_
  by_cases h1 : x p = 59
  · rw [h1]
    refine Ok_mono (r_semi T hc (by omega)) (fun r hr => Or.inr ⟨?_, hs hpl h1 n r.2 (by omega) hr.2⟩)
    rw [hr.1, if_pos (by omega)]
  · by_cases h2 : 48 ≤ x p ∧ x p ≤ 57
    · refine Ok_mono (r_dig T hc h2 (by omega)) (fun r hr => Or.inl ⟨?_, he hpl h1 r.2 ?_⟩)
      · obtain ⟨b, v', e1, e2, e3, -, e5, e6⟩ := hr
        rcases hS hpl h2.1 h2.2 with h3 | h3
        · rw [e1, e5 (by omega)]
        · by_cases h4 : v = 0
          · rw [e1, e5 (by omega)]
          · have := (e6 (by omega)).2
            rw [Nat.add_sub_cancel] at this
            rw [e1, show b = 0 by omega]
      · obtain ⟨b, v', -, -, e3, -⟩ := hr
        exact e3.1
    · exact Ok_mono (r_oth T hc (by omega) h1 h2) (fun r hr => Or.inl ⟨hr.1, he hpl h1 r.2 hr.2.1⟩)
end

def Er (u0 : x_H) (l g a : Nat) (r : Int32 × x_H) : Prop := Tg r.2 u0 ∧ (g = 1 → r.1 = nn l ∧ ∃ c v, c ≠ 0 ∧ c < 1000 ∧ v < 1000 ∧ Tk r.2 u0 c (v + 1)) ∧ (g = 0 → r.1 = nn a ∧ (a = l → ∃ c v, c < 1000 ∧ v < 1000 ∧ Tk r.2 u0 c v ∧ (c = 0 ∨ v = 0)))
section
variable {l : Nat} {x : Nat → Nat} {u0 : x_H}
set_option maxRecDepth 16384 in
theorem n_tx_b {d p o p' c v : Nat} {w : Nat → Nat} (h : n_pt x l p = (0, p', c, v)) : n_tx x l (d + 1) p o w = (0, p', o, w) := by
  rw [n_tx, h]
  exact if_pos rfl
set_option maxRecDepth 16384 in
theorem n_tx_g {d p o p' c v : Nat} {w : Nat → Nat} (h : n_pt x l p = (1, p', c, v)) : n_tx x l (d + 1) p o w = if p' < l then (if x p' = 59 then n_tx x l d (p' + 1) (n_ef o w c v).1 (n_ef o w c v).2 else (0, p', (n_ef o w c v).1, (n_ef o w c v).2)) else (1, p', (n_ef o w c v).1, (n_ef o w c v).2) := by
  rw [n_tx, h]
  exact if_neg (show ¬ (1 : Nat) = 0 by decide)
set_option maxRecDepth 16384 in
theorem n_pt_0 {p : Nat} (h : ¬ (p < l ∧ n_L (x p))) : n_pt x l p = (0, p, 0, 0) := if_neg h
set_option maxRecDepth 16384 in
theorem n_pt_b {p : Nat} (h : p < l ∧ n_L (x p)) (h1 : ¬ (p + 1 < l ∧ 48 + n_lo (x p) ≤ x (p + 1) ∧ x (p + 1) ≤ 57)) : n_pt x l p = (0, p + 1, x p, 0) := by
  rw [n_pt, if_pos h]
  have e : n_num x l (p + 1) (n_lo (x p)) (n_hi (x p)) = (0, p + 1, 0) := if_neg h1
  rw [e]
set_option maxRecDepth 16384 in
theorem n_pt_z {p : Nat} (h : p < l ∧ n_L (x p)) (h1 : p + 1 < l ∧ 48 + n_lo (x p) ≤ x (p + 1) ∧ x (p + 1) ≤ 57) (h2 : x (p + 1) = 48) : n_pt x l p = (1, p + 2, x p, 0) := by
  rw [n_pt, if_pos h]
  have e : n_num x l (p + 1) (n_lo (x p)) (n_hi (x p)) = (1, p + 1 + 1, 0) := by rw [n_num, if_pos h1, if_pos h2]
  rw [e]
set_option maxRecDepth 16384 in
theorem n_pt_d {p : Nat} (h : p < l ∧ n_L (x p)) (h1 : p + 1 < l ∧ 48 + n_lo (x p) ≤ x (p + 1) ∧ x (p + 1) ≤ 57) (h2 : x (p + 1) ≠ 48) : n_pt x l p = (1, (n_dg x (n_hi (x p)) (l - (p + 2)) (p + 2) (x (p + 1) - 48)).1, x p, (n_dg x (n_hi (x p)) (l - (p + 2)) (p + 2) (x (p + 1) - 48)).2) := by
  rw [n_pt, if_pos h]
  have e : n_num x l (p + 1) (n_lo (x p)) (n_hi (x p)) = (1, n_dg x (n_hi (x p)) (l - (p + 1 + 1)) (p + 1 + 1) (x (p + 1) - 48)) := by rw [n_num, if_pos h1, if_neg h2]
  rw [e]
set_option maxRecDepth 16384 in
theorem e_all (X : CX u0 l x) : ∀ (d n p k o : Nat) (w : Nat → Nat) (u : x_H), p + k = l → k < d → k < n → Tk u u0 0 0 → Ok (fX0_errorAt_b6 n u (nn p)) (Er u0 l (n_tx x l d p o w).1 (n_tx x l d p o w).2.1) := by
  have hl := X.2.2.1
  intro d
  induction d with
  | zero => intro n p k o w u h1 h2; omega
  | succ d ih =>
    intro n p k o w u h1 h2 hn T
    obtain ⟨n, rfl⟩ : ∃ m, n = m + 1 := ⟨n - 1, by omega⟩
    by_cases hp : p = l
    · rw [n_tx_b (n_pt_0 (fun h => by omega))]
      refine e_stop X T.1 hp ⟨T.1, fun h => absurd (show (0 : Nat) = 1 from h) (by decide), fun _ => ⟨by rw [hp], fun _ => ⟨0, 0, by omega, by omega, T, Or.inl rfl⟩⟩⟩
    have hpl : p < l := by omega
    have xp := X.2.2.2 p hpl
    refine e_step X T.1 hpl (Ok_mono (r_let T (by omega)) (fun r hr => ?_))
    obtain ⟨e1, T1⟩ := hr
    by_cases hL : n_L (x p)
    · rw [if_pos hL] at e1
      refine Or.inr ⟨e1, ?_⟩
      by_cases h3 : p + 1 < l ∧ 48 + n_lo (x p) ≤ x (p + 1) ∧ x (p + 1) ≤ 57
      · obtain ⟨n, rfl⟩ : ∃ m, n = m + 1 := ⟨n - 1, by omega⟩
        have a2 := n_hi_is (x p)
        -- behind a number
        have Q : ∀ (p' v : Nat) (hv : v ≤ 100) (hp' : p < p' ∧ p' ≤ l) (hpt : n_pt x l p = (1, p', x p, v)) (hS : p' < l → 48 ≤ x p' → x p' ≤ 57 → v = 0 ∨ n_hi (x p) < 10 * v + (x p' - 48)) (n' : Nat) (u' : x_H), l - p' < n' → Tk u' u0 (x p) (v + 1) → Ok (fX0_errorAt_b6 n' u' (nn p')) (Er u0 l (n_tx x l (d + 1) p o w).1 (n_tx x l (d + 1) p o w).2.1) := by
          intro p' v hv hp' hpt hS n' u' hn' T'
          rw [n_tx_g hpt]
          refine e_end X hL hp'.2 hv hn' T' hS (fun h u2 T2 => ?_) (fun h h59 n2 u2 hn2 T2 => ?_) (fun h h59 u2 T2 => ?_)
          · rw [if_neg (by omega)]
            exact ⟨T2.1, fun _ => ⟨rfl, x p, v, by omega, by omega, by omega, T2⟩, fun h => absurd (show (1 : Nat) = 0 from h) (by decide)⟩
          · rw [if_pos h, if_pos h59]
            exact ih n2 (p' + 1) (l - (p' + 1)) _ _ u2 (by omega) (by omega) (by omega) T2
          · rw [if_pos h, if_neg h59]
            exact ⟨T2, fun h => absurd (show (0 : Nat) = 1 from h) (by decide), fun _ => ⟨rfl, fun h' => absurd (show p' = l from h') (by omega)⟩⟩
        refine e_step X T1.1 h3.1 (Ok_mono (r_dig T1 hL ⟨by omega, h3.2.2⟩ (by omega)) (fun r2 hr2 => ?_))
        obtain ⟨b, v', f1, f2, f3, f4, -, -⟩ := hr2
        obtain ⟨f5, f6⟩ := f4 rfl
        rw [f6.mpr (by omega)] at f1
        rw [f5] at f3
        refine Or.inr ⟨f1, ?_⟩
        by_cases h4 : x (p + 1) = 48
        · rw [h4] at f3
          exact Q (p + 2) 0 (by omega) (by omega) (n_pt_z ⟨hpl, hL⟩ h3 h4) (fun _ _ _ => Or.inl rfl) n r2.2 (by omega) f3
        · have D := n_dg_is (x := x) (m := n_hi (x p)) (l - (p + 2)) (p + 2) (x (p + 1) - 48) (by omega)
          have DS := n_dg_stuck (x := x) (l := l) (m := n_hi (x p)) (l - (p + 2)) (p + 2) (x (p + 1) - 48) (by omega)
          exact e_dg X hL (l - (p + 2)) n (p + 2) (x (p + 1) - 48) r2.2 (by omega) (by omega) (by omega) (by omega) f3 (fun n' u' hn' T' => Q _ _ (by omega) (by omega) (n_pt_d ⟨hpl, hL⟩ h3 h4) (fun q1 q2 q3 => by rcases DS with DS | DS; omega; right; omega) n' u' hn' T')
      · rw [n_tx_b (n_pt_b ⟨hpl, hL⟩ h3)]
        obtain ⟨n, rfl⟩ : ∃ m, n = m + 1 := ⟨n - 1, by omega⟩
        by_cases hp1 : p + 1 = l
        · exact e_stop X T1.1 hp1 ⟨T1.1, fun h => absurd (show (0 : Nat) = 1 from h) (by decide), fun _ => ⟨by rw [← hp1], fun _ => ⟨x p, 0, by omega, by omega, T1, Or.inr rfl⟩⟩⟩
        have hpl1 : p + 1 < l := by omega
        have xp1 := X.2.2.2 (p + 1) hpl1
        have G : ∀ r : Int32 × x_H, Tg r.2 u0 → Er u0 l 0 (p + 1) (nn (p + 1), r.2) := fun r hr => ⟨hr, fun h => absurd (show (0 : Nat) = 1 from h) (by decide), fun _ => ⟨rfl, fun h => absurd h hp1⟩⟩
        refine e_step X T1.1 hpl1 ?_
        by_cases h59 : x (p + 1) = 59
        · rw [h59]
          exact Ok_mono (r_semi T1 hL (by omega)) (fun r2 hr2 => Or.inl ⟨by rw [hr2.1, if_neg (fun h => h rfl)], G r2 hr2.2.1⟩)
        · by_cases hd : 48 ≤ x (p + 1) ∧ x (p + 1) ≤ 57
          · refine Ok_mono (r_dig T1 hL hd (by omega)) (fun r2 hr2 => Or.inl ⟨?_, ?_⟩)
            · obtain ⟨b, v', f1, f2, -, f4, -, -⟩ := hr2
              have := (f4 rfl).2
              rw [f1, show b = 0 by omega]
            · obtain ⟨b, v', -, -, f3, -⟩ := hr2
              exact G r2 f3.1
          · exact Ok_mono (r_oth T1 hL (by omega) h59 hd) (fun r2 hr2 => Or.inl ⟨hr2.1, G r2 hr2.2.1⟩)
    · rw [if_neg hL] at e1
      rw [n_tx_b (n_pt_0 (fun h => hL h.2))]
      exact Or.inl ⟨e1, T1.1, fun h => absurd (show (0 : Nat) = 1 from h) (by decide), fun _ => ⟨rfl, fun h => absurd (show p = l from h) hp⟩⟩
set_option maxRecDepth 16384 in
theorem e_errorAt {u : x_H} (X : CX u l x) (w : Nat → Nat) (o : Nat) : Ok (fX0_errorAt u) (Er u l (n_tx x l 61 0 o w).1 (n_tx x l 61 0 o w).2.1) := by
  have hl := X.2.2.1
  rw [fX0_errorAt]
  exact Ok_bind (r_begin (u := u) (u0 := u) (fun _ _ _ => rfl)) (fun r hr => e_all X 61 400 0 l o w r (by omega) (by omega) (by omega) hr)
set_option maxRecDepth 16384 in
theorem e_tells {u : x_H} (X : CX u l x) (w : Nat → Nat) (o : Nat) (hA : (n_tx x l 61 0 o w).1 ≤ 1 ∧ (n_tx x l 61 0 o w).2.1 ≤ l) : Ok (fX0_tellsCourse u) (fun r => r.1 = nn (n_tx x l 61 0 o w).1 ∧ Tg r.2 u) := by
  have hl := X.2.2.1
  rw [fX0_tellsCourse]
  refine Ok_bind (e_errorAt X w o) (fun r hr => ?_)
  obtain ⟨r1, r2, r3⟩ := hr
  generalize (n_tx x l 61 0 o w).1 = g at *
  generalize (n_tx x l 61 0 o w).2.1 = a at *
  rw [r1 37 0 (by omega), X.1]
  by_cases hg : g = 1
  · obtain ⟨q1, c, v, q2, q3, q4, q5⟩ := r2 hg
    rw [q1, if_pos rfl, q5.2.1, if_neg (show ¬ nn c = (0 : Int32) from lit (j := 0) q3 (by omega) q2), q5.2.2, if_neg (fun e => by have := (mm_inj (a := v + 1) (b := 0) (by omega) (by omega)).mp e; omega), hg]
    exact Ok_some ⟨rfl, r1⟩
  · have g0 : g = 0 := by omega
    obtain ⟨q1, q2⟩ := r3 g0
    rw [q1, g0]
    by_cases ha : a = l
    · obtain ⟨c, v, q3, q4, q5, q6⟩ := q2 ha
      rw [if_pos (by rw [ha]), q5.2.1, q5.2.2]
      by_cases hc : c = 0
      · rw [if_pos (show nn c = (0 : Int32) by rw [hc]; rfl)]; exact Ok_some ⟨rfl, r1⟩
      · rw [if_neg (show ¬ nn c = (0 : Int32) from lit (j := 0) q3 (by omega) hc), if_pos ((mm_none q4).mpr (by omega))]
        exact Ok_some ⟨rfl, r1⟩
    · rw [if_neg (fun e => ha ((nn_inj (by omega) (by omega)).mp e))]
      exact Ok_some ⟨rfl, r1⟩
end
section
variable {A n l : Nat} {σ τ : x_S} {m m' : x_H} {w w' : Nat → Nat} {S K : Nat → Nat → Nat} {t x : Nat → Nat}
set_option maxRecDepth 16384 in
theorem Yc_t (Y : Yc σ w n S t K l x) (hn : n ≤ 6) {u : x_H} (h : Tg u (σ 10)) : Yc (x_sh σ 10 u) w n S t K l x := Yc_of Y hn (x_sh_ne _ _ (by omega)) (fun j j1 j2 => x_sh_ne _ _ (by omega)) (fun k i hk => by rw [x_sh_eq]; exact h k i hk)
end
set_option maxRecDepth 16384 in
theorem pos_B {B : Nat} {w : Nat → Nat} (F : Wf B w) : 1 ≤ B := by
  have h := F.2.2.2 555
  have z := F.1.2.2.2
  unfold WzN at z
  omega
set_option maxRecDepth 16384 in
theorem p_part {u : x_H} {w : Nat → Nat} {B : Nat} (R : Ru u w) (F : Wf B w) (h9 : B + 700000 ≤ 1000000000) {c v : Nat} (hc : n_L c) (hv : v ≤ n_hi c) : Ok (fX2_playPart u (nn c) (nn v)) (fun r => (n_ok w c v → r.1 = nn 1 ∧ Ru r.2 (n_do w c v)) ∧ (¬ n_ok w c v → r.1 = nn 0)) := by
  have hm := F.1.2.2.1.2
  have e3 : u 3 0 = nn (w 552) := R.2.2.2.2.1.1
  have a2 := n_hi_is c
  have hP := u_hasPlace e3 hm (p := v) (by omega)
  rw [fX2_playPart]
  have JG : ∀ (z : Nat) (y : Int32), y = nn z → (c = 115 ∧ z = 0 ∨ (c = 103 ∨ c = 114) ∧ z = 3) → Ok (fX2_playPart_j67 u (nn c) (nn v) y) (fun r => (n_ok w c v → r.1 = nn 1 ∧ Ru r.2 (n_do w c v)) ∧ (¬ n_ok w c v → r.1 = nn 0)) := by
    intro z y hy hz
    have e2 : n_hi c = 11 := by unfold n_hi; rw [if_neg (by omega), if_neg (by omega)]
    have hv12 : v < 12 := by omega
    have zv := (F.1.1 v hv12).1
    rw [fX2_playPart_j67, u_isGuest hv12, xb_some, if_neg nn_one, if_pos (nn_in (by omega) hv12), g_doing R hv12, hy]
    by_cases cw : w (8 * v) = z
    · rw [if_pos (by rw [cw])]
      have hok : n_ok w c v := by omega
      rcases hz with ⟨rfl, rfl⟩ | ⟨rfl | rfl, rfl⟩
      · rw [if_pos (show nn 115 = (115 : Int32) from rfl)]
        exact Ok_bind (u_beginSeeking R F.2.2 hm (pos_B F) hv12 cw) (fun u' hu => Ok_some ⟨fun _ => ⟨rfl, hu⟩, fun h => absurd hok h⟩)
      · rw [if_neg (by decide), if_pos (show nn 103 = (103 : Int32) from rfl)]
        exact Ok_bind (u_leaveRoom R F.2.2 hm hv12 (by omega)) (fun u' hu => Ok_some ⟨fun _ => ⟨rfl, hu⟩, fun h => absurd hok h⟩)
      · rw [if_neg (by decide), if_neg (by decide)]
        exact Ok_bind (u_sendWant R F.2.2 hm hv12 (by omega)) (fun u' hu => Ok_some ⟨fun _ => ⟨rfl, hu⟩, fun h => absurd hok h⟩)
    · rw [if_neg (show ¬ nn (w (8 * v)) = nn z from lit (by omega) (by omega) cw)]
      exact Ok_some ⟨fun h => by omega, fun _ => rfl⟩
  rcases hc with rfl | rfl | rfl | rfl | rfl | rfl
  · rw [if_neg (by decide), if_neg (by decide), if_neg (by decide), if_pos (by decide)]
    exact JG 0 _ rfl (by omega)
  · rw [if_neg (by decide), if_neg (by decide), if_neg (by decide), if_neg (by decide)]
    exact JG 3 _ rfl (by omega)
  · rw [if_neg (by decide), if_neg (by decide), if_neg (by decide), if_neg (by decide)]
    exact JG 3 _ rfl (by omega)
  · rw [if_neg (by decide), if_pos (by decide)]
    by_cases cv : v < w 552
    · refine Ok_bind (u_deliverAt R F (by omega) cv) (fun r hr => ?_)
      have z := F.1.2.2.1.1 v cv
      rw [hr.1, if_neg (show ¬ nn (w (192 + 6 * v)) = (-1 : Int32) from fun e => (nn_neg (a := w (192 + 6 * v)) (by omega)).mp (by rw [e]; decide))]
      exact Ok_some ⟨fun _ => ⟨rfl, hr.2⟩, fun h => absurd (Or.inr (Or.inl ⟨Or.inl rfl, cv⟩)) h⟩
    · rw [if_neg cv] at hP
      rw [fX2_deliverAt, hP, xb_some, if_pos (show nn 0 = (0 : Int32) from rfl), xb_some, if_pos rfl]
      exact Ok_some ⟨fun h => by omega, fun _ => rfl⟩
  · rw [if_neg (by decide), if_neg (by decide), if_pos (by decide)]
    by_cases cv : v < w 552
    · refine Ok_bind (u_loseAt R F.1 cv) (fun r hr => ?_)
      have z := F.1.2.2.1.1 v cv
      rw [hr.1, if_neg (show ¬ nn (w (192 + 6 * v)) = (-1 : Int32) from fun e => (nn_neg (a := w (192 + 6 * v)) (by omega)).mp (by rw [e]; decide))]
      exact Ok_some ⟨fun _ => ⟨rfl, hr.2⟩, fun h => absurd (Or.inr (Or.inl ⟨Or.inr rfl, cv⟩)) h⟩
    · rw [if_neg cv] at hP
      rw [fX2_loseAt, hP, xb_some, if_pos (show nn 0 = (0 : Int32) from rfl), xb_some, if_pos rfl]
      exact Ok_some ⟨fun h => by omega, fun _ => rfl⟩
  · have e2 : n_hi 116 = 100 := rfl
    rw [if_pos (by decide)]
    exact Ok_bind (u_letTicksGo R F (by omega) h9) (fun r hr => Ok_some ⟨fun _ => ⟨rfl, hr.2⟩, fun h => absurd (Or.inl rfl) h⟩)
def Po (σ0 : x_S) (u0 : x_H) (o : Nat) (w : Nat → Nat) (r : Int32 × x_S) : Prop := (∀ j, j ≠ 1 → j ≠ 10 → r.2 j = σ0 j) ∧ Tg (r.2 10) u0 ∧ (o = 1 → r.1 = nn 1 ∧ Ru (r.2 1) w) ∧ (o = 0 → r.1 = nn 0)
section
variable {l p c v n : Nat} {x : Nat → Nat} {u0 : x_H} {τ σ0 : x_S} {w : Nat → Nat}
set_option maxRecDepth 16384 in
theorem n_tx_0 : ∀ (d p : Nat) (w : Nat → Nat), (n_tx x l d p 0 w).2.2.1 = 0 := by
  have E : ∀ (c v : Nat) (w : Nat → Nat), (n_ef 0 w c v).1 = 0 := fun c v w => by rw [n_ef_n (fun h => by omega)]
  intro d
  induction d with
  | zero => intro p w; rfl
  | succ d ih =>
    intro p w
    rw [n_tx]
    split
    · rfl
    · split
      · split
        · rw [E]; exact ih _ _
        · show (n_ef 0 w (n_pt x l p).2.2.1 (n_pt x l p).2.2.2).1 = 0
          exact E _ _ _
      · show (n_ef 0 w (n_pt x l p).2.2.1 (n_pt x l p).2.2.2).1 = 0
        exact E _ _ _
set_option maxRecDepth 16384 in
theorem o_step {P : Int32 × x_S → Prop} (X : CX u0 l x) (T : Tg (τ 10) u0) (hp : p < l) (h59 : x p ≠ 59) (h : Ok (fX0_reads (τ 10) (nn (x p))) (fun r => Ok (fX0_playOn_b6 n (x_sh τ 10 r.2) (nn (p + 1))) P)) : Ok (fX0_playOn_b6 (n + 1) τ (nn p)) P := by
  have hl := X.2.2.1
  have xp := X.2.2.2 p hp
  rw [fX0_playOn_b6, T 37 0 (by omega), X.1, if_neg (fun h => by have := (nn_le (by omega) (by omega)).mp h; omega), if_neg (fun h => by have := (nn_le (a := 60) (by omega) (by omega)).mp h; omega), if_pos (nn_in (by omega) (by omega)), nn_clamp (by omega), T 38 p (by omega), X.2.1 p hp, if_neg (show ¬ nn (x p) = (59 : Int32) from lit (j := 59) (by omega) (by omega) h59), show nn p + (1 : Int32) = nn (p + 1) from nn_add p 1]
  refine Ok_bind h (fun r hr => ?_)
  exact hr
set_option maxRecDepth 16384 in
theorem o_semi {P : Int32 × x_S → Prop} (X : CX u0 l x) (T : Tk (τ 10) u0 c (v + 1)) (hc : n_L c) (hv : v ≤ 100) (hp : p < l) (h59 : x p = 59) (h : Ok (fX2_playPart (τ 1) (nn c) (nn v)) (fun r => (r.1 = nn 0 ∧ P ((0 : Int32), x_sh τ 1 r.2)) ∨ (r.1 = nn 1 ∧ ∀ u', Tk u' u0 0 0 → Ok (fX0_playOn_b6 n (x_sh (x_sh τ 1 r.2) 10 u') (nn (p + 1))) P))) : Ok (fX0_playOn_b6 (n + 1) τ (nn p)) P := by
  have hl := X.2.2.1
  rw [fX0_playOn_b6, T.1 37 0 (by omega), X.1, if_neg (fun h => by have := (nn_le (by omega) (by omega)).mp h; omega), if_neg (fun h => by have := (nn_le (a := 60) (by omega) (by omega)).mp h; omega), if_pos (nn_in (by omega) (by omega)), nn_clamp (by omega), T.1 38 p (by omega), X.2.1 p hp, if_pos (show nn (x p) = (59 : Int32) by rw [h59]; rfl), T.2.1, T.2.2, mm_succ, show nn p + (1 : Int32) = nn (p + 1) from nn_add p 1]
  refine Ok_bind h (fun r hr => Ok_let (fun τ19 e19 => ?_))
  rcases hr with ⟨h1, h2⟩ | ⟨h1, h2⟩
  · rw [h1, if_pos (show nn 0 = (0 : Int32) from rfl), e19]
    exact Ok_some h2
  · have e10 : τ19 10 = τ 10 := by rw [e19, x_sh_ne _ _ (by omega)]
    rw [h1, if_neg (show ¬ nn 1 = (0 : Int32) from nn_one), e10, T.1 38 p (by omega), X.2.1 p hp, h59]
    refine Ok_bind (r_semi T hc (by omega)) (fun r2 hr2 => Ok_let (fun τ24 e24 => ?_))
    rw [x_let_n, e24, e19]
    exact h2 r2.2 hr2.2
set_option maxRecDepth 16384 in
theorem o_end {P : Int32 × x_S → Prop} (X : CX u0 l x) (T : Tk (τ 10) u0 c (v + 1)) (hp : p = l) (h : Ok (fX2_playPart (τ 1) (nn c) (nn v)) (fun r => (r.1 = nn 0 ∨ r.1 = nn 1) ∧ P (r.1, x_sh τ 1 r.2))) : Ok (fX0_playOn_b6 (n + 1) τ (nn p)) P := by
  have hl := X.2.2.1
  rw [fX0_playOn_b6, T.1 37 0 (by omega), X.1, if_pos ((nn_le (by omega) (by omega)).mpr (by omega)), T.2.1, T.2.2, mm_succ]
  refine Ok_bind h (fun r hr => Ok_let (fun τ8 e8 => ?_))
  have e : vp_nar .boolean r.1 = r.1 := by
    rcases hr.1 with h1 | h1
    · rw [h1]; exact vpb0
    · rw [h1]; exact vpb1
  rw [if_pos e, e8]
  exact Ok_some hr.2
set_option maxRecDepth 16384 in
theorem o_dg {P : Int32 × x_S → Prop} (X : CX u0 l x) (hc : n_L c) : ∀ (d n p v : Nat) (τ : x_S), p + d = l → d < n → 1 ≤ v → v ≤ n_hi c → Tk (τ 10) u0 c (v + 1) → (∀ (n' : Nat) (u' : x_H), l - (n_dg x (n_hi c) d p v).1 < n' → Tk u' u0 c ((n_dg x (n_hi c) d p v).2 + 1) → Ok (fX0_playOn_b6 n' (x_sh τ 10 u') (nn (n_dg x (n_hi c) d p v).1)) P) → Ok (fX0_playOn_b6 n τ (nn p)) P := by
  have a2 := n_hi_is c
  intro d
  induction d with
  | zero =>
    intro n p v τ h1 h2 h3 h4 T K
    have k := K n (τ 10) (by show l - p < n; omega) T
    rw [x_sh_self] at k
    exact k
  | succ d ih =>
    intro n p v τ h1 h2 h3 h4 T K
    rw [n_dg] at K
    by_cases h : 48 ≤ x p ∧ x p ≤ 57 ∧ 10 * v + (x p - 48) ≤ n_hi c
    · rw [if_pos h] at K
      obtain ⟨n, rfl⟩ : ∃ m, n = m + 1 := ⟨n - 1, by omega⟩
      refine o_step X T.1 (by omega) (by omega) (Ok_mono (r_dig T hc ⟨h.1, h.2.1⟩ (by omega)) (fun r hr => ?_))
      obtain ⟨b, v', e1, e2, e3, -, -, e4⟩ := hr
      obtain ⟨e5, e6⟩ := e4 (by omega)
      rw [Nat.add_sub_cancel] at e5
      rw [e5] at e3
      exact ih n (p + 1) _ (x_sh τ 10 r.2) (by omega) (by omega) (by omega) h.2.2 (by rw [x_sh_eq]; exact e3) (fun n' u' hn' T' => by rw [x_sh_sh]; exact K n' u' hn' T')
    · rw [if_neg h] at K
      have k := K n (τ 10) (by show l - p < n; omega) T
      rw [x_sh_self] at k
      exact k
set_option maxRecDepth 16384 in
theorem o_all (X : CX u0 l x) : ∀ (d n B p k : Nat) (w : Nat → Nat) (τ : x_S), p + k = l → k < d → k < n → Wf B w → B + 600200 * k + 700000 ≤ 1000000000 → (∀ j, j ≠ 1 → j ≠ 10 → τ j = σ0 j) → Tk (τ 10) u0 0 0 → Ru (τ 1) w → (n_tx x l d p 1 w).1 = 1 → Ok (fX0_playOn_b6 n τ (nn p)) (Po σ0 u0 (n_tx x l d p 1 w).2.2.1 (n_tx x l d p 1 w).2.2.2) := by
  have hl := X.2.2.1
  intro d
  induction d with
  | zero => intro n B p k w τ h1 h2; omega
  | succ d ih =>
    intro n B p k w τ h1 h2 hn F H D T R hA
    by_cases hL : p < l ∧ n_L (x p)
    · by_cases h3 : p + 1 < l ∧ 48 + n_lo (x p) ≤ x (p + 1) ∧ x (p + 1) ≤ 57
      · obtain ⟨n, rfl⟩ : ∃ m, n = m + 1 := ⟨n - 1, by omega⟩
        obtain ⟨n, rfl⟩ : ∃ m, n = m + 1 := ⟨n - 1, by omega⟩
        have a2 := n_hi_is (x p)
        have xp := X.2.2.2 p hL.1
        -- behind a number
        have Q : ∀ (p' v : Nat) (hv : v ≤ n_hi (x p)) (hp' : p < p' ∧ p' ≤ l) (hpt : n_pt x l p = (1, p', x p, v)) (n' : Nat) (τ' : x_S), l - p' < n' → (∀ j, j ≠ 1 → j ≠ 10 → τ' j = σ0 j) → Ru (τ' 1) w → Tk (τ' 10) u0 (x p) (v + 1) → Ok (fX0_playOn_b6 n' τ' (nn p')) (Po σ0 u0 (n_tx x l (d + 1) p 1 w).2.2.1 (n_tx x l (d + 1) p 1 w).2.2.2) := by
          intro p' v hv hp' hpt n' τ' hn' D' R' T'
          obtain ⟨n', rfl⟩ : ∃ m, n' = m + 1 := ⟨n' - 1, by omega⟩
          rw [n_tx_g hpt] at hA ⊢
          have PP := p_part R' F (bud5 H) hL.2 hv
          have D1 : ∀ u1 : x_H, ∀ j, j ≠ 1 → j ≠ 10 → x_sh τ' 1 u1 j = σ0 j := fun u1 j j1 j2 => by rw [x_sh_ne _ _ j1]; exact D' j j1 j2
          have T10 : ∀ u1 : x_H, Tg (x_sh τ' 1 u1 10) u0 := fun u1 => by rw [x_sh_ne _ _ (by omega)]; exact T'.1
          have R1 : ∀ (u1 : x_H) (w1 : Nat → Nat), Ru u1 w1 → Ru (x_sh τ' 1 u1 1) w1 := fun u1 w1 h => by rw [x_sh_eq]; exact h
          by_cases cl : p' < l
          · rw [if_pos cl] at hA ⊢
            by_cases cx : x p' = 59
            · rw [if_pos cx] at hA ⊢
              have hk : l - (p' + 1) + 1 ≤ k := by omega
              refine o_semi X T' hL.2 (by omega) cl cx (Ok_mono PP (fun r hr => ?_))
              by_cases ho : n_ok w (x p) v
              · obtain ⟨q1, q2⟩ := hr.1 ho
                rw [n_ef_y ⟨rfl, ho⟩] at hA ⊢
                refine Or.inr ⟨q1, fun u' Tu => ?_⟩
                refine ih n' (B + 600100) (p' + 1) (l - (p' + 1)) _ _ (by omega) (by omega) (by omega) (Wf_do F (bud5 H) hL.2 hv ho) (bud6 hk H) (fun j j1 j2 => by rw [x_sh_ne _ _ j2]; exact D1 _ j j1 j2) (by rw [x_sh_eq]; exact Tu) (by rw [x_sh_ne _ _ (by omega), x_sh_eq]; exact q2) hA
              · rw [n_ef_n (fun h => ho h.2)] at hA ⊢
                refine Or.inl ⟨hr.2 ho, D1 _, T10 r.2, fun h => ?_, fun _ => rfl⟩
                have h0 := n_tx_0 (x := x) (l := l) d (p' + 1) w
                exact absurd (h0.symm.trans (show (n_tx x l d (p' + 1) 0 w).2.2.1 = 1 from h)) (by decide)
            · rw [if_neg cx] at hA
              exact absurd (show (0 : Nat) = 1 from hA) (by decide)
          · rw [if_neg cl] at hA ⊢
            refine o_end X T' (by omega) (Ok_mono PP (fun r hr => ?_))
            by_cases ho : n_ok w (x p) v
            · obtain ⟨q1, q2⟩ := hr.1 ho
              rw [n_ef_y ⟨rfl, ho⟩]
              exact ⟨Or.inr q1, D1 _, T10 r.2, fun _ => ⟨q1, R1 r.2 _ q2⟩, fun h => absurd (show (1 : Nat) = 0 from h) (by decide)⟩
            · rw [n_ef_n (fun h => ho h.2)]
              exact ⟨Or.inl (hr.2 ho), D1 _, T10 r.2, fun h => absurd (show (0 : Nat) = 1 from h) (by decide), fun _ => hr.2 ho⟩
        have S10 : ∀ (τ1 : x_S) (u1 : x_H), (∀ j, j ≠ 1 → j ≠ 10 → τ1 j = σ0 j) → ∀ j, j ≠ 1 → j ≠ 10 → x_sh τ1 10 u1 j = σ0 j := fun τ1 u1 h j j1 j2 => by rw [x_sh_ne _ _ j2]; exact h j j1 j2
        refine o_step X T.1 hL.1 (by omega) (Ok_mono (r_let T (by omega)) (fun r hr => ?_))
        have T1 : Tk (x_sh τ 10 r.2 10) u0 (x p) 0 := by rw [x_sh_eq]; exact hr.2
        refine o_step X T1.1 h3.1 (by omega) (Ok_mono (r_dig T1 hL.2 ⟨by omega, h3.2.2⟩ (by omega)) (fun r2 hr2 => ?_))
        obtain ⟨b, v', f1, f2, f3, f4, -, -⟩ := hr2
        obtain ⟨f5, f6⟩ := f4 rfl
        rw [f5] at f3
        have D2 := S10 _ r2.2 (S10 _ r.2 D)
        have R2 : Ru (x_sh (x_sh τ 10 r.2) 10 r2.2 1) w := by rw [x_sh_ne _ _ (by omega), x_sh_ne _ _ (by omega)]; exact R
        have T2 : Tk (x_sh (x_sh τ 10 r.2) 10 r2.2 10) u0 (x p) (x (p + 1) - 48 + 1) := by rw [x_sh_eq]; exact f3
        by_cases h4 : x (p + 1) = 48
        · rw [h4] at T2
          exact Q (p + 2) 0 (by omega) (by omega) (n_pt_z hL h3 h4) n _ (by omega) D2 R2 T2
        · have DI := n_dg_is (x := x) (m := n_hi (x p)) (l - (p + 2)) (p + 2) (x (p + 1) - 48) (by omega)
          exact o_dg X hL.2 (l - (p + 2)) n (p + 2) (x (p + 1) - 48) _ (by omega) (by omega) (by omega) (by omega) T2 (fun n' u' hn' T' => Q _ _ (by omega) (by omega) (n_pt_d hL h3 h4) n' _ hn' (S10 _ u' D2) (by rw [x_sh_ne _ _ (by omega)]; exact R2) (by rw [x_sh_eq]; exact T'))
      · rw [n_tx_b (n_pt_b hL h3)] at hA
        exact absurd (show (0 : Nat) = 1 from hA) (by decide)
    · rw [n_tx_b (n_pt_0 hL)] at hA
      exact absurd (show (0 : Nat) = 1 from hA) (by decide)
end

