/-! ===== the buffer, read by the model ===== -/
abbrev n_L (c : Nat) : Prop := c = 115 ∨ c = 103 ∨ c = 114 ∨ c = 100 ∨ c = 120 ∨ c = 116
def n_lo (c : Nat) : Nat := if c = 116 then 1 else 0
def n_hi (c : Nat) : Nat := if c = 116 then 100 else if c = 100 ∨ c = 120 then 59 else 11
set_option maxRecDepth 16384 in
theorem n_hi_is (c : Nat) : 11 ≤ n_hi c ∧ n_hi c ≤ 100 := by unfold n_hi; split <;> (try split) <;> omega
set_option maxRecDepth 16384 in
theorem n_lo_is (c : Nat) : n_lo c ≤ 1 := by unfold n_lo; split <;> omega
/- further digits -/
def n_dg (x : Nat → Nat) (m : Nat) : Nat → Nat → Nat → Nat × Nat
  | 0, p, v => (p, v)
  | d + 1, p, v => if 48 ≤ x p ∧ x p ≤ 57 ∧ 10 * v + (x p - 48) ≤ m then n_dg x m d (p + 1) (10 * v + (x p - 48)) else (p, v)
/- a number: good or not, the place behind it, its value -/
def n_num (x : Nat → Nat) (l p lo m : Nat) : Nat × Nat × Nat := if p < l ∧ 48 + lo ≤ x p ∧ x p ≤ 57 then (if x p = 48 then (1, p + 1, 0) else (1, n_dg x m (l - (p + 1)) (p + 1) (x p - 48))) else (0, p, 0)
/- a part: good or not, the place behind it, letter, number -/
def n_pt (x : Nat → Nat) (l p : Nat) : Nat × Nat × Nat × Nat := if p < l ∧ n_L (x p) then ((n_num x l (p + 1) (n_lo (x p)) (n_hi (x p))).1, (n_num x l (p + 1) (n_lo (x p)) (n_hi (x p))).2.1, x p, (n_num x l (p + 1) (n_lo (x p)) (n_hi (x p))).2.2) else (0, p, 0, 0)
abbrev n_ok (w : Nat → Nat) (c v : Nat) : Prop := c = 116 ∨ ((c = 100 ∨ c = 120) ∧ v < w 552) ∨ (c = 115 ∧ w (8 * v) = 0) ∨ ((c = 103 ∨ c = 114) ∧ w (8 * v) = 3)
def n_do (w : Nat → Nat) (c v : Nat) : Nat → Nat := if c = 116 then (n_go v w).2 else if c = 100 then n_handle w v else if c = 120 then n_lose w v else if c = 115 then n_seek w v else if c = 103 then n_leave w v else n_want w v
def n_ef (o : Nat) (w : Nat → Nat) (c v : Nat) : Nat × (Nat → Nat) := if o = 1 ∧ n_ok w c v then (1, n_do w c v) else (0, w)
/- what a part does, if it is one -/
def n_pe (g o : Nat) (w : Nat → Nat) (c v : Nat) : Nat × (Nat → Nat) := if g = 0 then (o, w) else n_ef o w c v
/- the whole text from a place on where a part begins: good or not, the place, possible or not, the row -/
def n_tx (x : Nat → Nat) (l : Nat) : Nat → Nat → Nat → (Nat → Nat) → Nat × Nat × Nat × (Nat → Nat)
  | 0, p, o, w => (0, p, o, w)
  | d + 1, p, o, w => if (n_pt x l p).1 = 0 then (0, (n_pt x l p).2.1, o, w) else if (n_pt x l p).2.1 < l then (if x (n_pt x l p).2.1 = 59 then n_tx x l d ((n_pt x l p).2.1 + 1) (n_ef o w (n_pt x l p).2.2.1 (n_pt x l p).2.2.2).1 (n_ef o w (n_pt x l p).2.2.1 (n_pt x l p).2.2.2).2 else (0, (n_pt x l p).2.1, (n_ef o w (n_pt x l p).2.2.1 (n_pt x l p).2.2.2).1, (n_ef o w (n_pt x l p).2.2.1 (n_pt x l p).2.2.2).2)) else (1, (n_pt x l p).2.1, (n_ef o w (n_pt x l p).2.2.1 (n_pt x l p).2.2.2).1, (n_ef o w (n_pt x l p).2.2.1 (n_pt x l p).2.2.2).2)
set_option maxRecDepth 16384 in
theorem n_dg_is {x : Nat → Nat} {m : Nat} : ∀ d p v, v ≤ m → p ≤ (n_dg x m d p v).1 ∧ (n_dg x m d p v).1 ≤ p + d ∧ (n_dg x m d p v).2 ≤ m ∧ v ≤ (n_dg x m d p v).2 := by
  intro d
  induction d with
  | zero => intro p v h; rw [n_dg]; exact ⟨Nat.le_refl _, Nat.le_refl _, h, Nat.le_refl _⟩
  | succ d ih =>
    intro p v h
    rw [n_dg]
    by_cases c : 48 ≤ x p ∧ x p ≤ 57 ∧ 10 * v + (x p - 48) ≤ m
    · rw [if_pos c]
      have := ih (p + 1) (10 * v + (x p - 48)) c.2.2
      omega
    · rw [if_neg c]; exact ⟨Nat.le_refl _, by omega, h, Nat.le_refl _⟩
set_option maxRecDepth 16384 in
theorem n_num_is {x : Nat → Nat} {l p lo m : Nat} (hp : p ≤ l) (hm : 9 ≤ m) (hlo : lo ≤ 1) : (n_num x l p lo m).1 ≤ 1 ∧ p ≤ (n_num x l p lo m).2.1 ∧ (n_num x l p lo m).2.1 ≤ l ∧ (n_num x l p lo m).2.2 ≤ m ∧ ((n_num x l p lo m).1 = 1 → p < (n_num x l p lo m).2.1 ∧ lo ≤ (n_num x l p lo m).2.2) := by
  unfold n_num
  by_cases c : p < l ∧ 48 + lo ≤ x p ∧ x p ≤ 57
  · rw [if_pos c]
    by_cases c2 : x p = 48
    · rw [if_pos c2]
      show 1 ≤ 1 ∧ p ≤ p + 1 ∧ p + 1 ≤ l ∧ 0 ≤ m ∧ (1 = 1 → p < p + 1 ∧ lo ≤ 0)
      omega
    · rw [if_neg c2]
      have := n_dg_is (x := x) (m := m) (l - (p + 1)) (p + 1) (x p - 48) (by omega)
      show 1 ≤ 1 ∧ p ≤ (n_dg x m (l - (p + 1)) (p + 1) (x p - 48)).1 ∧ (n_dg x m (l - (p + 1)) (p + 1) (x p - 48)).1 ≤ l ∧ (n_dg x m (l - (p + 1)) (p + 1) (x p - 48)).2 ≤ m ∧ (1 = 1 → p < (n_dg x m (l - (p + 1)) (p + 1) (x p - 48)).1 ∧ lo ≤ (n_dg x m (l - (p + 1)) (p + 1) (x p - 48)).2)
      omega
  · rw [if_neg c]
    show 0 ≤ 1 ∧ p ≤ p ∧ p ≤ l ∧ 0 ≤ m ∧ (0 = 1 → p < p ∧ lo ≤ 0)
    omega
/- the model's object while it reads -/
def Tf (u u0 : x_H) : Prop := ∀ k i, k ≠ 42 → (k ≠ 40 ∨ (i ≠ 3 ∧ i ≠ 4 ∧ i ≠ 5)) → u k i = u0 k i
def Ts (u u0 : x_H) (p g o : Nat) (w : Nat → Nat) : Prop := Tf u u0 ∧ u 40 3 = nn p ∧ u 40 4 = nn g ∧ u 40 5 = nn o ∧ Rv (u 42) w
def TX (u0 : x_H) (l : Nat) (x : Nat → Nat) : Prop := u0 40 2 = nn l ∧ (∀ i, i < l → u0 46 i = nn (x i)) ∧ l ≤ 60 ∧ ∀ i, i < l → 33 ≤ x i ∧ x i ≤ 126
section
variable {l p g o q m lo : Nat} {x : Nat → Nat} {u u0 : x_H} {w w' : Nat → Nat}
set_option maxRecDepth 16384 in
theorem Tf_hu (T : Tf u u0) {i : Nat} (hi : i = 3 ∨ i = 4 ∨ i = 5) (y : Int32) : Tf (x_hu u 40 i y) u0 := by
  intro k j h1 h2
  by_cases c : k = 40
  · rw [x_hu_ni (by omega)]; exact T k j h1 h2
  · rw [x_hu_ne c]; exact T k j h1 h2
set_option maxRecDepth 16384 in
theorem Ts_3 (T : Ts u u0 p g o w) : Ts (x_hu u 40 3 (nn q)) u0 q g o w := ⟨Tf_hu T.1 (by omega) _, x_hu_eq rfl rfl, by rw [x_hu_ni (by omega)]; exact T.2.2.1, by rw [x_hu_ni (by omega)]; exact T.2.2.2.1, fun i hi => by rw [x_hu_ne (by omega)]; exact T.2.2.2.2 i hi⟩
set_option maxRecDepth 16384 in
theorem Ts_4 (T : Ts u u0 p g o w) : Ts (x_hu u 40 4 (nn q)) u0 p q o w := ⟨Tf_hu T.1 (by omega) _, by rw [x_hu_ni (by omega)]; exact T.2.1, x_hu_eq rfl rfl, by rw [x_hu_ni (by omega)]; exact T.2.2.2.1, fun i hi => by rw [x_hu_ne (by omega)]; exact T.2.2.2.2 i hi⟩
set_option maxRecDepth 16384 in
theorem Ts_5 (T : Ts u u0 p g o w) : Ts (x_hu u 40 5 (nn q)) u0 p g q w := ⟨Tf_hu T.1 (by omega) _, by rw [x_hu_ni (by omega)]; exact T.2.1, by rw [x_hu_ni (by omega)]; exact T.2.2.1, x_hu_eq rfl rfl, fun i hi => by rw [x_hu_ne (by omega)]; exact T.2.2.2.2 i hi⟩
set_option maxRecDepth 16384 in
theorem Ts_42 (T : Ts u u0 p g o w) {v : x_V} (R : Rv v w') : Ts (x_hs u 42 v) u0 p g o w' := ⟨fun k i h1 h2 => by rw [x_hs_ne _ _ h1]; exact T.1 k i h1 h2, by rw [x_hs_ne _ _ (by omega)]; exact T.2.1, by rw [x_hs_ne _ _ (by omega)]; exact T.2.2.1, by rw [x_hs_ne _ _ (by omega)]; exact T.2.2.2.1, by rw [x_hs_eq]; exact R⟩
set_option maxRecDepth 16384 in
theorem t_here (X : TX u0 l x) (T : Ts u u0 p g o w) (hp : p ≤ l) : fX7_here u = some (mm (if p < l then x p + 1 else 0)) := by
  have hl := X.2.2.1
  rw [fX7_here, T.1 40 2 (by omega) (by omega), X.1, T.2.1]
  by_cases c : p < l
  · rw [if_neg (fun h => by have := (nn_le (by omega) (by omega)).mp h; omega), if_pos (nn_in (by omega) (by omega)), nn_clamp (by omega), T.1 46 p (by omega) (by omega), X.2.1 p c, if_pos c, mm_succ]
  · rw [if_pos ((nn_le (by omega) (by omega)).mpr (by omega)), if_neg c]; rfl
set_option maxRecDepth 16384 in
theorem xbo0 : x_bo (0 : Int32) := by decide
set_option maxRecDepth 16384 in
theorem xbo1 : x_bo (1 : Int32) := by decide
set_option maxRecDepth 16384 in
theorem t_pass1 (T : Ts u u0 p 1 o w) : Ok (fX7_pass u (1 : Int32)) (fun r => Ts r u0 (p + 1) 1 o w) := by
  rw [fX7_pass, T.2.2.1, if_neg (show ¬ nn 1 = (0 : Int32) from nn_one), if_neg nn_one, fX7_pass_j17, if_pos xbo1]
  refine Ok_let (fun u4 e4 => ?_)
  have T4 : Ts u4 u0 p 1 o w := by rw [e4]; exact Ts_4 T
  rw [T4.2.2.1, if_neg (show ¬ nn 1 = (0 : Int32) from nn_one), T4.2.1, show nn p + (1 : Int32) = nn (p + 1) from nn_add p 1]
  exact Ok_let (fun u9 e9 => Ok_some (by rw [e9]; exact Ts_3 T4))
set_option maxRecDepth 16384 in
theorem t_pass0 (T : Ts u u0 p 1 o w) : Ok (fX7_pass u (0 : Int32)) (fun r => Ts r u0 p 0 o w) := by
  rw [fX7_pass, T.2.2.1, if_neg (show ¬ nn 1 = (0 : Int32) from nn_one), if_pos rfl, fX7_pass_j16, fX7_pass_j17, if_pos xbo0]
  refine Ok_let (fun u4 e4 => ?_)
  have T4 : Ts u4 u0 p 0 o w := by rw [e4]; exact Ts_4 T
  rw [T4.2.2.1, if_pos (show nn 0 = (0 : Int32) from rfl), T4.2.1, show nn p + (0 : Int32) = nn p from Int32.add_zero _]
  exact Ok_let (fun u9 e9 => Ok_some (by rw [e9]; exact Ts_3 T4))
set_option maxRecDepth 16384 in
theorem t_in {k lo : Nat} (hk : k ≤ 127) (hlo : lo ≤ 1) : fX7_in (mm k - (48 : Int32)).toInt64 (nn lo).toInt64 (9 : Int64) = some (if 49 + lo ≤ k ∧ k ≤ 58 then 1 else 0) := by
  have e : (mm k - (48 : Int32)).toInt64.toInt = (k : Int) - 49 := by
    rw [Int32.toInt_toInt64, Int32.toInt_sub, mm_toInt (by omega), show (48 : Int32).toInt = 48 from rfl, Int.bmod_eq_of_le (by omega) (by omega)]
    omega
  rw [v_in, e, nn_to64 (by omega), show (9 : Int64).toInt = 9 from rfl]
  by_cases c : 49 + lo ≤ k ∧ k ≤ 58
  · rw [if_pos c, if_pos (by omega)]
  · rw [if_neg c, if_neg (by omega)]
set_option maxRecDepth 16384 in
theorem t_b55 (X : TX u0 l x) (hm : m ≤ 100) : ∀ (d n p v : Nat) (u : x_H), p + d = l → d + 1 < n → 1 ≤ v → v ≤ 100 → Ts u u0 p 1 o w → Ok (fX7_number_b55 n u (nn m) (nn v) (1 : Int32)) (fun r => r.1 = nn (n_dg x m d p v).2 ∧ Ts r.2 u0 (n_dg x m d p v).1 1 o w) := by
  have hl := X.2.2.1
  have E : ∀ (n p v : Nat) (u : x_H), 0 < n → Ts u u0 p 1 o w → Ok (fX7_number_b55 n u (nn m) (nn v) (0 : Int32)) (fun r => r.1 = nn v ∧ Ts r.2 u0 p 1 o w) := by
    intro n p v u hn T
    obtain ⟨n, rfl⟩ : ∃ m, n = m + 1 := ⟨n - 1, by omega⟩
    rw [fX7_number_b55, if_pos rfl, T.2.2.1, if_neg (show ¬ nn 1 = (0 : Int32) from nn_one)]
    exact Ok_some ⟨rfl, T⟩
  intro d
  induction d with
  | zero =>
    intro n p v u hd hn h1 h2 T
    obtain ⟨n, rfl⟩ : ∃ m, n = m + 1 := ⟨n - 1, by omega⟩
    rw [fX7_number_b55, if_neg nn_one, t_here X T (by omega), xb_some, if_neg (show ¬ p < l by omega)]
    refine Ok_let (fun x17 e17 => ?_)
    rw [e17, ← mz0, t_in (by omega) (by omega), xb_some, if_neg (show ¬ (49 + 0 ≤ 0 ∧ 0 ≤ 58) by omega), if_pos rfl, T.2.1, show nn p + (0 : Int32) = nn p from Int32.add_zero _, n_dg]
    exact Ok_let (fun u22 e22 => E n p v u22 (by omega) (by rw [e22]; exact Ts_3 T))
  | succ d ih =>
    intro n p v u hd hn h1 h2 T
    obtain ⟨n, rfl⟩ : ∃ m, n = m + 1 := ⟨n - 1, by omega⟩
    have xp := X.2.2.2 p (by omega)
    rw [fX7_number_b55, if_neg nn_one, t_here X T (by omega), xb_some, if_pos (show p < l by omega), n_dg]
    refine Ok_let (fun x17 e17 => ?_)
    rw [e17, ← mz0, t_in (by omega) (by omega), xb_some, T.2.1, show nn p + (0 : Int32) = nn p from Int32.add_zero _]
    by_cases c : 48 ≤ x p ∧ x p ≤ 57
    · have ev : mm (x p + 1) - (48 : Int32) = nn (x p - 48) := by rw [mm_succ]; exact nn_sub (b := 48) (by omega)
      have ew : (10 : Int32) * nn v + nn (x p - 48) = nn (10 * v + (x p - 48)) := by rw [show (10 : Int32) * nn v = nn (10 * v) from nn_mul 10 v, nn_add]
      rw [if_pos (show 49 + 0 ≤ x p + 1 ∧ x p + 1 ≤ 58 by omega), if_neg nn_one, ev, ew]
      by_cases c2 : 10 * v + (x p - 48) ≤ m
      · rw [if_neg (fun h => by have := (nn_lt (by omega) (by omega)).mp h; omega), x_let_n, show nn p + (1 : Int32) = nn (p + 1) from nn_add p 1, if_pos ⟨c.1, c.2, c2⟩]
        exact Ok_let (fun u29 e29 => ih n (p + 1) _ u29 (by omega) (by omega) (by omega) (by omega) (by rw [e29]; exact Ts_3 T))
      · rw [if_pos ((nn_lt (by omega) (by omega)).mpr (by omega)), if_neg (fun h => c2 h.2.2)]
        exact Ok_let (fun u22 e22 => E n p v u22 (by omega) (by rw [e22]; exact Ts_3 T))
    · rw [if_neg (show ¬ (49 + 0 ≤ x p + 1 ∧ x p + 1 ≤ 58) by omega), if_pos rfl, if_neg (fun h => c ⟨h.1, h.2.1⟩)]
      exact Ok_let (fun u22 e22 => E n p v u22 (by omega) (by rw [e22]; exact Ts_3 T))
end
