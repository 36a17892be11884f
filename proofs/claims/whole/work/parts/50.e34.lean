/-! ===== numbers, parts, the whole text, read by the model ===== -/
section
variable {l p g o q m lo : Nat} {x : Nat → Nat} {u u0 : x_H} {w w' : Nat → Nat}
set_option maxRecDepth 16384 in
theorem t_number (X : TX u0 l x) (hp : p ≤ l) (hm : m ≤ 100) (hlo : lo ≤ 1) (T : Ts u u0 p 1 o w) : Ok (fX7_number u (nn lo) (nn m)) (fun r => r.1 = nn (n_num x l p lo m).2.2 ∧ Ts r.2 u0 (n_num x l p lo m).2.1 (n_num x l p lo m).1 o w) := by
  have hl := X.2.2.1
  have hx : p < l → 33 ≤ x p ∧ x p ≤ 126 := X.2.2.2 p
  have E0 : ∀ (p v : Nat) (y3 : Int32) (u : x_H), y3 = nn v → Ts u u0 p 1 o w → Ok (fX7_number_j52 u (nn m) y3) (fun r => r.1 = nn v ∧ Ts r.2 u0 p 1 o w) := by
    intro p v y3 u hy T
    rw [fX7_number_j52, fX7_number_j53, fX7_number_b55, if_pos rfl, T.2.2.1, if_neg (show ¬ nn 1 = (0 : Int32) from nn_one), hy]
    exact Ok_some ⟨rfl, T⟩
  rw [fX7_number, t_here X T hp, xb_some]
  refine Ok_let (fun x3 e3 => ?_)
  rw [T.2.2.1, if_neg (show ¬ nn 1 = (0 : Int32) from nn_one), e3, t_in (by split <;> omega) hlo, xb_some, n_num]
  by_cases c : p < l ∧ 48 + lo ≤ x p ∧ x p ≤ 57
  · have xp := hx c.1
    have ev : mm (x p + 1) - (48 : Int32) = nn (x p - 48) := by rw [mm_succ]; exact nn_sub (b := 48) (by omega)
    rw [if_pos c.1, if_pos (show 49 + lo ≤ x p + 1 ∧ x p + 1 ≤ 58 by omega), if_neg nn_one, if_pos c, fX7_number_j34, ev]
    refine Ok_bind (t_pass1 T) (fun r9 T9 => ?_)
    rw [T9.2.2.1, if_neg (show ¬ nn 1 = (0 : Int32) from nn_one)]
    by_cases c2 : x p = 48
    · rw [if_pos c2, if_pos (show nn (x p - 48) ≤ (0 : Int32) by rw [c2]; decide)]
      exact E0 (p + 1) 0 _ r9 (by rw [c2]) T9
    · rw [if_neg c2, if_neg (show ¬ nn (x p - 48) ≤ (0 : Int32) from fun h => by have := (nn_le (b := 0) (by omega) (by omega)).mp h; omega), fX7_number_j53]
      exact t_b55 X hm (l - (p + 1)) 400 (p + 1) (x p - 48) r9 (by omega) (by omega) (by omega) (by omega) T9
  · have c3 : ¬ (49 + lo ≤ (if p < l then x p + 1 else 0) ∧ (if p < l then x p + 1 else 0) ≤ 58) := by
      by_cases c1 : p < l
      · rw [if_pos c1]; omega
      · rw [if_neg c1]; omega
    rw [if_neg c3, if_pos rfl, if_neg c, fX7_number_j33, fX7_number_j34]
    refine Ok_bind (t_pass0 T) (fun r9 T9 => ?_)
    rw [T9.2.2.1, if_pos (show nn 0 = (0 : Int32) from rfl), fX7_number_j52, fX7_number_j53, fX7_number_b55, if_pos rfl, T9.2.2.1, if_pos (show nn 0 = (0 : Int32) from rfl)]
    exact Ok_some ⟨rfl, T9⟩
/- where a part can be played, and is -/
set_option maxRecDepth 16384 in
theorem t_goes (T : Ts u u0 p 1 o w) (ho : o ≤ 1) {c : Prop} [Decidable c] : Ok (fX7_goes u (nn (if c then 1 else 0))) (fun r => r.1 = nn (if o = 1 ∧ c then 1 else 0) ∧ Ts r.2 u0 p 1 (if o = 1 ∧ c then 1 else 0) w) := by
  rw [fX7_goes, T.2.2.2.1, T.2.2.1]
  have J : ∀ (y : Int32) (b : Nat), y = nn b → b ≤ 1 → Ok (x_let (x_hu u 40 5 y) fun u2 => (if (u2 40 4) = 0 then some ((0 : Int32), u2) else (if (u2 40 5) = 0 then some ((0 : Int32), u2) else some ((1 : Int32), u2)))) (fun r => r.1 = nn b ∧ Ts r.2 u0 p 1 b w) := by
    intro y b hy hb
    refine Ok_let (fun u2 e2 => ?_)
    have T2 : Ts u2 u0 p 1 b w := by rw [e2, hy]; exact Ts_5 T
    rw [T2.2.2.1, if_neg (show ¬ nn 1 = (0 : Int32) from nn_one), T2.2.2.2.1]
    by_cases c0 : b = 0
    · rw [c0] at T2 ⊢
      rw [if_pos (show nn 0 = (0 : Int32) from rfl)]
      exact Ok_some ⟨rfl, T2⟩
    · rw [show b = 1 by omega] at T2 ⊢
      rw [if_neg (show ¬ nn 1 = (0 : Int32) from nn_one)]
      exact Ok_some ⟨rfl, T2⟩
  by_cases c0 : o = 0
  · rw [if_pos (show nn o = (0 : Int32) by rw [c0]; rfl), if_neg (show ¬ (o = 1 ∧ c) from fun h => by omega)]
    exact J _ 0 rfl (by omega)
  · rw [if_neg (show ¬ nn o = (0 : Int32) from fun e => c0 ((nn_0 (by omega)).mp e)), if_neg (show ¬ nn 1 = (0 : Int32) from nn_one)]
    by_cases h : c
    · rw [if_pos h, if_neg (show ¬ nn 1 = (0 : Int32) from nn_one), if_pos (show o = 1 ∧ c from ⟨by omega, h⟩), fX7_goes_j19]
      exact J _ 1 rfl (by omega)
    · rw [if_neg h, if_pos (show nn 0 = (0 : Int32) from rfl), if_neg (show ¬ (o = 1 ∧ c) from fun k => h k.2)]
      exact J _ 0 rfl (by omega)
set_option maxRecDepth 16384 in
theorem t_goes0 (T : Ts u u0 p 0 o w) (ho : o ≤ 1) (a : Int32) : Ok (fX7_goes u a) (fun r => r.1 = nn 0 ∧ Ts r.2 u0 p 0 o w) := by
  rw [fX7_goes, T.2.2.2.1, T.2.2.1]
  have J : ∀ y : Int32, y = nn o → Ok (x_let (x_hu u 40 5 y) fun u2 => (if (u2 40 4) = 0 then some ((0 : Int32), u2) else (if (u2 40 5) = 0 then some ((0 : Int32), u2) else some ((1 : Int32), u2)))) (fun r => r.1 = nn 0 ∧ Ts r.2 u0 p 0 o w) := by
    intro y hy
    refine Ok_let (fun u2 e2 => ?_)
    have T2 : Ts u2 u0 p 0 o w := by rw [e2, hy]; exact Ts_5 T
    rw [T2.2.2.1, if_pos (show nn 0 = (0 : Int32) from rfl)]
    exact Ok_some ⟨rfl, T2⟩
  by_cases c0 : o = 0
  · rw [if_pos (show nn o = (0 : Int32) by rw [c0]; rfl)]
    exact J _ (by rw [c0]; rfl)
  · rw [if_neg (show ¬ nn o = (0 : Int32) from fun e => c0 ((nn_0 (by omega)).mp e)), if_pos (show nn 0 = (0 : Int32) from rfl), fX7_goes_j19]
    exact J _ (by rw [show o = 1 by omega]; rfl)
set_option maxRecDepth 16384 in
theorem n_pe_0 {c v : Nat} : n_pe 0 o w c v = (o, w) := if_pos rfl
set_option maxRecDepth 16384 in
theorem n_pe_1 {c v : Nat} : n_pe 1 o w c v = n_ef o w c v := if_neg (by omega)
set_option maxRecDepth 16384 in
theorem n_ef_y {c v : Nat} (h : o = 1 ∧ n_ok w c v) : n_ef o w c v = (1, n_do w c v) := if_pos h
set_option maxRecDepth 16384 in
theorem n_ef_n {c v : Nat} (h : ¬ (o = 1 ∧ n_ok w c v)) : n_ef o w c v = (0, w) := if_neg h
set_option maxRecDepth 16384 in
theorem t_guest (X : TX u0 l x) (hp : p ≤ l) (ho : o ≤ 1) (Z : Wz w) {c : Nat} (hc : c = 115 ∨ c = 103 ∨ c = 114) (T : Ts u u0 p 1 o w) : Ok (fX7_readGuest u (nn c)) (fun r => Ts r u0 (n_num x l p 0 11).2.1 (n_num x l p 0 11).1 (n_pe (n_num x l p 0 11).1 o w c (n_num x l p 0 11).2.2).1 (n_pe (n_num x l p 0 11).1 o w c (n_num x l p 0 11).2.2).2) := by
  have N := n_num_is (x := x) (l := l) (p := p) (lo := 0) (m := 11) hp (by omega) (by omega)
  have hm := Z.2.2.1.2
  rw [fX7_readGuest]
  refine Ok_bind (t_number X hp (m := 11) (lo := 0) (by omega) (by omega) T) (fun r1 h1 => ?_)
  obtain ⟨e1, T1⟩ := h1
  generalize (n_num x l p 0 11).2.2 = v at *
  generalize (n_num x l p 0 11).2.1 = p' at *
  generalize (n_num x l p 0 11).1 = g at *
  rw [T1.2.2.1, e1]
  by_cases cg : g = 0
  · subst cg
    rw [if_pos (show nn 0 = (0 : Int32) from rfl), fX7_readGuest_j52, fX7_readGuest_j53, n_pe_0]
    refine Ok_bind (t_goes0 T1 ho _) (fun r11 h11 => ?_)
    rw [h11.1, if_pos (show nn 0 = (0 : Int32) from rfl), fX7_readGuest_j78, if_pos (show nn 0 = (0 : Int32) from rfl)]
    exact Ok_some h11.2
  · have cg1 : g = 1 := by omega
    subst cg1
    have hv : v < 12 := by omega
    have zv := (Z.1 v hv).1
    rw [if_neg (show ¬ nn 1 = (0 : Int32) from nn_one), n_pe_1]
    have K : ∀ {b : Prop} [Decidable b], (b ↔ n_ok w c v) → Ok (fX7_readGuest_j53 r1.2 (nn c) (nn v) (nn (if b then 1 else 0))) (fun r => Ts r u0 p' 1 (n_ef o w c v).1 (n_ef o w c v).2) := by
      intro b _ hb
      rw [fX7_readGuest_j53]
      refine Ok_bind (t_goes T1 ho) (fun r11 h11 => ?_)
      obtain ⟨e11, T11⟩ := h11
      by_cases h : o = 1 ∧ b
      · rw [if_pos h] at e11 T11
        rw [e11, if_neg (show ¬ nn 1 = (0 : Int32) from nn_one), n_ef_y ⟨h.1, hb.mp h.2⟩]
        show Ok _ (fun r => Ts r u0 p' 1 1 (n_do w c v))
        rcases hc with rfl | rfl | rfl
        · rw [if_neg (by decide), fX7_readGuest_j78, if_neg (show ¬ nn 1 = (0 : Int32) from nn_one), if_pos (by decide)]
          exact Ok_bind (v_goSeek T11.2.2.2.2 hv hm) (fun r21 h21 => Ok_let (fun u23 e23 => Ok_some (by rw [e23]; exact Ts_42 T11 h21.2)))
        · rw [if_neg (by decide), fX7_readGuest_j78, if_neg (show ¬ nn 1 = (0 : Int32) from nn_one), if_neg (by decide)]
          exact Ok_bind (v_goLeave T11.2.2.2.2 hv hm) (fun r21 h21 => Ok_let (fun u23 e23 => Ok_some (by rw [e23]; exact Ts_42 T11 h21.2)))
        · rw [if_pos (by decide)]
          exact Ok_bind (v_want T11.2.2.2.2 hv hm) (fun r21 h21 => Ok_let (fun u23 e23 => Ok_some (by rw [e23]; exact Ts_42 T11 h21)))
      · rw [if_neg h] at e11 T11
        rw [e11, if_pos (show nn 0 = (0 : Int32) from rfl), n_ef_n (fun k => h ⟨k.1, hb.mpr k.2⟩), fX7_readGuest_j78, if_pos (show nn 0 = (0 : Int32) from rfl)]
        exact Ok_some T11
    rw [v_doing T1.2.2.2.2 hv, xb_some, xb_some]
    by_cases cs : c = 115
    · subst cs
      rw [if_pos (show nn 115 = (115 : Int32) from rfl)]
      have k := K (b := w (8 * v) = 0) ⟨fun h => Or.inr (Or.inr (Or.inl ⟨rfl, h⟩)), fun h => by omega⟩
      by_cases cw : w (8 * v) = 0
      · rw [if_pos cw] at k
        rw [if_pos (show nn (w (8 * v)) = (0 : Int32) by rw [cw]; rfl)]
        exact k
      · rw [if_neg cw] at k
        rw [if_neg (show ¬ nn (w (8 * v)) = (0 : Int32) from fun e => cw ((nn_0 (by omega)).mp e))]
        exact k
    · rw [if_neg (show ¬ nn c = (115 : Int32) from fun e => cs ((nn_is 115 (by omega) (by omega)).mp e))]
      have k := K (b := w (8 * v) = 3) ⟨fun h => Or.inr (Or.inr (Or.inr ⟨by omega, h⟩)), fun h => by omega⟩
      by_cases cw : w (8 * v) = 3
      · rw [if_pos cw] at k
        rw [if_pos (show nn (w (8 * v)) = (3 : Int32) by rw [cw]; rfl)]
        exact k
      · rw [if_neg cw] at k
        rw [if_neg (no3 (by omega) cw)]
        exact k
end
