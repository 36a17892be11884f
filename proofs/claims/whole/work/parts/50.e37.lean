/-! ===== the buffer, read by the class ===== -/
def Tg (u u0 : x_H) : Prop := ∀ k i, (k ≠ 37 ∨ i = 0) → u k i = u0 k i
def Tk (u u0 : x_H) (c v : Nat) : Prop := Tg u u0 ∧ u 37 1 = nn c ∧ u 37 2 = mm v
def CX (u0 : x_H) (l : Nat) (x : Nat → Nat) : Prop := u0 37 0 = nn l ∧ (∀ i, i < l → u0 38 i = nn (x i)) ∧ l ≤ 60 ∧ ∀ i, i < l → 33 ≤ x i ∧ x i ≤ 126
set_option maxRecDepth 16384 in
theorem ch_ok : ∀ g, g < 127 → x_ch (nn g) := by decide
section
variable {l p c v s n : Nat} {x : Nat → Nat} {u u0 : x_H}
set_option maxRecDepth 16384 in
theorem Tg_37 (T : Tg u u0) {i : Nat} (hi : i ≠ 0) (y : Int32) : Tg (x_hu u 37 i y) u0 := by
  intro k j h
  by_cases c : k = 37
  · rw [x_hu_ni (by omega)]; exact T k j h
  · rw [x_hu_ne c]; exact T k j h
set_option maxRecDepth 16384 in
theorem Tk_1 (T : Tk u u0 c v) {q : Nat} : Tk (x_hu u 37 1 (nn q)) u0 q v := ⟨Tg_37 T.1 (by omega) _, x_hu_eq rfl rfl, by rw [x_hu_ni (by omega)]; exact T.2.2⟩
set_option maxRecDepth 16384 in
theorem Tk_2 (T : Tk u u0 c v) {q : Nat} : Tk (x_hu u 37 2 (mm q)) u0 c q := ⟨Tg_37 T.1 (by omega) _, by rw [x_hu_ni (by omega)]; exact T.2.1, x_hu_eq rfl rfl⟩
set_option maxRecDepth 16384 in
theorem r_begin (T : Tg u u0) : Ok (fX0_beginPart u) (fun r => Tk r u0 0 0) := by
  rw [fX0_beginPart]
  refine Ok_let (fun u1 e1 => Ok_let (fun u3 e3 => Ok_some ⟨?_, ?_, ?_⟩))
  · rw [e3, e1]; exact Tg_37 (Tg_37 T (by omega) _) (by omega) _
  · rw [e3, x_hu_ni (by omega), e1]; exact x_hu_eq rfl rfl
  · rw [e3]; exact x_hu_eq rfl rfl
set_option maxRecDepth 16384 in
theorem r_isL (h : s < 127) : fX0_isLetter (nn s) = some (nn (if n_L s then 1 else 0)) := by
  have L : ∀ j, j < 1000 → s ≠ j → ¬ nn s = nn j := fun j hj hne => lit (by omega) hj hne
  rw [fX0_isLetter]
  by_cases c1 : s = 115
  · rw [if_pos (show nn s = (115 : Int32) by rw [c1]; rfl), if_pos (by omega)]; rfl
  rw [if_neg (show ¬ nn s = (115 : Int32) from L 115 (by omega) c1)]
  by_cases c2 : s = 103
  · rw [if_pos (show nn s = (103 : Int32) by rw [c2]; rfl), if_pos (by omega)]; rfl
  rw [if_neg (show ¬ nn s = (103 : Int32) from L 103 (by omega) c2)]
  by_cases c3 : s = 114
  · rw [if_pos (show nn s = (114 : Int32) by rw [c3]; rfl), if_pos (by omega)]; rfl
  rw [if_neg (show ¬ nn s = (114 : Int32) from L 114 (by omega) c3)]
  by_cases c4 : s = 100
  · rw [if_pos (show nn s = (100 : Int32) by rw [c4]; rfl), if_pos (by omega)]; rfl
  rw [if_neg (show ¬ nn s = (100 : Int32) from L 100 (by omega) c4)]
  by_cases c5 : s = 120
  · rw [if_pos (show nn s = (120 : Int32) by rw [c5]; rfl), if_pos (by omega)]; rfl
  rw [if_neg (show ¬ nn s = (120 : Int32) from L 120 (by omega) c5)]
  by_cases c6 : s = 116
  · rw [if_pos (show nn s = (116 : Int32) by rw [c6]; rfl), if_pos (by omega)]; rfl
  rw [if_neg (show ¬ nn s = (116 : Int32) from L 116 (by omega) c6), if_neg (by omega)]; rfl
set_option maxRecDepth 16384 in
theorem r_let (T : Tk u u0 0 v) (hs : s < 127) : Ok (fX0_reads u (nn s)) (fun r => r.1 = nn (if n_L s then 1 else 0) ∧ Tk r.2 u0 s v) := by
  rw [fX0_reads, T.2.1, if_pos (show nn 0 = (0 : Int32) from rfl), if_pos (ch_ok s hs), r_isL hs]
  refine Ok_let (fun u3 e3 => ?_)
  rw [xb_some, if_pos vpb]
  exact Ok_some ⟨rfl, by show Tk u3 _ _ _; rw [e3]; exact Tk_1 T⟩
set_option maxRecDepth 16384 in
theorem r_semi (T : Tk u u0 c v) (hc : n_L c) (hv : v < 1000) : Ok (fX0_reads u (nn 59)) (fun r => r.1 = nn (if v ≠ 0 then 1 else 0) ∧ Tk r.2 u0 0 0) := by
  rw [fX0_reads, T.2.1, if_neg (show ¬ nn c = (0 : Int32) from lit (j := 0) (by omega) (by omega) (by omega)), if_pos (show nn 59 = (59 : Int32) from rfl), T.2.2]
  by_cases h : v = 0
  · rw [if_pos ((mm_none hv).mpr h), if_neg (show ¬ v ≠ 0 from fun k => k h)]
    exact Ok_bind (r_begin T.1) (fun r hr => Ok_some ⟨rfl, hr⟩)
  · rw [if_neg (fun e => h ((mm_none hv).mp e)), if_pos h]
    exact Ok_bind (r_begin T.1) (fun r hr => Ok_some ⟨rfl, hr⟩)
set_option maxRecDepth 16384 in
theorem r_oth (T : Tk u u0 c v) (hc : n_L c) (hs : s < 127) (h1 : s ≠ 59) (h2 : ¬ (48 ≤ s ∧ s ≤ 57)) : Ok (fX0_reads u (nn s)) (fun r => r.1 = nn 0 ∧ Tk r.2 u0 c v) := by
  rw [fX0_reads, T.2.1, if_neg (show ¬ nn c = (0 : Int32) from lit (j := 0) (by omega) (by omega) (by omega)), if_neg (show ¬ nn s = (59 : Int32) from lit (j := 59) (by omega) (by omega) h1)]
  by_cases h3 : s < 48
  · rw [if_pos (show nn s < (48 : Int32) from (nn_lt (b := 48) (by omega) (by omega)).mpr h3)]
    exact Ok_some ⟨rfl, T⟩
  · rw [if_neg (show ¬ nn s < (48 : Int32) from fun h => h3 ((nn_lt (b := 48) (by omega) (by omega)).mp h)), if_pos (show (57 : Int32) < nn s from (nn_lt (a := 57) (by omega) (by omega)).mpr (by omega))]
    exact Ok_some ⟨rfl, T⟩
set_option maxRecDepth 16384 in
theorem r_lo (T : Tk u u0 c v) (hc : n_L c) : fX0_leastNumber u = some (nn (n_lo c)) := by
  rw [fX0_leastNumber, T.2.1, n_lo]
  by_cases h : c = 116
  · rw [if_pos (show nn c = (116 : Int32) by rw [h]; rfl), if_pos h]; rfl
  · rw [if_neg (show ¬ nn c = (116 : Int32) from lit (j := 116) (by omega) (by omega) h), if_neg h]; rfl
set_option maxRecDepth 16384 in
theorem r_hi (T : Tk u u0 c v) (hc : n_L c) : fX0_mostNumber u = some (nn (n_hi c)) := by
  rw [fX0_mostNumber, T.2.1, n_hi]
  by_cases h : c = 116
  · rw [if_pos (show nn c = (116 : Int32) by rw [h]; rfl), if_pos h]; rfl
  rw [if_neg (show ¬ nn c = (116 : Int32) from lit (j := 116) (by omega) (by omega) h), if_neg h]
  by_cases h2 : c = 100
  · rw [if_pos (show nn c = (100 : Int32) by rw [h2]; rfl), if_pos (Or.inl h2)]; rfl
  rw [if_neg (show ¬ nn c = (100 : Int32) from lit (j := 100) (by omega) (by omega) h2)]
  by_cases h3 : c = 120
  · rw [if_pos (show nn c = (120 : Int32) by rw [h3]; rfl), if_pos (Or.inr h3)]; rfl
  · rw [if_neg (show ¬ nn c = (120 : Int32) from lit (j := 120) (by omega) (by omega) h3), if_neg (by omega)]; rfl
set_option maxRecDepth 16384 in
theorem r_j31 (T : Tk u u0 c v) (hc : n_L c) {b : Nat} (hb : b < 2000) : Ok (fX0_readsDigit_j31 u (nn b)) (fun r => r.1 = nn (if n_lo c ≤ b ∧ b ≤ n_hi c then 1 else 0) ∧ Tk r.2 u0 c (b + 1)) := by
  have a1 := n_lo_is c
  have a2 := n_hi_is c
  rw [fX0_readsDigit_j31]
  refine Ok_let (fun u3 e3 => ?_)
  have T3 : Tk u3 u0 c (b + 1) := by rw [e3, ← mm_succ b]; exact Tk_2 T
  rw [r_lo T3 hc, xb_some, T3.2.2, mm_succ]
  by_cases h : b < n_lo c
  · rw [if_pos ((nn_lt (by omega) (by omega)).mpr h), if_neg (by omega)]
    exact Ok_some ⟨rfl, T3⟩
  · rw [if_neg (fun k => h ((nn_lt (by omega) (by omega)).mp k)), r_hi T3 hc, xb_some]
    by_cases h2 : n_hi c < b
    · rw [if_pos ((nn_lt (by omega) (by omega)).mpr h2), if_neg (by omega)]
      exact Ok_some ⟨rfl, T3⟩
    · rw [if_neg (fun k => h2 ((nn_lt (by omega) (by omega)).mp k)), if_pos (by omega)]
      exact Ok_some ⟨rfl, T3⟩
/- a digit: the number so far is none, 0, or more -/
set_option maxRecDepth 16384 in
theorem r_dig (T : Tk u u0 c v) (hc : n_L c) (hs : 48 ≤ s ∧ s ≤ 57) (hv : v ≤ 101) : Ok (fX0_reads u (nn s)) (fun r => ∃ b v', r.1 = nn b ∧ b ≤ 1 ∧ Tk r.2 u0 c v' ∧ (v = 0 → v' = s - 48 + 1 ∧ (b = 1 ↔ n_lo c ≤ s - 48)) ∧ (v = 1 → b = 0) ∧ (2 ≤ v → v' = 10 * (v - 1) + (s - 48) + 1 ∧ (b = 1 ↔ 10 * (v - 1) + (s - 48) ≤ n_hi c))) := by
  have a1 := n_lo_is c
  have a2 := n_hi_is c
  have es : nn s - (48 : Int32) = nn (s - 48) := nn_sub (b := 48) hs.1
  rw [fX0_reads, T.2.1, if_neg (show ¬ nn c = (0 : Int32) from lit (j := 0) (by omega) (by omega) (by omega)), if_neg (show ¬ nn s = (59 : Int32) from lit (j := 59) (by omega) (by omega) (by omega)), if_neg (show ¬ nn s < (48 : Int32) from fun h => by have := (nn_lt (b := 48) (by omega) (by omega)).mp h; omega), if_neg (show ¬ (57 : Int32) < nn s from fun h => by have := (nn_lt (a := 57) (by omega) (by omega)).mp h; omega), es, fX0_readsDigit, T.2.2]
  have J : ∀ b' : Nat, b' < 2000 → Ok (Option.bind (fX0_readsDigit_j31 u (nn b')) fun r15 => (if r15.1 = 0 then some ((0 : Int32), r15.2) else some ((1 : Int32), r15.2))) (fun r => r.1 = nn (if n_lo c ≤ b' ∧ b' ≤ n_hi c then 1 else 0) ∧ Tk r.2 u0 c (b' + 1)) := by
    intro b' hb
    refine Ok_bind (r_j31 T hc hb) (fun r hr => ?_)
    rw [hr.1, nb_z]
    by_cases h : n_lo c ≤ b' ∧ b' ≤ n_hi c
    · rw [if_pos h]; exact Ok_some ⟨by rw [if_pos h]; rfl, hr.2⟩
    · rw [if_neg h]; exact Ok_some ⟨by rw [if_neg h]; rfl, hr.2⟩
  by_cases h1 : v = 1
  · rw [if_pos (show mm v = (0 : Int32) by rw [h1]; rfl), xb_some, if_pos rfl]
    exact Ok_some ⟨0, 1, rfl, by omega, by rw [← h1]; exact T, fun h => by omega, fun _ => rfl, fun h => by omega⟩
  · rw [if_neg (show ¬ mm v = (0 : Int32) from fun e => h1 ((mm_inj (b := 1) (by omega) (by omega)).mp e))]
    by_cases h0 : v = 0
    · rw [if_pos ((mm_none (by omega)).mpr h0)]
      refine Ok_mono (J (s - 48) (by omega)) (fun r hr => ⟨_, _, hr.1, by split <;> omega, hr.2, fun _ => ⟨rfl, ?_⟩, fun h => by omega, fun h => by omega⟩)
      by_cases h : n_lo c ≤ s - 48 ∧ s - 48 ≤ n_hi c
      · rw [if_pos h]; omega
      · rw [if_neg h]; omega
    · have ev : (10 : Int32) * mm v + nn (s - 48) = nn (10 * (v - 1) + (s - 48)) := by
        obtain ⟨a, rfl⟩ : ∃ a, v = a + 1 := ⟨v - 1, by omega⟩
        rw [mm_succ, show (10 : Int32) * nn a = nn (10 * a) from nn_mul 10 a, nn_add, Nat.add_sub_cancel]
      rw [if_neg (fun e => h0 ((mm_none (by omega)).mp e)), ev]
      refine Ok_mono (J (10 * (v - 1) + (s - 48)) (by omega)) (fun r hr => ⟨_, _, hr.1, by split <;> omega, hr.2, fun h => by omega, fun h => by omega, fun _ => ⟨rfl, ?_⟩⟩)
      by_cases h : n_lo c ≤ 10 * (v - 1) + (s - 48) ∧ 10 * (v - 1) + (s - 48) ≤ n_hi c
      · rw [if_pos h]; omega
      · rw [if_neg h]; omega
/- the class's loop that looks for an error, a step -/
set_option maxRecDepth 16384 in
theorem e_step {P : Int32 × x_H → Prop} (X : CX u0 l x) (T : Tg u u0) (hp : p < l) (h : Ok (fX0_reads u (nn (x p))) (fun r => (r.1 = nn 0 ∧ P (nn p, r.2)) ∨ (r.1 = nn 1 ∧ Ok (fX0_errorAt_b6 n r.2 (nn (p + 1))) P))) : Ok (fX0_errorAt_b6 (n + 1) u (nn p)) P := by
  have hl := X.2.2.1
  rw [fX0_errorAt_b6, T 37 0 (by omega), X.1, if_neg (fun h => by have := (nn_le (by omega) (by omega)).mp h; omega), if_neg (fun h => by have := (nn_le (a := 60) (by omega) (by omega)).mp h; omega), if_pos (nn_in (by omega) (by omega)), nn_clamp (by omega), T 38 p (by omega), X.2.1 p hp, show nn p + (1 : Int32) = nn (p + 1) from nn_add p 1]
  refine Ok_bind h (fun r hr => ?_)
  rcases hr with ⟨h1, h2⟩ | ⟨h1, h2⟩
  · rw [h1, if_pos (show nn 0 = (0 : Int32) from rfl)]; exact Ok_some h2
  · rw [h1, if_neg (show ¬ nn 1 = (0 : Int32) from nn_one), x_let_n]; exact h2
set_option maxRecDepth 16384 in
theorem e_stop {P : Int32 × x_H → Prop} (X : CX u0 l x) (T : Tg u u0) (hp : p = l) (h : P (nn l, u)) : Ok (fX0_errorAt_b6 (n + 1) u (nn p)) P := by
  have hl := X.2.2.1
  rw [fX0_errorAt_b6, T 37 0 (by omega), X.1, if_pos ((nn_le (by omega) (by omega)).mpr (by omega))]
  exact Ok_some h
set_option maxRecDepth 16384 in
theorem n_dg_stuck {m : Nat} : ∀ d p v, p + d = l → (n_dg x m d p v).1 = l ∨ ¬ (48 ≤ x (n_dg x m d p v).1 ∧ x (n_dg x m d p v).1 ≤ 57 ∧ 10 * (n_dg x m d p v).2 + (x (n_dg x m d p v).1 - 48) ≤ m) := by
  intro d
  induction d with
  | zero => intro p v h; rw [n_dg]; exact Or.inl h
  | succ d ih =>
    intro p v h
    rw [n_dg]
    by_cases c : 48 ≤ x p ∧ x p ≤ 57 ∧ 10 * v + (x p - 48) ≤ m
    · rw [if_pos c]; exact ih _ _ (by omega)
    · rw [if_neg c]; exact Or.inr c
set_option maxRecDepth 16384 in
theorem e_dg {P : Int32 × x_H → Prop} (X : CX u0 l x) (hc : n_L c) : ∀ (d n p v : Nat) (u : x_H), p + d = l → d < n → 1 ≤ v → v ≤ n_hi c → Tk u u0 c (v + 1) → (∀ (n' : Nat) (u' : x_H), l - (n_dg x (n_hi c) d p v).1 < n' → Tk u' u0 c ((n_dg x (n_hi c) d p v).2 + 1) → Ok (fX0_errorAt_b6 n' u' (nn (n_dg x (n_hi c) d p v).1)) P) → Ok (fX0_errorAt_b6 n u (nn p)) P := by
  have a2 := n_hi_is c
  intro d
  induction d with
  | zero => intro n p v u h1 h2 h3 h4 T K; exact K n u (by show l - p < n; omega) T
  | succ d ih =>
    intro n p v u h1 h2 h3 h4 T K
    rw [n_dg] at K
    by_cases h : 48 ≤ x p ∧ x p ≤ 57 ∧ 10 * v + (x p - 48) ≤ n_hi c
    · rw [if_pos h] at K
      obtain ⟨n, rfl⟩ : ∃ m, n = m + 1 := ⟨n - 1, by omega⟩
      refine e_step X T.1 (by omega) (Ok_mono (r_dig T hc ⟨h.1, h.2.1⟩ (by omega)) (fun r hr => ?_))
      obtain ⟨b, v', e1, e2, e3, -, -, e4⟩ := hr
      obtain ⟨e5, e6⟩ := e4 (by omega)
      rw [Nat.add_sub_cancel] at e5 e6
      rw [e6.mpr h.2.2] at e1
      rw [e5] at e3
      exact Or.inr ⟨e1, ih n (p + 1) _ r.2 (by omega) (by omega) (by omega) h.2.2 e3 K⟩
    · rw [if_neg h] at K
      exact K n u (by show l - p < n; omega) T
set_option maxRecDepth 16384 in
theorem e_end {P : Int32 × x_H → Prop} (X : CX u0 l x) (hc : n_L c) (hp : p ≤ l) (hv : v ≤ 100) (hn : l - p < n) (T : Tk u u0 c (v + 1)) (hS : p < l → 48 ≤ x p → x p ≤ 57 → v = 0 ∨ n_hi c < 10 * v + (x p - 48)) (hl : p = l → ∀ u', Tk u' u0 c (v + 1) → P (nn l, u')) (hs : p < l → x p = 59 → ∀ (n' : Nat) (u' : x_H), l - (p + 1) < n' → Tk u' u0 0 0 → Ok (fX0_errorAt_b6 n' u' (nn (p + 1))) P) (he : p < l → x p ≠ 59 → ∀ u', Tg u' u0 → P (nn p, u')) : Ok (fX0_errorAt_b6 n u (nn p)) P := by
  obtain ⟨n, rfl⟩ : ∃ m, n = m + 1 := ⟨n - 1, by omega⟩
  by_cases h : p = l
  · exact e_stop X T.1 h (hl h u T)
  have hpl : p < l := by omega
  have xp := X.2.2.2 p hpl
  refine e_step X T.1 hpl ?_
  by_cases h1 : x p = 59
  · rw [h1]
    refine Ok_mono (r_semi T hc (by omega)) (fun r hr => Or.inr ⟨?_, hs hpl h1 n r.2 (by omega) hr.2⟩)
    rw [hr.1, if_pos (by omega)]
  · by_cases h2 : 48 ≤ x p ∧ x p ≤ 57
    · refine Ok_mono (r_dig T hc h2 (by omega)) (fun r hr => Or.inl ⟨?_, he hpl h1 r.2 ?_⟩)
      · obtain ⟨b, v', e1, e2, e3, -, e5, e6⟩ := hr
        rcases hS hpl h2.1 h2.2 with h3 | h3
        · rw [e1, e5 (by omega)]
        · by_cases h4 : v = 0
          · rw [e1, e5 (by omega)]
          · have := (e6 (by omega)).2
            rw [Nat.add_sub_cancel] at this
            rw [e1, show b = 0 by omega]
      · obtain ⟨b, v', -, -, e3, -⟩ := hr
        exact e3.1
    · exact Ok_mono (r_oth T hc (by omega) h1 h2) (fun r hr => Or.inl ⟨hr.1, he hpl h1 r.2 hr.2.1⟩)
end
