set_option maxRecDepth 16384 in
theorem lg_lt0 (x y : Int64) : lg_cmp x y < 0 ↔ x.toInt < y.toInt := by
  rw [← Int64.lt_iff_toInt_lt]
  unfold lg_cmp
  by_cases h : y < x
  · rw [if_pos h]
    exact ⟨fun h => absurd h (by decide), fun h2 => by rw [Int64.lt_iff_toInt_lt] at h h2; omega⟩
  · rw [if_neg h]
    by_cases h1 : x = y
    · rw [if_pos h1]
      exact ⟨fun h => absurd h (by decide), fun h2 => by rw [h1, Int64.lt_iff_toInt_lt] at h2; omega⟩
    · rw [if_neg h1]
      refine ⟨fun _ => ?_, fun _ => by decide⟩
      rw [Int64.lt_iff_toInt_lt] at h ⊢
      rw [← Int64.toInt_inj] at h1
      omega
set_option maxRecDepth 16384 in
theorem lg_gt0 (x y : Int64) : 0 < lg_cmp x y ↔ y.toInt < x.toInt := by
  rw [← Int64.lt_iff_toInt_lt]
  unfold lg_cmp
  by_cases h : y < x
  · rw [if_pos h]
    exact ⟨fun _ => h, fun _ => by decide⟩
  · rw [if_neg h]
    by_cases h1 : x = y
    · rw [if_pos h1]
      exact ⟨fun h => absurd h (by decide), fun h2 => absurd h2 h⟩
    · rw [if_neg h1]
      exact ⟨fun h => absurd h (by decide), fun h2 => absurd h2 h⟩
set_option maxRecDepth 16384 in
theorem lg_eq0 (x y : Int64) : lg_cmp x y = 0 ↔ x = y := by
  unfold lg_cmp
  by_cases h : y < x
  · rw [if_pos h]
    exact ⟨fun h => absurd h (by decide), fun h2 => by rw [h2, Int64.lt_iff_toInt_lt] at h; omega⟩
  · rw [if_neg h]
    by_cases h1 : x = y
    · rw [if_pos h1]
      exact ⟨fun _ => h1, fun _ => rfl⟩
    · rw [if_neg h1]
      exact ⟨fun h => absurd h (by decide), fun h2 => absurd h2 h1⟩
set_option maxRecDepth 16384 in
theorem v_in (a lo hi : Int64) : fX7_in a lo hi = some (if lo.toInt ≤ a.toInt ∧ a.toInt ≤ hi.toInt then 1 else 0) := by
  unfold fX7_in
  by_cases h : a.toInt < lo.toInt
  · rw [if_pos ((lg_lt0 _ _).mpr h), if_neg (by omega)]
  · rw [if_neg (fun h2 => h ((lg_lt0 _ _).mp h2))]
    by_cases h1 : hi.toInt < a.toInt
    · rw [if_pos ((lg_gt0 _ _).mpr h1), if_neg (by omega)]
    · rw [if_neg (fun h2 => h1 ((lg_gt0 _ _).mp h2)), if_pos (by omega)]
set_option maxRecDepth 16384 in
theorem nn_to64 {n : Nat} (h : n < 2147483648) : (nn n).toInt64.toInt = n := by
  rw [Int32.toInt_toInt64, nn_toInt h]
set_option maxRecDepth 16384 in
theorem neg_to64 {a : Int32} (h : a < 0) : a.toInt64.toInt < 0 := by
  rw [Int32.lt_iff_toInt_lt, show (0 : Int32).toInt = 0 from rfl] at h
  rw [Int32.toInt_toInt64]; exact h
set_option maxRecDepth 16384 in
theorem v_in_no {a : Int32} (h : a < 0) {lo hi : Int64} (hl : 0 ≤ lo.toInt) : fX7_in a.toInt64 lo hi = some 0 := by
  rw [v_in, if_neg]
  have := neg_to64 h
  omega
set_option maxRecDepth 16384 in
theorem v_in_nn {n l m : Nat} {lo hi : Int64} (hn : n < 2147483648) (hl : lo.toInt = l) (hh : hi.toInt = m) : fX7_in (nn n).toInt64 lo hi = some (if l ≤ n ∧ n ≤ m then 1 else 0) := by
  rw [v_in, nn_to64 hn, hl, hh]
  by_cases c : l ≤ n ∧ n ≤ m
  · rw [if_pos c, if_pos (by omega)]
  · rw [if_neg c, if_neg (by omega)]
set_option maxRecDepth 16384 in
theorem vpb0 : vp_nar .boolean (0 : Int32) = 0 := by decide
set_option maxRecDepth 16384 in
theorem vpb1 : vp_nar .boolean (1 : Int32) = 1 := by decide
set_option maxRecDepth 16384 in
theorem v_isGuest {g : Nat} (h : g < 12) : fX7_isGuest (nn g) = some (1 : Int32) := by
  unfold fX7_isGuest
  rw [v_in_nn (l := 0) (m := 11) (by omega) rfl rfl, if_pos (by omega)]
  rfl
set_option maxRecDepth 16384 in
theorem v_isRoom {g : Nat} (h : g < 16) : fX7_isRoom (nn g) = some (1 : Int32) := by
  unfold fX7_isRoom
  rw [v_in_nn (l := 0) (m := 15) (by omega) rfl rfl, if_pos (by omega)]
  rfl
set_option maxRecDepth 16384 in
theorem v_isSlot {g : Nat} (h : g < 2) : fX7_isSlot (nn g) = some (1 : Int32) := by
  unfold fX7_isSlot
  rw [v_in_nn (l := 0) (m := 1) (by omega) rfl rfl, if_pos (by omega)]
  rfl
set_option maxRecDepth 16384 in
theorem a_guest (a : Int32) : (fX6_isGuest a = some 0 ∧ fX7_isGuest a = some 0) ∨ ∃ g, g < 12 ∧ a = nn g := by
  rcases nn_cases a with h | ⟨n, hn, rfl⟩
  · left
    refine ⟨by rw [fX6_isGuest, if_pos h], ?_⟩
    rw [fX7_isGuest, v_in_no h (by decide)]
    rfl
  · by_cases c : n < 12
    · exact Or.inr ⟨n, c, rfl⟩
    · left
      refine ⟨by rw [fX6_isGuest, if_neg (fun h => (nn_neg hn).mp h), if_pos (show (12 : Int32) ≤ nn n from (nn_le (a := 12) (by omega) hn).mpr (by omega))], ?_⟩
      rw [fX7_isGuest, v_in_nn (l := 0) (m := 11) hn rfl rfl, if_neg (by omega)]
      rfl
set_option maxRecDepth 16384 in
theorem a_room (a : Int32) : (fX6_isRoom a = some 0 ∧ fX7_isRoom a = some 0) ∨ ∃ g, g < 16 ∧ a = nn g := by
  rcases nn_cases a with h | ⟨n, hn, rfl⟩
  · left
    refine ⟨by rw [fX6_isRoom, if_pos h], ?_⟩
    rw [fX7_isRoom, v_in_no h (by decide)]
    rfl
  · by_cases c : n < 16
    · exact Or.inr ⟨n, c, rfl⟩
    · left
      refine ⟨by rw [fX6_isRoom, if_neg (fun h => (nn_neg hn).mp h), if_pos (show (16 : Int32) ≤ nn n from (nn_le (a := 16) (by omega) hn).mpr (by omega))], ?_⟩
      rw [fX7_isRoom, v_in_nn (l := 0) (m := 15) hn rfl rfl, if_neg (by omega)]
      rfl
set_option maxRecDepth 16384 in
theorem a_range {p m : Nat} (hm : m < 1000) (hp : p < 1000) (a : Int32) : (eX6_requireRange a (nn p) (nn m) = some 1 ∧ fX7_in a.toInt64 (nn p).toInt64 (nn m).toInt64 = some 0) ∨ ∃ g, p ≤ g ∧ g ≤ m ∧ a = nn g ∧ eX6_requireRange (nn g) (nn p) (nn m) = none ∧ fX6_requireRange (nn g) (nn p) (nn m) = some () ∧ fX7_in (nn g).toInt64 (nn p).toInt64 (nn m).toInt64 = some 1 := by
  rcases nn_cases a with h | ⟨n, hn, rfl⟩
  · left
    have h2 : a < nn p := by
      rw [Int32.lt_iff_toInt_lt, nn_toInt (by omega)]
      rw [Int32.lt_iff_toInt_lt, show (0 : Int32).toInt = 0 from rfl] at h
      omega
    exact ⟨by rw [eX6_requireRange, if_pos h2], v_in_no h (by rw [nn_to64 (by omega)]; omega)⟩
  · rw [v_in_nn hn (nn_to64 (by omega)) (nn_to64 (by omega))]
    by_cases c : p ≤ n ∧ n ≤ m
    · right
      refine ⟨n, c.1, c.2, rfl, ?_, ?_, ?_⟩
      · rw [eX6_requireRange, if_neg (fun h => by have := (nn_lt hn (by omega)).mp h; omega), if_pos ((nn_le hn (by omega)).mpr c.2)]
      · rw [fX6_requireRange, if_neg (fun h => by have := (nn_lt hn (by omega)).mp h; omega), if_pos ((nn_le hn (by omega)).mpr c.2)]
      · rw [v_in_nn hn (nn_to64 (by omega)) (nn_to64 (by omega)), if_pos c]
    · left
      refine ⟨?_, by rw [if_neg c]⟩
      rw [eX6_requireRange]
      by_cases c2 : n < p
      · rw [if_pos ((nn_lt hn (by omega)).mpr c2)]
      · rw [if_neg (fun h => c2 ((nn_lt hn (by omega)).mp h)), if_neg (fun h => by have := (nn_le hn (by omega)).mp h; omega)]
set_option maxRecDepth 16384 in
theorem a_place {u : x_H} {m : Nat} (h3 : u 3 0 = nn m) (hm : m ≤ 60) (a : Int32) : (fX4_hasPlace u a = some 0 ∧ fX7_in a.toInt64 0 (nn m - (1 : Int32)).toInt64 = some 0) ∨ ∃ p, p < m ∧ a = nn p ∧ fX4_hasPlace u (nn p) = some 1 ∧ fX7_in (nn p).toInt64 0 (nn m - (1 : Int32)).toInt64 = some 1 := by
  have e : (nn m - (1 : Int32)).toInt64.toInt = (m : Int) - 1 := by
    rw [Int32.toInt_toInt64]; exact mm_toInt (by omega)
  rcases nn_cases a with h | ⟨n, hn, rfl⟩
  · left
    exact ⟨by rw [fX4_hasPlace, if_pos h], v_in_no h (by decide)⟩
  · rw [u_hasPlace h3 hm hn, v_in, nn_to64 hn, e, show (0 : Int64).toInt = 0 from rfl]
    by_cases c : n < m
    · right
      refine ⟨n, c, rfl, by rw [u_hasPlace h3 hm hn, if_pos c]; rfl, ?_⟩
      rw [v_in, nn_to64 hn, e, show (0 : Int64).toInt = 0 from rfl, if_pos (by omega)]
    · left
      exact ⟨by rw [if_neg c]; rfl, by rw [if_neg (by omega)]⟩
set_option maxRecDepth 16384 in
theorem xb_none {α β : Type} (f : α → Option β) : Option.bind (none : Option α) f = none := rfl
set_option maxRecDepth 16384 in
theorem xo_none {α β : Type} (f : α → Option β) (k : Option β) : x_or (none : Option α) f k = k := rfl
set_option maxRecDepth 16384 in
theorem xo_some {α β : Type} (a : α) (f : α → Option β) (k : Option β) : x_or (some a) f k = f a := rfl
set_option maxRecDepth 16384 in
theorem fr1 : fX6_require (1 : Int32) = some () := rfl
set_option maxRecDepth 16384 in
theorem fr0 : fX6_require (0 : Int32) = none := rfl
set_option maxRecDepth 16384 in
theorem er1 : eX6_require (1 : Int32) = none := rfl
set_option maxRecDepth 16384 in
theorem er0 : eX6_require (0 : Int32) = some 2 := rfl
set_option maxRecDepth 16384 in
theorem eg_no {a : Int32} (h : fX6_isGuest a = some 0) : eX6_requireGuest a = some 0 := by rw [eX6_requireGuest, h]; rfl
set_option maxRecDepth 16384 in
theorem eg_ok {g : Nat} (h : g < 12) : eX6_requireGuest (nn g) = none := by rw [eX6_requireGuest, u_isGuest h]; rfl
set_option maxRecDepth 16384 in
theorem fg_ok {g : Nat} (h : g < 12) : fX6_requireGuest (nn g) = some () := by rw [fX6_requireGuest, u_isGuest h]; rfl
set_option maxRecDepth 16384 in
theorem er_no {a : Int32} (h : fX6_isRoom a = some 0) : eX6_requireRoom a = some 0 := by rw [eX6_requireRoom, h]; rfl
set_option maxRecDepth 16384 in
theorem er_ok {g : Nat} (h : g < 16) : eX6_requireRoom (nn g) = none := by rw [eX6_requireRoom, u_isRoom h]; rfl
set_option maxRecDepth 16384 in
theorem fr_ok {g : Nat} (h : g < 16) : fX6_requireRoom (nn g) = some () := by rw [fX6_requireRoom, u_isRoom h]; rfl
set_option maxRecDepth 16384 in
theorem ep_no {σ : x_S} {a : Int32} (h : fX4_hasPlace (σ 0) a = some 0) : eX6_requirePlace σ a = some 0 := by rw [eX6_requirePlace, h]; rfl
set_option maxRecDepth 16384 in
theorem ep_ok {σ : x_S} {a : Int32} (h : fX4_hasPlace (σ 0) a = some 1) : eX6_requirePlace σ a = none := by rw [eX6_requirePlace, h]; rfl
set_option maxRecDepth 16384 in
theorem fp_ok {σ : x_S} {a : Int32} (h : fX4_hasPlace (σ 0) a = some 1) : fX6_requirePlace σ a = some () := by rw [fX6_requirePlace, h]; rfl
set_option maxRecDepth 16384 in
theorem rf0 (u : x_H) : fX7_refused u (0 : Int32) = some ((0 : Int32), x_hu u 40 0 (0 : Int32)) := rfl
set_option maxRecDepth 16384 in
theorem rf1 (u : x_H) : fX7_refused u (1 : Int32) = some ((1 : Int32), x_hu u 40 0 (1 : Int32)) := rfl
set_option maxRecDepth 16384 in
theorem rf2 (u : x_H) : fX7_refused u (2 : Int32) = some ((1 : Int32), x_hu u 40 0 (2 : Int32)) := rfl
