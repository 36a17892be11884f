def n_sn (n : Nat) : Nat := if n = 6 then 6 else n + 1
def n_sS (w : Nat → Nat) (n : Nat) (S : Nat → Nat → Nat) : Nat → Nat → Nat := fun i => if n = 6 then (if i < 5 then S (i + 1) else w) else (if i = n then w else S i)
def YcS (σ : x_S) (n : Nat) (S : Nat → Nat → Nat) : Prop := σ 10 33 0 = nn n ∧ ∃ h : Nat → Nat, (∀ i, i < 6 → σ 10 34 i = nn (h i) ∧ 2 ≤ h i ∧ h i < 8) ∧ (∀ i i', i < 6 → i' < 6 → h i = h i' → i = i') ∧ ∀ i, i < n → Ru (σ (h i)) (S i)
def YcK (σ : x_S) (t : Nat → Nat) (K : Nat → Nat → Nat) : Prop := ∀ s, s < 2 → σ 10 35 s = nn (8 + s) ∧ σ 10 36 s = nn (t s) ∧ (t s = 1 → Ru (σ (8 + s)) (K s))
def YcX (σ : x_S) (l : Nat) (x : Nat → Nat) : Prop := σ 10 37 0 = nn l ∧ ∀ i, i < l → σ 10 38 i = nn (x i)
def Yc (σ : x_S) (w : Nat → Nat) (n : Nat) (S : Nat → Nat → Nat) (t : Nat → Nat) (K : Nat → Nat → Nat) (l : Nat) (x : Nat → Nat) : Prop := Ru (σ 0) w ∧ YcS σ n S ∧ YcK σ t K ∧ YcX σ l x
set_option maxRecDepth 16384 in
theorem c_b9 {y : Int32} (hy : y.toNatClampNeg < 10) : ∀ (d p N : Nat) (σ : x_S), p + d = 6 → d < N → 1 ≤ p → (∀ i, i < 6 → (σ 10 34 i).toNatClampNeg < 10) → Ok (fX5_dropOldest_b9 N σ y (nn p)) (fun τ => (∀ j, j ≠ 10 → τ j = σ j) ∧ (∀ k i, k ≠ 33 → k ≠ 34 → τ 10 k i = σ 10 k i) ∧ τ 10 33 0 = nn 5 ∧ ∀ i, i < 6 → τ 10 34 i = if i = 5 then y else if p ≤ i + 1 then σ 10 34 (i + 1) else σ 10 34 i) := by
  intro d
  induction d with
  | zero =>
    intro p N σ hp hN h1 hh
    obtain ⟨N, rfl⟩ : ∃ m, N = m + 1 := ⟨N - 1, by omega⟩
    rw [fX5_dropOldest_b9, if_pos hy, if_pos (show (6 : Int32) ≤ nn p from (nn_le (a := 6) (by omega) (by omega)).mpr (by omega))]
    refine Ok_let (fun τ1 e1 => Ok_let (fun τ e => Ok_some ?_))
    refine ⟨fun j hj => by rw [e, x_sh_ne _ _ hj, e1, x_sh_ne _ _ hj], fun k i h3 h4 => by rw [e, x_sh_eq, x_hu_ne h3, e1, x_sh_eq, x_hu_ne h4], by rw [e, x_sh_eq, x_hu_eq rfl rfl]; rfl, fun i hi => ?_⟩
    rw [e, x_sh_eq, x_hu_ne (by omega), e1, x_sh_eq]
    by_cases h5 : i = 5
    · rw [if_pos h5]; exact x_hu_eq rfl h5
    · rw [if_neg h5, if_neg (by omega), x_hu_ni (show i ≠ Int32.toNatClampNeg (5 : Int32) from h5)]
  | succ d ih =>
    intro p N σ hp hN h1 hh
    obtain ⟨N, rfl⟩ : ∃ m, N = m + 1 := ⟨N - 1, by omega⟩
    rw [fX5_dropOldest_b9, if_pos hy, if_neg (fun h => by have := (nn_le (a := 6) (by omega) (by omega)).mp h; omega), if_pos (nn_in (by omega) (by omega)), nn_clamp (by omega)]
    refine Ok_let (fun x1 e1 => ?_)
    rw [if_pos (by rw [e1]; exact hh p (by omega)), show nn p - (1 : Int32) = nn (p - 1) from nn_sub (a := p) (b := 1) h1, if_pos (nn_in (by omega) (by omega)), nn_clamp (by omega), show nn p + (1 : Int32) = nn (p + 1) from nn_add p 1]
    refine Ok_let (fun τ1 e2 => ?_)
    rw [x_let_n]
    refine Ok_mono (ih (p + 1) N τ1 (by omega) (by omega) (by omega) (fun i hi => ?_)) (fun τ hτ => ?_)
    · rw [e2, x_sh_eq]
      by_cases h5 : i = p - 1
      · rw [x_hu_eq rfl h5, e1]; exact hh p (by omega)
      · rw [x_hu_ni h5]; exact hh i hi
    · obtain ⟨t1, t2, t3, t4⟩ := hτ
      refine ⟨fun j hj => by rw [t1 j hj, e2, x_sh_ne _ _ hj], fun k i h3 h4 => by rw [t2 k i h3 h4, e2, x_sh_eq, x_hu_ne h4], t3, fun i hi => ?_⟩
      rw [t4 i hi, e2, x_sh_eq]
      by_cases h5 : i = 5
      · rw [if_pos h5, if_pos h5]
      · rw [if_neg h5, if_neg h5]
        by_cases h6 : i + 1 = p
        · rw [if_neg (by omega), if_pos (by omega), x_hu_eq rfl (by omega), e1, h6]
        · by_cases h7 : p ≤ i + 1
          · rw [if_pos (by omega), if_pos h7, x_hu_ni (by omega)]
          · rw [if_neg (by omega), if_neg h7, x_hu_ni (by omega)]
set_option maxRecDepth 16384 in
theorem c_j13 {σ : x_S} {n : Nat} {h : Nat → Nat} (hn : n ≤ 5) (h1 : σ 10 33 0 = nn n) (hh : ∀ i, i < 6 → σ 10 34 i = nn (h i) ∧ 2 ≤ h i ∧ h i < 8) : Ok (fX5_push_j13 σ) (fun τ => (∀ j, j ≠ 10 → j ≠ h n → τ j = σ j) ∧ (∀ k i, k ≠ 33 → τ 10 k i = σ 10 k i) ∧ τ 10 33 0 = nn (n + 1) ∧ τ (h n) = σ 0) := by
  have g := hh n (by omega)
  rw [fX5_push_j13, h1, if_neg (show ¬ nn n < 0 from fun h => (nn_neg (by omega)).mp h), if_neg (fun h => by have := (nn_le (a := 6) (by omega) (by omega)).mp h; omega), if_pos (nn_in (by omega) (by omega)), nn_clamp (by omega), g.1, x_let_n, nn_clamp (by omega), if_pos (by omega), if_pos (by omega)]
  refine Ok_let (fun τ1 e1 => Ok_let (fun τ e => Ok_some ?_))
  have e3 : τ1 10 = σ 10 := by rw [e1, x_sh_ne _ _ (by omega)]
  refine ⟨fun j hj hk => by rw [e, x_sh_ne _ _ hj, e1, x_sh_ne _ _ hk], fun k i hk => by rw [e, x_sh_eq, x_hu_ne hk, e3], ?_, by rw [e, x_sh_ne _ _ (by omega), e1, x_sh_eq]⟩
  rw [e, x_sh_eq, x_hu_eq rfl rfl, e3, h1]
  exact nn_add n 1
set_option maxRecDepth 16384 in
theorem c_push {σ : x_S} {w : Nat → Nat} {n : Nat} {S : Nat → Nat → Nat} {t : Nat → Nat} {K : Nat → Nat → Nat} {l : Nat} {x : Nat → Nat} (Y : Yc σ w n S t K l x) (hn : n ≤ 6) : Ok (fX5_push σ) (fun τ => Yc τ w (n_sn n) (n_sS w n S) t K l x ∧ τ 11 = σ 11 ∧ τ 12 = σ 12 ∧ τ 1 = σ 1) := by
  obtain ⟨Y1, ⟨Y2, h, Y3, Y4, Y5⟩, Y6, Y7, Y8⟩ := Y
  rw [fX5_push, Y2]
  by_cases h6 : n = 6
  · subst h6
    rw [if_neg (by decide), fX5_dropOldest]
    have z0 : σ 10 34 (Int32.toNatClampNeg (0 : Int32)) = nn (h 0) := (Y3 0 (by omega)).1
    have b0 := Y3 0 (by omega)
    rw [z0, x_let_n, nn_clamp (by omega), if_pos (by omega)]
    refine Ok_bind (c_b9 (y := nn (h 0)) (by rw [nn_clamp (by omega)]; omega) 5 1 400 σ (by omega) (by omega) (by omega) (fun i hi => by have := Y3 i hi; rw [this.1, nn_clamp (by omega)]; omega)) (fun τ1 hτ => ?_)
    obtain ⟨t1, t2, t3, t4⟩ := hτ
    have H : ∀ i, i < 6 → τ1 10 34 i = nn (if i = 5 then h 0 else h (i + 1)) ∧ 2 ≤ (if i = 5 then h 0 else h (i + 1)) ∧ (if i = 5 then h 0 else h (i + 1)) < 8 := by
      intro i hi
      rw [t4 i hi]
      by_cases h5 : i = 5
      · rw [if_pos h5, if_pos h5]; exact ⟨rfl, b0.2⟩
      · rw [if_neg h5, if_neg h5, if_pos (by omega)]; exact Y3 (i + 1) (by omega)
    refine Ok_mono (c_j13 (n := 5) (h := fun i => if i = 5 then h 0 else h (i + 1)) (by omega) t3 H) (fun τ hτ => ?_)
    obtain ⟨s1, s2, s3, s4⟩ := hτ
    have s4 : τ (h 0) = τ1 0 := s4
    have s1 : ∀ j, j ≠ 10 → j ≠ h 0 → τ j = τ1 j := s1
    refine ⟨⟨?_, ⟨s3, fun i => if i = 5 then h 0 else h (i + 1), ?_, ?_, ?_⟩, ?_, ?_, ?_⟩, ?_, ?_, ?_⟩
    · rw [s1 0 (by omega) (by omega), t1 0 (by omega)]; exact Y1
    · intro i hi
      rw [s2 34 i (by omega)]
      exact H i hi
    · intro i i' hi hi' e
      have e : (if i = 5 then h 0 else h (i + 1)) = (if i' = 5 then h 0 else h (i' + 1)) := e
      by_cases c1 : i = 5
      · by_cases c2 : i' = 5
        · omega
        · rw [if_pos c1, if_neg c2] at e
          have := Y4 0 (i' + 1) (by omega) (by omega) e
          omega
      · by_cases c2 : i' = 5
        · rw [if_neg c1, if_pos c2] at e
          have := Y4 (i + 1) 0 (by omega) (by omega) e
          omega
        · rw [if_neg c1, if_neg c2] at e
          have := Y4 (i + 1) (i' + 1) (by omega) (by omega) e
          omega
    · intro i hi
      have hi : i < 6 := hi
      show Ru (τ (if i = 5 then h 0 else h (i + 1))) _
      rw [n_sS, if_pos rfl]
      by_cases c1 : i = 5
      · rw [if_pos c1, if_neg (by omega), s4, t1 0 (by omega)]; exact Y1
      · have b1 := Y3 (i + 1) (by omega)
        rw [if_neg c1, if_pos (by omega), s1 _ (by omega) (fun e => by have := Y4 (i + 1) 0 (by omega) (by omega) e; omega), t1 _ (by omega)]
        exact Y5 (i + 1) (by omega)
    · intro s hs
      obtain ⟨q1, q2, q3⟩ := Y6 s hs
      refine ⟨by rw [s2 35 s (by omega), t2 35 s (by omega) (by omega)]; exact q1, by rw [s2 36 s (by omega), t2 36 s (by omega) (by omega)]; exact q2, fun ht => ?_⟩
      rw [s1 _ (by omega) (by omega), t1 _ (by omega)]
      exact q3 ht
    · rw [s2 37 0 (by omega), t2 37 0 (by omega) (by omega)]; exact Y7
    · intro i hi
      rw [s2 38 i (by omega), t2 38 i (by omega) (by omega)]; exact Y8 i hi
    · rw [s1 11 (by omega) (by omega), t1 11 (by omega)]
    · rw [s1 12 (by omega) (by omega), t1 12 (by omega)]
    · rw [s1 1 (by omega) (by omega), t1 1 (by omega)]
  · rw [if_pos (show nn n < (6 : Int32) from (nn_lt (b := 6) (by omega) (by omega)).mpr (by omega))]
    refine Ok_mono (c_j13 (h := h) (by omega) Y2 Y3) (fun τ hτ => ?_)
    obtain ⟨s1, s2, s3, s4⟩ := hτ
    have b0 := Y3 n (by omega)
    refine ⟨⟨?_, ⟨?_, h, ?_, Y4, ?_⟩, ?_, ?_, ?_⟩, ?_, ?_, ?_⟩
    · rw [s1 0 (by omega) (by omega)]; exact Y1
    · rw [s3, n_sn, if_neg h6]
    · intro i hi
      rw [s2 34 i (by omega)]
      exact Y3 i hi
    · intro i hi
      rw [n_sn, if_neg h6] at hi
      rw [n_sS, if_neg h6]
      by_cases c1 : i = n
      · rw [if_pos c1, c1, s4]; exact Y1
      · have b1 := Y3 i (by omega)
        rw [if_neg c1, s1 _ (by omega) (fun e => c1 (Y4 i n (by omega) (by omega) e))]
        exact Y5 i (by omega)
    · intro s hs
      obtain ⟨q1, q2, q3⟩ := Y6 s hs
      refine ⟨by rw [s2 35 s (by omega)]; exact q1, by rw [s2 36 s (by omega)]; exact q2, fun ht => ?_⟩
      rw [s1 _ (by omega) (by omega)]
      exact q3 ht
    · rw [s2 37 0 (by omega)]; exact Y7
    · intro i hi
      rw [s2 38 i (by omega)]; exact Y8 i hi
    · rw [s1 11 (by omega) (by omega)]
    · rw [s1 12 (by omega) (by omega)]
    · rw [s1 1 (by omega) (by omega)]

set_option maxRecDepth 16384 in
theorem lg_lt0 (x y : Int64) : lg_cmp x y < 0 ↔ x.toInt < y.toInt := by
  rw [← Int64.lt_iff_toInt_lt]
  unfold lg_cmp
  by_cases h : y < x
  · rw [if_pos h]
    exact ⟨fun h => absurd h (by decide), fun h2 => by rw [Int64.lt_iff_toInt_lt] at h h2; omega⟩
  · rw [if_neg h]
    by_cases h1 : x = y
    · rw [if_pos h1]
      exact ⟨fun h => absurd h (by decide), fun h2 => by rw [h1, Int64.lt_iff_toInt_lt] at h2; omega⟩
    · rw [if_neg h1]
      refine ⟨fun _ => ?_, fun _ => by decide⟩
      rw [Int64.lt_iff_toInt_lt] at h ⊢
      rw [← Int64.toInt_inj] at h1
      omega
set_option maxRecDepth 16384 in
theorem lg_gt0 (x y : Int64) : 0 < lg_cmp x y ↔ y.toInt < x.toInt := by
  rw [← Int64.lt_iff_toInt_lt]
  unfold lg_cmp
  by_cases h : y < x
  · rw [if_pos h]
    exact ⟨fun _ => h, fun _ => by decide⟩
  · rw [if_neg h]
    by_cases h1 : x = y
    · rw [if_pos h1]
      exact ⟨fun h => absurd h (by decide), fun h2 => absurd h2 h⟩
    · rw [if_neg h1]
      exact ⟨fun h => absurd h (by decide), fun h2 => absurd h2 h⟩
set_option maxRecDepth 16384 in
theorem lg_eq0 (x y : Int64) : lg_cmp x y = 0 ↔ x = y := by
  unfold lg_cmp
  by_cases h : y < x
  · rw [if_pos h]
    exact ⟨fun h => absurd h (by decide), fun h2 => by rw [h2, Int64.lt_iff_toInt_lt] at h; omega⟩
  · rw [if_neg h]
    by_cases h1 : x = y
    · rw [if_pos h1]
      exact ⟨fun _ => h1, fun _ => rfl⟩
    · rw [if_neg h1]
      exact ⟨fun h => absurd h (by decide), fun h2 => absurd h2 h1⟩
set_option maxRecDepth 16384 in
theorem nn_to64 {n : Nat} (h : n < 2147483648) : (nn n).toInt64.toInt = n := by
  rw [Int32.toInt_toInt64, nn_toInt h]
set_option maxRecDepth 16384 in
theorem neg_to64 {a : Int32} (h : a < 0) : a.toInt64.toInt < 0 := by
  rw [Int32.lt_iff_toInt_lt, show (0 : Int32).toInt = 0 from rfl] at h
  rw [Int32.toInt_toInt64]; exact h
set_option maxRecDepth 16384 in
theorem vpb0 : vp_nar .boolean (0 : Int32) = 0 := by decide
set_option maxRecDepth 16384 in
theorem vpb1 : vp_nar .boolean (1 : Int32) = 1 := by decide
set_option maxRecDepth 16384 in
theorem xb_none {α β : Type} (f : α → Option β) : Option.bind (none : Option α) f = none := rfl
set_option maxRecDepth 16384 in
theorem xo_none {α β : Type} (f : α → Option β) (k : Option β) : x_or (none : Option α) f k = k := rfl
set_option maxRecDepth 16384 in
theorem xo_some {α β : Type} (a : α) (f : α → Option β) (k : Option β) : x_or (some a) f k = f a := rfl
set_option maxRecDepth 16384 in
theorem fr1 : fX6_require (1 : Int32) = some () := rfl
set_option maxRecDepth 16384 in
theorem fr0 : fX6_require (0 : Int32) = none := rfl
set_option maxRecDepth 16384 in
theorem er1 : eX6_require (1 : Int32) = none := rfl
set_option maxRecDepth 16384 in
theorem er0 : eX6_require (0 : Int32) = some 2 := rfl
set_option maxRecDepth 16384 in
theorem eg_no {a : Int32} (h : fX6_isGuest a = some 0) : eX6_requireGuest a = some 0 := by rw [eX6_requireGuest, h]; rfl
set_option maxRecDepth 16384 in
theorem eg_ok {g : Nat} (h : g < 12) : eX6_requireGuest (nn g) = none := by rw [eX6_requireGuest, u_isGuest h]; rfl
set_option maxRecDepth 16384 in
theorem fg_ok {g : Nat} (h : g < 12) : fX6_requireGuest (nn g) = some () := by rw [fX6_requireGuest, u_isGuest h]; rfl
set_option maxRecDepth 16384 in
theorem er_no {a : Int32} (h : fX6_isRoom a = some 0) : eX6_requireRoom a = some 0 := by rw [eX6_requireRoom, h]; rfl
set_option maxRecDepth 16384 in
theorem er_ok {g : Nat} (h : g < 16) : eX6_requireRoom (nn g) = none := by rw [eX6_requireRoom, u_isRoom h]; rfl
set_option maxRecDepth 16384 in
theorem fr_ok {g : Nat} (h : g < 16) : fX6_requireRoom (nn g) = some () := by rw [fX6_requireRoom, u_isRoom h]; rfl
set_option maxRecDepth 16384 in
theorem ep_no {σ : x_S} {a : Int32} (h : fX4_hasPlace (σ 0) a = some 0) : eX6_requirePlace σ a = some 0 := by rw [eX6_requirePlace, h]; rfl
set_option maxRecDepth 16384 in
theorem ep_ok {σ : x_S} {a : Int32} (h : fX4_hasPlace (σ 0) a = some 1) : eX6_requirePlace σ a = none := by rw [eX6_requirePlace, h]; rfl
set_option maxRecDepth 16384 in
theorem fp_ok {σ : x_S} {a : Int32} (h : fX4_hasPlace (σ 0) a = some 1) : fX6_requirePlace σ a = some () := by rw [fX6_requirePlace, h]; rfl
set_option maxRecDepth 16384 in
theorem lg_nn (n : Nat) (h : n < 2147483648) : (nn n).toInt64.toInt = n := nn_to64 h
set_option maxRecDepth 16384 in
theorem a_guest (a : Int32) : fX6_isGuest a = some 0 ∨ ∃ g, g < 12 ∧ a = nn g := by
  rcases nn_cases a with h | ⟨n, hn, rfl⟩
  · left
    rw [fX6_isGuest, if_pos h]
  · by_cases c : n < 12
    · exact Or.inr ⟨n, c, rfl⟩
    · left
      rw [fX6_isGuest, if_neg (fun h => (nn_neg hn).mp h), if_pos (show (12 : Int32) ≤ nn n from (nn_le (a := 12) (by omega) hn).mpr (by omega))]
set_option maxRecDepth 16384 in
theorem a_room (a : Int32) : fX6_isRoom a = some 0 ∨ ∃ g, g < 16 ∧ a = nn g := by
  rcases nn_cases a with h | ⟨n, hn, rfl⟩
  · left
    rw [fX6_isRoom, if_pos h]
  · by_cases c : n < 16
    · exact Or.inr ⟨n, c, rfl⟩
    · left
      rw [fX6_isRoom, if_neg (fun h => (nn_neg hn).mp h), if_pos (show (16 : Int32) ≤ nn n from (nn_le (a := 16) (by omega) hn).mpr (by omega))]
set_option maxRecDepth 16384 in
theorem a_range {p m : Nat} (hm : m < 1000) (hp : p < 1000) (a : Int32) : eX6_requireRange a (nn p) (nn m) = some 1 ∨ ∃ g, p ≤ g ∧ g ≤ m ∧ a = nn g ∧ eX6_requireRange (nn g) (nn p) (nn m) = none ∧ fX6_requireRange (nn g) (nn p) (nn m) = some () := by
  rcases nn_cases a with h | ⟨n, hn, rfl⟩
  · left
    have h2 : a < nn p := by
      rw [Int32.lt_iff_toInt_lt, nn_toInt (by omega)]
      rw [Int32.lt_iff_toInt_lt, show (0 : Int32).toInt = 0 from rfl] at h
      omega
    rw [eX6_requireRange, if_pos h2]
  · by_cases c : p ≤ n ∧ n ≤ m
    · right
      refine ⟨n, c.1, c.2, rfl, ?_, ?_⟩
      · rw [eX6_requireRange, if_neg (fun h => by have := (nn_lt hn (by omega)).mp h; omega), if_pos ((nn_le hn (by omega)).mpr c.2)]
      · rw [fX6_requireRange, if_neg (fun h => by have := (nn_lt hn (by omega)).mp h; omega), if_pos ((nn_le hn (by omega)).mpr c.2)]
    · left
      rw [eX6_requireRange]
      by_cases c2 : n < p
      · rw [if_pos ((nn_lt hn (by omega)).mpr c2)]
      · rw [if_neg (fun h => c2 ((nn_lt hn (by omega)).mp h)), if_neg (fun h => by have := (nn_le hn (by omega)).mp h; omega)]
set_option maxRecDepth 16384 in
theorem a_place {u : x_H} {m : Nat} (h3 : u 3 0 = nn m) (hm : m ≤ 60) (a : Int32) : fX4_hasPlace u a = some 0 ∨ ∃ p, p < m ∧ a = nn p ∧ fX4_hasPlace u (nn p) = some 1 := by
  rcases nn_cases a with h | ⟨n, hn, rfl⟩
  · left
    rw [fX4_hasPlace, if_pos h]
  · rw [u_hasPlace h3 hm hn]
    by_cases c : n < m
    · right
      exact ⟨n, c, rfl, by rw [u_hasPlace h3 hm hn, if_pos c]; rfl⟩
    · left
      rw [if_neg c]; rfl
set_option maxRecDepth 16384 in
theorem a_slot (a : Int32) : eX6_requireRange a (0 : Int32) (1 : Int32) = some 1 ∨ ∃ s, s < 2 ∧ a = nn s ∧ eX6_requireRange (nn s) (0 : Int32) (1 : Int32) = none ∧ fX6_requireRange (nn s) (0 : Int32) (1 : Int32) = some () := by
  rcases a_range (p := 0) (m := 1) (by omega) (by omega) a with h1 | ⟨g, g1, g2, rfl, h1, h2⟩
  · exact Or.inl h1
  · exact Or.inr ⟨g, by omega, rfl, h1, h2⟩

section
variable {A n l : Nat} {σ τ : x_S} {m m' : x_H} {w w' : Nat → Nat} {S K : Nat → Nat → Nat} {t x : Nat → Nat}
set_option maxRecDepth 16384 in
theorem Wf_up {B B' : Nat} (F : Wf B w) (h : B ≤ B') (h9 : B' ≤ 1000000000) : Wf B' w := ⟨F.1, F.2.1, Wb_up F.2.2 h h9⟩
set_option maxRecDepth 16384 in
theorem Yc_of (Y : Yc σ w n S t K l x) (hn : n ≤ 6) (h0 : τ 0 = σ 0) (h : ∀ j, 2 ≤ j → j ≤ 9 → τ j = σ j) (h10 : ∀ k i, (k ≠ 37 ∨ i = 0) → τ 10 k i = σ 10 k i) : Yc τ w n S t K l x := by
  obtain ⟨Y1, ⟨Y2, g, Y3, Y4, Y5⟩, Y6, Y7, Y8⟩ := Y
  refine ⟨by rw [h0]; exact Y1, ⟨by rw [h10 33 0 (by omega)]; exact Y2, g, fun i hi => by rw [h10 34 i (by omega)]; exact Y3 i hi, Y4, fun i hi => ?_⟩, fun s hs => ?_, by rw [h10 37 0 (by omega)]; exact Y7, fun i hi => by rw [h10 38 i (by omega)]; exact Y8 i hi⟩
  · have q := Y3 i (by omega)
    rw [h (g i) (by omega) (by omega)]
    exact Y5 i hi
  · obtain ⟨a, b, c⟩ := Y6 s hs
    exact ⟨by rw [h10 35 s (by omega)]; exact a, by rw [h10 36 s (by omega)]; exact b, fun e => by rw [h (8 + s) (by omega) (by omega)]; exact c e⟩
set_option maxRecDepth 16384 in
theorem Yc_now (Y : Yc σ w n S t K l x) (hn : n ≤ 6) {u : x_H} (R : Ru u w') : Yc (x_sh σ 0 u) w' n S t K l x := by
  obtain ⟨Y1, ⟨Y2, g, Y3, Y4, Y5⟩, Y6, Y7, Y8⟩ := Y
  have e10 : x_sh σ 0 u 10 = σ 10 := x_sh_ne _ _ (by omega)
  refine ⟨by rw [x_sh_eq]; exact R, ⟨by rw [e10]; exact Y2, g, fun i hi => by rw [e10]; exact Y3 i hi, Y4, fun i hi => ?_⟩, fun s hs => ?_, by rw [e10]; exact Y7, fun i hi => by rw [e10]; exact Y8 i hi⟩
  · have q := Y3 i (by omega)
    rw [x_sh_ne _ _ (by omega)]
    exact Y5 i hi
  · obtain ⟨a, b, c⟩ := Y6 s hs
    exact ⟨by rw [e10]; exact a, by rw [e10]; exact b, fun e => by rw [x_sh_ne _ _ (by omega)]; exact c e⟩
set_option maxRecDepth 16384 in
theorem lgc (y : Int64) : lg_cmp y y = 0 := (lg_eq0 _ _).mpr rfl
set_option maxRecDepth 16384 in
theorem c00 : Int32.toNatClampNeg (0 : Int32) = 0 := rfl
set_option maxRecDepth 16384 in
theorem nn_pos {k : Nat} (h : 0 < k) (h9 : k < 2147483648) : ¬ nn k = 0 := fun e => by have := (nn_inj (b := 0) h9 (by omega)).mp e; omega
end

set_option maxRecDepth 16384 in
theorem n_sn_le {n : Nat} (h : n ≤ 6) : n_sn n ≤ 6 := by unfold n_sn; split <;> omega
set_option maxRecDepth 16384 in
theorem Wf_seek {B : Nat} {w : Nat → Nat} (F : Wf B w) {g : Nat} (hg : g < 12) (h9 : B + 1000 ≤ 1000000000) : Wf (B + 1000) (n_seek w g) := by
  obtain ⟨Z, X, hB⟩ := F
  have hm := Z.2.2.1.2
  have hB2 := Wb_up hB (B' := B + 999) (by omega) (by omega)
  have Z1 : Wz (nu w (8 * g) 1) := Wz_g (j := 0) (x := 1) Z hg (by omega) (by omega)
  have X1 : Wx (nu w (8 * g) 1) := Wx_g (j := 0) (x := 1) X hg (by omega) (by omega)
  have m2 : nu w (8 * g) 1 552 ≤ 60 := by rw [nu_ne1 (by omega)]; exact hm
  unfold n_seek
  exact ⟨Wz_post Z1 (by omega) hg (by omega) (by omega) (by omega), Wx_post X1 (by omega) m2, Wb_post (Wb_nu hB2 (by omega)) (by omega) m2 (by omega) (by omega) (by omega) (by omega) (by omega)⟩
set_option maxRecDepth 16384 in
theorem Wf_leave {B : Nat} {w : Nat → Nat} (F : Wf B w) {g : Nat} (hg : g < 12) (h9 : B + 1000 ≤ 1000000000) : Wf (B + 1000) (n_leave w g) := by
  obtain ⟨Z, X, hB⟩ := F
  have hm := Z.2.2.1.2
  have zg := Z.1 g hg
  have hB2 := Wb_up hB (B' := B + 999) (by omega) (by omega)
  unfold n_leave
  exact ⟨Wz_g (j := 0) (x := 0) (Wz_post Z (by omega) hg zg.2.1 (by omega) (by omega)) hg (by omega) (by omega), Wx_g (j := 0) (x := 0) (Wx_post X (by omega) hm) hg (by omega) (by omega), Wb_nu (Wb_post hB2 (by omega) hm (by omega) (by omega) (by omega) (by omega) (by omega)) (by omega)⟩
set_option maxRecDepth 16384 in
theorem Wf_rest {B : Nat} {w : Nat → Nat} (F : Wf B w) {g : Nat} (hg : g < 12) (h9 : B + 1000 ≤ 1000000000) : Wf (B + 1000) (nu w (8 * g) 0) := by
  obtain ⟨Z, X, hB⟩ := F
  exact ⟨Wz_g (j := 0) (x := 0) Z hg (by omega) (by omega), Wx_g (j := 0) (x := 0) X hg (by omega) (by omega), Wb_nu (Wb_up hB (by omega) h9) (by omega)⟩
set_option maxRecDepth 16384 in
theorem Wz_take {w : Nat → Nat} (Z : Wz w) {p : Nat} (hp : p < w 552) : Wz (n_take w p) := by
  have h := Wz_c (k := 559) (x := n_take w p 559) (Wz_gone Z hp) (by omega)
  have e : nu (nu (n_take w p) 559 (w 559 + 1)) 559 (n_take w p 559) = n_take w p := by
    funext i
    unfold nu
    by_cases c : i = 559
    · rw [if_pos c, c]
    · rw [if_neg c, if_neg c]
  rw [e] at h
  exact h
set_option maxRecDepth 16384 in
theorem Wf_lose {B : Nat} {w : Nat → Nat} (F : Wf B w) {p : Nat} (hp : p < w 552) (h9 : B + 1000 ≤ 1000000000) : Wf (B + 1000) (n_lose w p) := by
  obtain ⟨Z, X, hB⟩ := F
  have hm := Z.2.2.1.2
  have T : ∀ i, i < 192 ∨ 552 < i → n_take w p i = w i := fun i h => by rw [n_take_at w p i hm, if_neg (by omega), if_neg (by omega)]
  have b1 := hB.2 558
  have b2 := hB.2 552
  refine ⟨Wz_c (Wz_take Z hp) (by omega), Wx_lo X (fun i hi => ?_) ?_, ⟨h9, fun i => ?_⟩⟩
  · unfold n_lose; rw [nu_ne1 (by omega), T i (by omega)]
  · unfold n_lose; rw [nu_ne1 (by omega), T _ (by omega)]
  · have b3 := hB.2 i
    have b4 := hB.2 (i + 6)
    unfold n_lose nu
    split
    · omega
    · rw [n_take_at w p i hm]
      split
      · omega
      · split <;> omega
set_option maxRecDepth 16384 in
theorem g_doing {u : x_H} {w : Nat → Nat} (R : Ru u w) {g : Nat} (hg : g < 12) : u 5 (Int32.toNatClampNeg (nn g)) = nn (w (8 * g)) := by rw [nn_clamp (by omega)]; exact (R.1 g hg).1
set_option maxRecDepth 16384 in
theorem nn_is {n : Nat} (k : Nat) (h : n < 1000) (hk : k < 1000) : (nn n = nn k) ↔ n = k := nn_inj (by omega) (by omega)
set_option maxRecDepth 16384 in
theorem nn_0 {n : Nat} (h : n < 2147483648) : (nn n = (0 : Int32)) ↔ n = 0 := nn_inj (b := 0) h (by omega)
set_option maxRecDepth 16384 in
theorem Wz_k {w : Nat → Nat} (Z : Wz w) {r y : Nat} (hr : r < 16) (hy : y ≤ 12) (hu : y ≠ 0 → ∀ r', r' < 16 → r' ≠ r → w (96 + 6 * r' + 4) ≠ y) : Wz (nu w (96 + 6 * r + 4) y) := by
  obtain ⟨zg, ⟨zr1, zr2, zr3⟩, ⟨zm1, hm⟩, zn⟩ := Z
  have E : ∀ i, (i < 96 ∨ 192 ≤ i) → nu w (96 + 6 * r + 4) y i = w i := fun i hi => nu_ne1 (by omega)
  have F : ∀ r' j, j < 6 → j ≠ 4 → nu w (96 + 6 * r + 4) y (96 + 6 * r' + j) = w (96 + 6 * r' + j) := fun r' j h1 h2 => nu_ne1 (by omega)
  have F0 : ∀ r', nu w (96 + 6 * r + 4) y (96 + 6 * r') = w (96 + 6 * r') := fun r' => F r' 0 (by omega) (by omega)
  have F4 : ∀ r', nu w (96 + 6 * r + 4) y (96 + 6 * r' + 4) = if r' = r then y else w (96 + 6 * r' + 4) := fun r' => by
    by_cases c : r' = r
    · rw [if_pos c, nu_eq1 (by omega)]
    · rw [if_neg c, nu_ne1 (by omega)]
  refine ⟨fun g' hg' => ?_, ⟨fun r' hr' => ?_, fun r1 r2 h1 h2 => ?_, fun r1 r2 h1 h2 => ?_⟩, ⟨fun p hp => ?_, ?_⟩, ?_⟩
  · rw [E _ (by omega), E _ (by omega), E _ (by omega), E _ (by omega), E _ (by omega), E _ (by omega), E _ (by omega), E _ (by omega), E _ (by omega)]
    exact zg g' hg'
  · rw [F0, F r' 1 (by omega) (by omega), F r' 2 (by omega) (by omega), F r' 3 (by omega) (by omega), F4, F r' 5 (by omega) (by omega), E 553 (by omega), E 554 (by omega)]
    have := zr1 r' hr'
    refine ⟨this.1, this.2.1, this.2.2.1, this.2.2.2.1, ?_, this.2.2.2.2.2⟩
    by_cases c : r' = r
    · rw [if_pos c]; exact hy
    · rw [if_neg c]; exact this.2.2.2.2.1
  · rw [F4, F4]
    by_cases c1 : r1 = r
    · by_cases c2 : r2 = r
      · intro _ _; omega
      · rw [if_pos c1, if_neg c2]
        intro q1 q2
        exact absurd q2.symm (hu q1 r2 h2 c2)
    · by_cases c2 : r2 = r
      · rw [if_neg c1, if_pos c2]
        intro q1 q2
        exact absurd q2 (hu (by omega) r1 h1 c1)
      · rw [if_neg c1, if_neg c2]
        exact zr2 r1 r2 h1 h2
  · rw [F0, F0, F r1 2 (by omega) (by omega), F r2 2 (by omega) (by omega)]
    exact zr3 r1 r2 h1 h2
  · rw [E 552 (by omega)] at hp
    rw [E _ (by omega), E _ (by omega), E _ (by omega), E _ (by omega), E _ (by omega), E _ (by omega), E _ (by omega)]
    exact zm1 p hp
  · rw [E _ (by omega)]; exact hm
  · unfold WzN
    rw [E _ (by omega), E _ (by omega), E _ (by omega)]
    exact zn
set_option maxRecDepth 16384 in
theorem Wz_h {w : Nat → Nat} (Z : Wz w) {r y : Nat} (hr : r < 16) (hy : y ≤ 1) : Wz (nu w (96 + 6 * r + 5) y) := by
  obtain ⟨zg, ⟨zr1, zr2, zr3⟩, ⟨zm1, hm⟩, zn⟩ := Z
  have E : ∀ i, (i < 96 ∨ 192 ≤ i) → nu w (96 + 6 * r + 5) y i = w i := fun i hi => nu_ne1 (by omega)
  have F : ∀ r' j, j < 6 → j ≠ 5 → nu w (96 + 6 * r + 5) y (96 + 6 * r' + j) = w (96 + 6 * r' + j) := fun r' j h1 h2 => nu_ne1 (by omega)
  have F0 : ∀ r', nu w (96 + 6 * r + 5) y (96 + 6 * r') = w (96 + 6 * r') := fun r' => F r' 0 (by omega) (by omega)
  refine ⟨fun g' hg' => ?_, ⟨fun r' hr' => ?_, fun r1 r2 h1 h2 => ?_, fun r1 r2 h1 h2 => ?_⟩, ⟨fun p hp => ?_, ?_⟩, ?_⟩
  · rw [E _ (by omega), E _ (by omega), E _ (by omega), E _ (by omega), E _ (by omega), E _ (by omega), E _ (by omega), E _ (by omega), E _ (by omega)]
    exact zg g' hg'
  · rw [F0, F r' 1 (by omega) (by omega), F r' 2 (by omega) (by omega), F r' 3 (by omega) (by omega), F r' 4 (by omega) (by omega), E 553 (by omega), E 554 (by omega)]
    have := zr1 r' hr'
    refine ⟨this.1, this.2.1, this.2.2.1, this.2.2.2.1, this.2.2.2.2.1, ?_⟩
    unfold nu
    split <;> omega
  · rw [F r1 4 (by omega) (by omega), F r2 4 (by omega) (by omega)]
    exact zr2 r1 r2 h1 h2
  · rw [F0, F0, F r1 2 (by omega) (by omega), F r2 2 (by omega) (by omega)]
    exact zr3 r1 r2 h1 h2
  · rw [E 552 (by omega)] at hp
    rw [E _ (by omega), E _ (by omega), E _ (by omega), E _ (by omega), E _ (by omega), E _ (by omega), E _ (by omega)]
    exact zm1 p hp
  · rw [E _ (by omega)]; exact hm
  · unfold WzN
    rw [E _ (by omega), E _ (by omega), E _ (by omega)]
    exact zn
set_option maxRecDepth 16384 in
theorem Wz_n {w : Nat → Nat} (Z : Wz w) {k y : Nat} (hk : 555 ≤ k ∧ k ≤ 557) (h : WzN (nu w k y)) : Wz (nu w k y) := by
  obtain ⟨zg, ⟨zr1, zr2, zr3⟩, ⟨zm1, hm⟩, zn⟩ := Z
  have E : ∀ i, i < 555 → nu w k y i = w i := fun i hi => nu_ne1 (by omega)
  refine ⟨fun g' hg' => ?_, ⟨fun r' hr' => ?_, fun r1 r2 h1 h2 => ?_, fun r1 r2 h1 h2 => ?_⟩, ⟨fun p hp => ?_, ?_⟩, h⟩
  · rw [E _ (by omega), E _ (by omega), E _ (by omega), E _ (by omega), E _ (by omega), E _ (by omega), E _ (by omega), E _ (by omega), E _ (by omega)]
    exact zg g' hg'
  · rw [E _ (by omega), E _ (by omega), E _ (by omega), E _ (by omega), E _ (by omega), E _ (by omega), E _ (by omega), E _ (by omega)]
    exact zr1 r' hr'
  · rw [E _ (by omega), E _ (by omega)]
    exact zr2 r1 r2 h1 h2
  · rw [E _ (by omega), E _ (by omega), E _ (by omega), E _ (by omega)]
    exact zr3 r1 r2 h1 h2
  · rw [E 552 (by omega)] at hp
    rw [E _ (by omega), E _ (by omega), E _ (by omega), E _ (by omega), E _ (by omega), E _ (by omega), E _ (by omega)]
    exact zm1 p hp
  · rw [E _ (by omega)]; exact hm
set_option maxRecDepth 16384 in
theorem Ru_k {u : x_H} {w : Nat → Nat} (R : Ru u w) (hm : w 552 ≤ 60) {r y : Nat} (hr : r < 16) : Ru (x_hu u 16 r (mm y)) (nu w (96 + 6 * r + 4) y) := by
  obtain ⟨RG, RI, RL, RH, RM, RN⟩ := R
  have E : ∀ i, i ≠ 96 + 6 * r + 4 → nu w (96 + 6 * r + 4) y i = w i := fun i h => nu_ne1 h
  refine ⟨RuG_of RG (fun k i hk => x_hu_ne (by omega)) (fun i hi => E i (by omega)), fun r' hr' => ?_, fun g hg => ?_, RuH_of RH (x_hu_ne (by omega)) (fun r' hr' => E _ (by omega)), RuM_of RM (fun k i hk => x_hu_ne (by omega)) (fun i hi hi2 => E i (by omega)) hm, RuN_of RN (fun k i hk => x_hu_ne (by omega)) (fun i hi => E i (by omega))⟩
  · have I := RI r' hr'
    rw [x_hu_ne (by omega), x_hu_ne (by omega), x_hu_ne (by omega), x_hu_ne (by omega), E _ (by omega), E _ (by omega), E _ (by omega), E _ (by omega)]
    refine ⟨I.1, I.2.1, I.2.2.1, I.2.2.2.1, ?_⟩
    by_cases c : r' = r
    · rw [x_hu_eq rfl c, nu_eq1 (by omega)]
    · rw [x_hu_ni c, E _ (by omega)]; exact I.2.2.2.2
  · rw [x_hu_ne (by omega), RL g hg, n_ls_of (w := w) (w' := nu w (96 + 6 * r + 4) y) 16 (by omega) (fun r' hr' => by rw [E _ (by omega), E _ (by omega)])]
def n_drop (w : Nat → Nat) (g : Nat) : Nat → Nat := if n_res w g 16 = 0 then w else nu w (96 + 6 * (n_res w g 16 - 1) + 4) 0
set_option maxRecDepth 16384 in
theorem n_drop_no {w : Nat → Nat} {g : Nat} (h : n_res w g 16 = 0) : n_drop w g = w := if_pos h
set_option maxRecDepth 16384 in
theorem n_drop_at {w : Nat → Nat} {g r : Nat} (h : n_res w g 16 = r + 1) : n_drop w g = nu w (96 + 6 * r + 4) 0 := by
  rw [n_drop, if_neg (by omega), h, Nat.add_sub_cancel]
set_option maxRecDepth 16384 in
theorem n_drop_552 {w : Nat → Nat} {g : Nat} : n_drop w g 552 = w 552 := by
  rcases n_res_is (w := w) (g := g) 16 (by omega) with ⟨h, -⟩ | ⟨r, h, hr, -⟩
  · rw [n_drop, if_pos h]
  · rw [n_drop, if_neg (by omega), nu_ne1 (by omega)]
set_option maxRecDepth 16384 in
theorem u_dropRes {u : x_H} {w : Nat → Nat} (R : Ru u w) (Z : Wz w) {g : Nat} (hg : g < 12) : Ok (fX3_dropReservation u (nn g)) (fun q => q.1 = mm (n_res w g 16) ∧ Ru q.2 (n_drop w g)) := by
  rw [fX3_dropReservation, u_reservedRoom R Z hg, xb_some]
  rcases n_res_is (w := w) (g := g) 16 (by omega) with ⟨h, -⟩ | ⟨r, h, hr, -⟩
  · rw [n_drop_no h, h, show fX6_isRoom (mm 0) = some 0 from rfl, xb_some, if_pos rfl]
    exact Ok_some ⟨rfl, R⟩
  · rw [n_drop_at h, h, mm_succ, u_isRoom hr, xb_some, if_neg nn_one, if_pos (nn_in (by omega) hr), nn_clamp (by omega)]
    exact Ok_let (fun u6 e6 => Ok_some ⟨rfl, by show Ru u6 _; rw [e6]; exact Ru_k R Z.2.2.1.2 hr⟩)
def n_resv (w : Nat → Nat) (g r : Nat) : Nat → Nat := nu (n_drop w g) (96 + 6 * r + 4) (g + 1)
set_option maxRecDepth 16384 in
theorem Wz_drop {w : Nat → Nat} (Z : Wz w) {g : Nat} (hg : g < 12) : Wz (n_drop w g) ∧ ∀ r, r < 16 → n_drop w g (96 + 6 * r + 4) ≠ g + 1 := by
  rcases n_res_is (w := w) (g := g) 16 (by omega) with ⟨h, h1⟩ | ⟨r, h, hr, h1⟩
  · rw [n_drop, if_pos h]
    exact ⟨Z, fun r hr => h1 r (by omega) hr⟩
  · rw [n_drop, if_neg (by omega), h, Nat.add_sub_cancel]
    refine ⟨Wz_k Z hr (by omega) (fun h => absurd rfl h), fun r' hr' => ?_⟩
    by_cases c : r' = r
    · rw [nu_eq1 (by omega)]; omega
    · rw [nu_ne1 (by omega)]
      intro e
      exact c (Z.2.1.2.1 r' r hr' hr (by omega) (e.trans h1.symm))
set_option maxRecDepth 16384 in
theorem Wf_drop {B : Nat} {w : Nat → Nat} (F : Wf B w) {g : Nat} (hg : g < 12) : Wf B (n_drop w g) := by
  refine ⟨(Wz_drop F.1 hg).1, ?_, ?_⟩
  · unfold n_drop
    split
    · exact F.2.1
    · exact Wx_o F.2.1 (Or.inl (by have := n_res_is (w := w) (g := g) 16 (by omega); omega))
  · unfold n_drop
    split
    · exact F.2.2
    · exact Wb_nu F.2.2 (by omega)
set_option maxRecDepth 16384 in
theorem Wf_resv {B : Nat} {w : Nat → Nat} (F : Wf B w) {g r : Nat} (hg : g < 12) (hr : r < 16) (h9 : B + 1000 ≤ 1000000000) : Wf (B + 1000) (n_resv w g r) := by
  have D := Wf_drop F hg
  have D2 := (Wz_drop F.1 hg).2
  exact ⟨Wz_k D.1 hr (by omega) (fun _ r' hr' _ => D2 r' hr'), Wx_o D.2.1 (Or.inl (by omega)), Wb_nu (Wb_up D.2.2 (by omega) h9) (by omega)⟩
set_option maxRecDepth 16384 in
theorem g_kept {u : x_H} {w : Nat → Nat} (R : Ru u w) {r : Nat} (hr : r < 16) : u 16 (Int32.toNatClampNeg (nn r)) = mm (w (96 + 6 * r + 4)) := by rw [nn_clamp (by omega)]; exact (R.2.1 r hr).2.2.2.2
set_option maxRecDepth 16384 in
theorem mm_none {n : Nat} (h : n < 1000) : (mm n = (-1 : Int32)) ↔ n = 0 := mm_inj (b := 0) (by omega) (by omega)
set_option maxRecDepth 16384 in
theorem kx4 {r : Nat} : (96 : Int32) + 6 * nn r + 4 = nn (96 + 6 * r + 4) := by (try simp (disch := omega) only [nn_add, nn_mul, nn_clamp, nn_in1, nn_inj, nn_lt, nn_le, nn_neg, nu_eq1, nu_ne1, nn_nb0, nn_true, nn_false, if_true, if_false, x_let_n, x_let_m, xb_some, eq_self, ite_true, ite_false, not_false_eq_true, not_true_eq_false, nneg1, nl0, nl1, nl2, nl3, nl4, nl5, nl6, nl7, nl8, nl9, nl10, nl11, nl12, nl15, nl16, nl60, nl96, nl192, nl552, nl553, nl554, nl555, nl556, nl557, nl558, nl559, nl560, nl561, nl562, nl563, nl570])
set_option maxRecDepth 16384 in
theorem kx5 {r : Nat} : (96 : Int32) + 6 * nn r + 5 = nn (96 + 6 * r + 5) := by (try simp (disch := omega) only [nn_add, nn_mul, nn_clamp, nn_in1, nn_inj, nn_lt, nn_le, nn_neg, nu_eq1, nu_ne1, nn_nb0, nn_true, nn_false, if_true, if_false, x_let_n, x_let_m, xb_some, eq_self, ite_true, ite_false, not_false_eq_true, not_true_eq_false, nneg1, nl0, nl1, nl2, nl3, nl4, nl5, nl6, nl7, nl8, nl9, nl10, nl11, nl12, nl15, nl16, nl60, nl96, nl192, nl552, nl553, nl554, nl555, nl556, nl557, nl558, nl559, nl560, nl561, nl562, nl563, nl570])
def n_tog (w : Nat → Nat) (r : Nat) : Nat → Nat := nu w (96 + 6 * r + 5) (1 - w (96 + 6 * r + 5))
set_option maxRecDepth 16384 in
theorem Wf_tog {B : Nat} {w : Nat → Nat} (F : Wf B w) {r : Nat} (hr : r < 16) (h1 : 1 ≤ B) : Wf B (n_tog w r) := ⟨Wz_h F.1 hr (by omega), Wx_o F.2.1 (Or.inl (by omega)), Wb_nu F.2.2 (by omega)⟩
set_option maxRecDepth 16384 in
theorem Ru_tog {u : x_H} {w : Nat → Nat} (R : Ru u w) (Z : Wz w) {r : Nat} (hr : r < 16) : Ru (x_hu u 2 0 ((u 2 0) ^^^ ((1 : Int32) <<< (nn r &&& 31)))) (n_tog w r) := by
  obtain ⟨RG, RI, RL, RH, RM, RN⟩ := R
  have hm := Z.2.2.1.2
  have z := Z.2.1.1 r hr
  have E : ∀ i, i ≠ 96 + 6 * r + 5 → n_tog w r i = w i := fun i h => nu_ne1 h
  refine ⟨RuG_of RG (fun k i hk => x_hu_ne (by omega)) (fun i hi => E i (by omega)), fun r' hr' => ?_, fun g hg => ?_, fun r' hr' => ?_, RuM_of RM (fun k i hk => x_hu_ne (by omega)) (fun i hi hi2 => E i (by omega)) hm, RuN_of RN (fun k i hk => ?_) (fun i hi => E i (by omega))⟩
  · have I := RI r' hr'
    rw [x_hu_ne (by omega), x_hu_ne (by omega), x_hu_ne (by omega), x_hu_ne (by omega), x_hu_ne (by omega), E _ (by omega), E _ (by omega), E _ (by omega), E _ (by omega), E _ (by omega)]
    exact I
  · rw [x_hu_ne (by omega), RL g hg, n_ls_of (w := w) (w' := n_tog w r) 16 (by omega) (fun r' hr' => by rw [E _ (by omega), E _ (by omega)])]
  · rw [x_hu_eq rfl rfl, xb_tog _ hr hr', RH r' hr']
    by_cases c : r' = r
    · subst c
      unfold n_tog
      rw [nu_eq1 rfl, decide_eq_true rfl]
      by_cases d : w (96 + 6 * r' + 5) = 1
      · rw [d]; rfl
      · rw [show w (96 + 6 * r' + 5) = 0 by omega]; rfl
    · rw [E _ (by omega), decide_eq_false c, Bool.xor_false]
  · by_cases c : k = 2
    · exact x_hu_ni (by omega)
    · exact x_hu_ne c
set_option maxRecDepth 16384 in
theorem u_ghostB {u : x_H} {w : Nat → Nat} (R : Ru u w) {r : Nat} (hr : r < 16) {β : Type} (f : Int32 → Option β) : (Option.bind (fX3_ghostIn u (nn r)) fun r7 => if vp_nar .boolean r7 = r7 then f r7 else none) = f (nn (if w (96 + 6 * r + 5) = 1 then 1 else 0)) := by
  rw [u_ghostIn R hr, xb_some]
  split
  · rw [if_pos (show vp_nar .boolean (nn 1) = nn 1 from vpb1)]
  · rw [if_pos (show vp_nar .boolean (nn 0) = nn 0 from vpb0)]
section
variable {A n l : Nat} {σ τ : x_S} {m m' : x_H} {w w' : Nat → Nat} {S K : Nat → Nat → Nat} {t x : Nat → Nat}
set_option maxRecDepth 16384 in
theorem Ru_n {u : x_H} (R : Ru u w) (hm : w 552 ≤ 60) {i k y : Nat} (h : (i = 1 ∧ k = 555) ∨ (i = 2 ∧ k = 556) ∨ (i = 3 ∧ k = 557)) : Ru (x_hu u 2 i (nn y)) (nu w k y) := by
  obtain ⟨RG, RI, RL, RH, RM, RN1, RN2, RN3⟩ := R
  have E : ∀ i, i ≠ k → nu w k y i = w i := fun i h => nu_ne1 h
  refine ⟨RuG_of RG (fun k i hk => x_hu_ne (by omega)) (fun i hi => E i (by omega)), RuI_of RI (fun k i hk => x_hu_ne (by omega)) (fun i h1 h2 => E i (by omega)), RuL_of RL (fun i => x_hu_ne (by omega)) (fun i h1 h2 => E i (by omega)), RuH_of RH (x_hu_ni (by omega)) (fun r hr => E _ (by omega)), RuM_of RM (fun k i hk => x_hu_ne (by omega)) (fun i h1 h2 => E i (by omega)) hm, ?_, ?_, fun j hj => ?_⟩
  · rw [x_hu_ne (by omega), x_hu_ne (by omega), x_hu_ne (by omega), x_hu_ne (by omega), x_hu_ne (by omega), x_hu_ne (by omega), x_hu_ne (by omega), E _ (by omega), E _ (by omega), E _ (by omega), E _ (by omega), E _ (by omega), E _ (by omega), E _ (by omega)]
    exact RN1
  · obtain ⟨q1, q2, q3⟩ := RN2
    rcases h with ⟨rfl, rfl⟩ | ⟨rfl, rfl⟩ | ⟨rfl, rfl⟩
    · rw [x_hu_eq rfl rfl, x_hu_ni (by omega), x_hu_ni (by omega), nu_eq1 rfl, nu_ne1 (by omega), nu_ne1 (by omega)]; exact ⟨rfl, q2, q3⟩
    · rw [x_hu_ni (by omega), x_hu_eq rfl rfl, x_hu_ni (by omega), nu_ne1 (by omega), nu_eq1 rfl, nu_ne1 (by omega)]; exact ⟨q1, rfl, q3⟩
    · rw [x_hu_ni (by omega), x_hu_ni (by omega), x_hu_eq rfl rfl, nu_ne1 (by omega), nu_ne1 (by omega), nu_eq1 rfl]; exact ⟨q1, q2, rfl⟩
  · rw [x_hu_ne (by omega), E _ (by omega)]; exact RN3 j hj
set_option maxRecDepth 16384 in
theorem c_chg {i k g : Nat} (h : (i = 1 ∧ k = 555) ∨ (i = 2 ∧ k = 556) ∨ (i = 3 ∧ k = 557)) (Y : Yc σ w n S t K l x) (hn : n ≤ 6) (hm : w 552 ≤ 60) : Ok (Option.bind (fX5_push σ) fun r3 => x_let (r3 0 2 i) fun x5 => x_let (x_sh r3 0 (x_hu (r3 0) 2 i (nn g))) fun τ7 => some (x5, τ7)) (fun r => r.1 = nn (w k) ∧ Yc r.2 (nu w k g) (n_sn n) (n_sS w n S) t K l x ∧ r.2 11 = σ 11) := by
  refine Ok_bind (c_push Y hn) (fun τ hτ => ?_)
  obtain ⟨Y1, t11, t12⟩ := hτ
  refine Ok_let (fun x5 e5 => Ok_let (fun τ2 e2 => Ok_some ⟨?_, ?_, ?_⟩))
  · show x5 = _
    obtain ⟨q1, q2, q3⟩ := Y1.1.2.2.2.2.2.2.1
    rcases h with ⟨rfl, rfl⟩ | ⟨rfl, rfl⟩ | ⟨rfl, rfl⟩
    · rw [e5]; exact q1
    · rw [e5]; exact q2
    · rw [e5]; exact q3
  · show Yc τ2 _ _ _ _ _ _ _
    rw [e2]; exact Yc_now Y1 (n_sn_le hn) (Ru_n Y1.1 hm h)
  · show τ2 11 = _
    rw [e2, x_sh_ne _ _ (by omega), t11]
set_option maxRecDepth 16384 in
theorem Wf_chg {B : Nat} (F : Wf B w) {k y : Nat} (hk : 555 ≤ k ∧ k ≤ 557) (hy : (k = 555 → 8 ≤ y ∧ y ≤ 200) ∧ (k = 556 → 1 ≤ y ∧ y ≤ 50) ∧ (k = 557 → 1 ≤ y ∧ y ≤ 200)) (h9 : B + 1000 ≤ 1000000000) : Wf (B + 1000) (nu w k y) := by
  obtain ⟨Z, X, hB⟩ := F
  have hz := Z.2.2.2
  refine ⟨Wz_n Z hk ?_, Wx_o X (Or.inr (by omega)), Wb_nu (Wb_up hB (by omega) h9) (by omega)⟩
  unfold WzN at hz ⊢
  unfold nu
  by_cases c5 : k = 555
  · subst c5
    simp only [if_true, show ¬ (556 : Nat) = 555 by omega, show ¬ (557 : Nat) = 555 by omega, if_false]
    omega
  · by_cases c6 : k = 556
    · subst c6
      simp only [if_true, show ¬ (555 : Nat) = 556 by omega, show ¬ (557 : Nat) = 556 by omega, if_false]
      omega
    · have c7 : k = 557 := by omega
      subst c7
      simp only [if_true, show ¬ (555 : Nat) = 557 by omega, show ¬ (556 : Nat) = 557 by omega, if_false]
      omega
end
set_option maxRecDepth 16384 in
theorem i8 : (nn 8).toInt64 = (8 : Int32).toInt64 := rfl
set_option maxRecDepth 16384 in
theorem n_take_lose {w : Nat → Nat} {p y : Nat} (hp : p < w 552) (hm : w 552 ≤ 60) (i : Nat) : n_take (nu w 558 y) p i = nu (n_take w p) 558 y i := by
  have e : nu w 558 y 552 = w 552 := nu_ne1 (by omega)
  rw [n_take_at _ p i (by rw [e]; exact hm), e]
  by_cases c : i = 558
  · rw [if_neg (by omega), if_neg (by omega), nu_eq1 c, nu_eq1 c]
  · rw [nu_ne1 (w := n_take w p) c, n_take_at w p i hm, nu_ne1 (w := w) c]
    by_cases c2 : i = 552
    · rw [if_pos c2, if_pos c2]
    · rw [if_neg c2, if_neg c2]
      by_cases c3 : 192 + 6 * p ≤ i ∧ i < 192 + 6 * p + 6 * (w 552 - 1 - p)
      · rw [if_pos c3, if_pos c3, nu_ne1 (by omega)]
      · rw [if_neg c3, if_neg c3]
set_option maxRecDepth 16384 in
theorem ch_get : ∀ g, g < 127 → ((nn g).toUInt32 % 65536).toInt32 = nn g := by decide
set_option maxRecDepth 16384 in
theorem ch_nar : ∀ g, g < 127 → vp_nar .char (nn g) = nn g := by decide
section
variable {A n l l' : Nat} {σ τ : x_S} {m m' : x_H} {w w' : Nat → Nat} {S K : Nat → Nat → Nat} {t x x' : Nat → Nat}
set_option maxRecDepth 16384 in
theorem Yc_x (Y : Yc σ w n S t K l x) (hn : n ≤ 6) {u : x_H} (h : ∀ k i, k ≠ 37 → k ≠ 38 → u k i = σ 10 k i) (h37 : u 37 0 = nn l') (h38 : ∀ i, i < l' → u 38 i = nn (x' i)) : Yc (x_sh σ 10 u) w n S t K l' x' := by
  obtain ⟨Y1, ⟨Y2, g, Y3, Y4, Y5⟩, Y6, Y7, Y8⟩ := Y
  have e10 : x_sh σ 10 u 10 = u := x_sh_eq _ _ _
  refine ⟨by rw [x_sh_ne _ _ (by omega)]; exact Y1, ⟨by rw [e10, h 33 0 (by omega) (by omega)]; exact Y2, g, fun i hi => by rw [e10, h 34 i (by omega) (by omega)]; exact Y3 i hi, Y4, fun i hi => ?_⟩, fun s hs => ?_, by rw [e10]; exact h37, fun i hi => by rw [e10]; exact h38 i hi⟩
  · have q := Y3 i (by omega)
    rw [x_sh_ne _ _ (by omega)]
    exact Y5 i hi
  · obtain ⟨a, b, c⟩ := Y6 s hs
    exact ⟨by rw [e10, h 35 s (by omega) (by omega)]; exact a, by rw [e10, h 36 s (by omega) (by omega)]; exact b, fun e => by rw [x_sh_ne _ _ (by omega)]; exact c e⟩
end
set_option maxRecDepth 16384 in
theorem bud {B l A : Nat} (h : B + 600200 * l ≤ A) : B + 600200 * (l + 1) ≤ A + 1300000 := by
  have q : 600200 * (l + 1) = 600200 * l + 600200 := Nat.mul_succ 600200 l
  exact Nat.le_trans (Nat.le_of_eq (show B + 600200 * (l + 1) = (B + 600200 * l) + 600200 by rw [q, Nat.add_assoc])) (Nat.add_le_add h (Nat.le_of_ble_eq_true rfl))
