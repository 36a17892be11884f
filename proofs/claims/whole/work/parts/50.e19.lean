set_option maxRecDepth 16384 in
theorem m_b52 {n : Nat} (hn : n ≤ 5) : ∀ (d c N : Nat) (u : x_H), c + d = 570 → d < N → u 40 1 = nn n → Ok (fX7_save_b52 N u (nn c)) (fun r => (∀ k i, k ≠ 43 → (k ≠ 40 ∨ i ≠ 1) → r k i = u k i) ∧ r 40 1 = nn (n + 1) ∧ ∀ i, r 43 i = if 570 * n + c ≤ i ∧ i < 570 * n + 570 then u 41 (i - 570 * n) else u 43 i) := by
  intro d
  induction d with
  | zero =>
    intro c N u hc hN h1
    obtain ⟨N, rfl⟩ : ∃ m, N = m + 1 := ⟨N - 1, by omega⟩
    rw [fX7_save_b52, if_pos (show (570 : Int32) ≤ nn c from (nn_le (a := 570) (by omega) (by omega)).mpr (by omega)), h1, show nn n + (1 : Int32) = nn (n + 1) from nn_add _ 1]
    refine Ok_let (fun r e => Ok_some ⟨?_, ?_, ?_⟩)
    · intro k i hk hi
      rw [e]
      rcases hi with hi | hi
      · exact x_hu_ne hi
      · exact x_hu_ni hi
    · rw [e, x_hu_eq rfl rfl]
    · intro i
      rw [e, x_hu_ne (by omega), if_neg (by omega)]
  | succ d ih =>
    intro c N u hc hN h1
    obtain ⟨N, rfl⟩ : ∃ m, N = m + 1 := ⟨N - 1, by omega⟩
    rw [fX7_save_b52, if_neg (fun h => by have := (nn_le (a := 570) (by omega) (by omega)).mp h; omega), if_pos (nn_in (by omega) (by omega)), h1, show (570 : Int32) * nn n + nn c = nn (570 * n + c) from by rw [nl570, nn_mul, nn_add], if_pos (nn_in (by omega) (by omega)), nn_clamp (by omega), nn_clamp (by omega), show nn c + (1 : Int32) = nn (c + 1) from nn_add c 1]
    refine Ok_let (fun u1 e1 => ?_)
    rw [x_let_n]
    refine Ok_mono (ih (c + 1) N u1 (by omega) (by omega) (by rw [e1, x_hu_ne (by omega)]; exact h1)) (fun r hr => ⟨?_, hr.2.1, ?_⟩)
    · intro k i hk hi
      rw [hr.1 k i hk hi, e1, x_hu_ne hk]
    · intro i
      rw [hr.2.2 i, e1]
      by_cases hi : i = 570 * n + c
      · rw [if_neg (by omega), if_pos (by omega), x_hu_eq rfl hi, show i - 570 * n = c by omega]
      · rw [x_hu_ni hi, x_hu_ne (by omega)]
        by_cases h : 570 * n + c ≤ i ∧ i < 570 * n + 570
        · rw [if_pos (by omega), if_pos h]
        · rw [if_neg (by omega), if_neg h]
set_option maxRecDepth 16384 in
theorem m_b11 : ∀ (d c N : Nat) (u : x_H), c + d = 2850 → d < N → u 40 1 = nn 6 → Ok (fX7_save_b11 N u (nn c)) (fun r => (∀ k i, k ≠ 43 → (k ≠ 40 ∨ i ≠ 1) → r k i = u k i) ∧ r 40 1 = nn 6 ∧ ∀ i, i < 3420 → r 43 i = if 2850 ≤ i then u 41 (i - 2850) else if c ≤ i then u 43 (570 + i) else u 43 i) := by
  intro d
  induction d with
  | zero =>
    intro c N u hc hN h1
    obtain ⟨N, rfl⟩ : ∃ m, N = m + 1 := ⟨N - 1, by omega⟩
    rw [fX7_save_b11, if_pos (show (2850 : Int32) ≤ nn c from (nn_le (a := 2850) (by omega) (by omega)).mpr (by omega)), h1, show nn 6 - (1 : Int32) = nn 5 from rfl]
    refine Ok_let (fun u1 e1 => ?_)
    refine Ok_mono (m_b52 (n := 5) (by omega) 570 0 4000 u1 (by omega) (by omega) (by rw [e1, x_hu_eq rfl rfl])) (fun r hr => ⟨?_, hr.2.1, ?_⟩)
    · intro k i hk hi
      rw [hr.1 k i hk hi, e1]
      rcases hi with hi | hi
      · exact x_hu_ne hi
      · exact x_hu_ni hi
    · intro i hi
      rw [hr.2.2 i, e1, x_hu_ne (by omega), x_hu_ne (by omega)]
      by_cases h : 2850 ≤ i
      · rw [if_pos (by omega), if_pos h]
      · rw [if_neg (by omega), if_neg h, if_neg (by omega)]
  | succ d ih =>
    intro c N u hc hN h1
    obtain ⟨N, rfl⟩ : ∃ m, N = m + 1 := ⟨N - 1, by omega⟩
    rw [fX7_save_b11, if_neg (fun h => by have := (nn_le (a := 2850) (by omega) (by omega)).mp h; omega), show (570 : Int32) + nn c = nn (570 + c) from nn_add 570 c, if_pos (nn_in (by omega) (by omega)), if_pos (nn_in (by omega) (by omega)), nn_clamp (by omega), nn_clamp (by omega), show nn c + (1 : Int32) = nn (c + 1) from nn_add c 1]
    refine Ok_let (fun u1 e1 => ?_)
    rw [x_let_n]
    refine Ok_mono (ih (c + 1) N u1 (by omega) (by omega) (by rw [e1, x_hu_ne (by omega)]; exact h1)) (fun r hr => ⟨?_, hr.2.1, ?_⟩)
    · intro k i hk hi
      rw [hr.1 k i hk hi, e1, x_hu_ne hk]
    · intro i hi0
      rw [hr.2.2 i hi0, e1, x_hu_ne (by omega)]
      by_cases h : 2850 ≤ i
      · rw [if_pos h, if_pos h]
      · rw [if_neg h, if_neg h]
        by_cases hi : i = c
        · rw [if_neg (by omega), if_pos (by omega), x_hu_eq rfl hi, hi]
        · rw [x_hu_ni hi]
          by_cases h2 : c ≤ i
          · rw [if_pos (by omega), if_pos h2, x_hu_ni (by omega)]
          · rw [if_neg (by omega), if_neg h2]
set_option maxRecDepth 16384 in
theorem m_b32 {n : Nat} (hn : n ≤ 5) : ∀ (d c N : Nat) (u : x_H), c + d = 570 → d < N → u 40 1 = nn n → Ok (fX7_undo_b32 N u (nn c)) (fun r => (∀ k i, k ≠ 41 → r k i = u k i) ∧ ∀ i, r 41 i = if c ≤ i ∧ i < 570 then u 43 (570 * n + i) else u 41 i) := by
  intro d
  induction d with
  | zero =>
    intro c N u hc hN h1
    obtain ⟨N, rfl⟩ : ∃ m, N = m + 1 := ⟨N - 1, by omega⟩
    rw [fX7_undo_b32, if_pos (show (570 : Int32) ≤ nn c from (nn_le (a := 570) (by omega) (by omega)).mpr (by omega))]
    exact Ok_some ⟨fun k i hk => rfl, fun i => by rw [if_neg (by omega)]⟩
  | succ d ih =>
    intro c N u hc hN h1
    obtain ⟨N, rfl⟩ : ∃ m, N = m + 1 := ⟨N - 1, by omega⟩
    rw [fX7_undo_b32, if_neg (fun h => by have := (nn_le (a := 570) (by omega) (by omega)).mp h; omega), h1, show (570 : Int32) * nn n + nn c = nn (570 * n + c) from by rw [nl570, nn_mul, nn_add], if_pos (nn_in (by omega) (by omega)), if_pos (nn_in (by omega) (by omega)), nn_clamp (by omega), nn_clamp (by omega), show nn c + (1 : Int32) = nn (c + 1) from nn_add c 1]
    refine Ok_let (fun u1 e1 => ?_)
    rw [x_let_n]
    refine Ok_mono (ih (c + 1) N u1 (by omega) (by omega) (by rw [e1, x_hu_ne (by omega)]; exact h1)) (fun r hr => ⟨?_, ?_⟩)
    · intro k i hk
      rw [hr.1 k i hk, e1, x_hu_ne hk]
    · intro i
      rw [hr.2 i, e1, x_hu_ne (by omega)]
      by_cases hi : i = c
      · rw [if_neg (by omega), if_pos (by omega), x_hu_eq rfl hi, hi]
      · rw [x_hu_ni hi]
        by_cases h : c ≤ i ∧ i < 570
        · rw [if_pos (by omega), if_pos h]
        · rw [if_neg (by omega), if_neg h]
set_option maxRecDepth 16384 in
theorem m_b39 {s : Nat} (hs : s < 2) : ∀ (d c N : Nat) (u : x_H), c + d = 570 → d < N → Ok (fX7_goBack_b39 N u (nn s) (nn c)) (fun r => (∀ k i, k ≠ 41 → r k i = u k i) ∧ ∀ i, r 41 i = if c ≤ i ∧ i < 570 then u 44 (570 * s + i) else u 41 i) := by
  intro d
  induction d with
  | zero =>
    intro c N u hc hN
    obtain ⟨N, rfl⟩ : ∃ m, N = m + 1 := ⟨N - 1, by omega⟩
    rw [fX7_goBack_b39, if_pos (show (570 : Int32) ≤ nn c from (nn_le (a := 570) (by omega) (by omega)).mpr (by omega))]
    exact Ok_some ⟨fun k i hk => rfl, fun i => by rw [if_neg (by omega)]⟩
  | succ d ih =>
    intro c N u hc hN
    obtain ⟨N, rfl⟩ : ∃ m, N = m + 1 := ⟨N - 1, by omega⟩
    rw [fX7_goBack_b39, if_neg (fun h => by have := (nn_le (a := 570) (by omega) (by omega)).mp h; omega), show (570 : Int32) * nn s + nn c = nn (570 * s + c) from by rw [nl570, nn_mul, nn_add], if_pos (nn_in (by omega) (by omega)), if_pos (nn_in (by omega) (by omega)), nn_clamp (by omega), nn_clamp (by omega), show nn c + (1 : Int32) = nn (c + 1) from nn_add c 1]
    refine Ok_let (fun u1 e1 => ?_)
    rw [x_let_n]
    refine Ok_mono (ih (c + 1) N u1 (by omega) (by omega)) (fun r hr => ⟨?_, ?_⟩)
    · intro k i hk
      rw [hr.1 k i hk, e1, x_hu_ne hk]
    · intro i
      rw [hr.2 i, e1, x_hu_ne (by omega)]
      by_cases hi : i = c
      · rw [if_neg (by omega), if_pos (by omega), x_hu_eq rfl hi, hi]
      · rw [x_hu_ni hi]
        by_cases h : c ≤ i ∧ i < 570
        · rw [if_pos (by omega), if_pos h]
        · rw [if_neg (by omega), if_neg h]
set_option maxRecDepth 16384 in
theorem m_b22 {s : Nat} (hs : s < 2) : ∀ (d c N : Nat) (u : x_H), c + d = 570 → d < N → Ok (fX7_keep_b22 N u (nn s) (nn c)) (fun r => (∀ k i, k ≠ 44 → (k ≠ 45 ∨ i ≠ s) → r k i = u k i) ∧ r 45 s = nn 1 ∧ ∀ i, r 44 i = if 570 * s + c ≤ i ∧ i < 570 * s + 570 then u 41 (i - 570 * s) else u 44 i) := by
  intro d
  induction d with
  | zero =>
    intro c N u hc hN
    obtain ⟨N, rfl⟩ : ∃ m, N = m + 1 := ⟨N - 1, by omega⟩
    rw [fX7_keep_b22, if_pos (show (570 : Int32) ≤ nn c from (nn_le (a := 570) (by omega) (by omega)).mpr (by omega)), if_pos (nn_in (by omega) (by omega)), nn_clamp (by omega)]
    refine Ok_let (fun r e => Ok_some ⟨?_, ?_, ?_⟩)
    · intro k i hk hi
      rw [e]
      rcases hi with hi | hi
      · exact x_hu_ne hi
      · exact x_hu_ni hi
    · rw [e, x_hu_eq rfl rfl]
      decide
    · intro i
      rw [e, x_hu_ne (by omega), if_neg (by omega)]
  | succ d ih =>
    intro c N u hc hN
    obtain ⟨N, rfl⟩ : ∃ m, N = m + 1 := ⟨N - 1, by omega⟩
    rw [fX7_keep_b22, if_neg (fun h => by have := (nn_le (a := 570) (by omega) (by omega)).mp h; omega), if_pos (nn_in (by omega) (by omega)), show (570 : Int32) * nn s + nn c = nn (570 * s + c) from by rw [nl570, nn_mul, nn_add], if_pos (nn_in (by omega) (by omega)), nn_clamp (by omega), nn_clamp (by omega), show nn c + (1 : Int32) = nn (c + 1) from nn_add c 1]
    refine Ok_let (fun u1 e1 => ?_)
    rw [x_let_n]
    refine Ok_mono (ih (c + 1) N u1 (by omega) (by omega)) (fun r hr => ⟨?_, hr.2.1, ?_⟩)
    · intro k i hk hi
      rw [hr.1 k i hk hi, e1, x_hu_ne hk]
    · intro i
      rw [hr.2.2 i, e1]
      by_cases hi : i = 570 * s + c
      · rw [if_neg (by omega), if_pos (by omega), x_hu_eq rfl hi, show i - 570 * s = c by omega]
      · rw [x_hu_ni hi, x_hu_ne (by omega)]
        by_cases h : 570 * s + c ≤ i ∧ i < 570 * s + 570
        · rw [if_pos (by omega), if_pos h]
        · rw [if_neg (by omega), if_neg h]
set_option maxRecDepth 16384 in
theorem m_copy {u : x_H} {k0 k1 : Nat} (h : k0 ≠ k1) : fX7_copy u k0 k1 = some (x_hs u k1 (fun i => if i < 570 then u k0 i else u k1 i)) := by
  have e := fX7_copy_spec h 570 0 4000 u (by omega) (by omega)
  rw [fX7_copy]
  refine e.trans ?_
  congr 2
  funext i
  by_cases hi : i < 570
  · rw [if_pos ⟨by omega, hi⟩, if_pos hi]
  · rw [if_neg (fun h => hi h.2), if_neg hi]
