/-! ===== counts ===== -/
set_option maxRecDepth 16384 in
theorem u_hs {u : x_H} {w : Nat → Nat} (R : RuG u w) (Z : WzG w) : ∀ (d n c : Nat), d ≤ 12 → d < n → fX1_countHoused_b4 n u (nn c) (nn (12 - d)) = some (nn (c + n_hs d w)) := by
  intro d
  induction d with
  | zero =>
    intro n c hd hn
    obtain ⟨n, rfl⟩ : ∃ m, n = m + 1 := ⟨n - 1, by omega⟩
    rw [fX1_countHoused_b4, n_hs, if_pos (by decide)]
    rfl
  | succ d ih =>
    intro n c hd hn
    obtain ⟨n, rfl⟩ : ∃ m, n = m + 1 := ⟨n - 1, by omega⟩
    have e12 : 12 - (d + 1) = 11 - d := by omega
    have e13 : 12 - d = 11 - d + 1 := by omega
    have z := (Z (11 - d) (by omega)).1
    have I := fun c => ih n c (by omega) (by omega)
    rw [e13] at I
    rw [fX1_countHoused_b4, n_hs, e12, if_neg (fun h => by have := (nn_le (a := 12) (by omega) (by omega)).mp h; omega), if_pos (nn_in (by omega) (by omega)), nn_clamp (by omega), (R (11 - d) (by omega)).1]
    by_cases c1 : w (8 * (11 - d)) = 3
    · rw [if_pos c1, if_pos (show nn (w (8 * (11 - d))) = (3 : Int32) by rw [c1]; rfl)]
      have h := I (c + 1)
      rw [← nn_add, ← nn_add] at h
      rw [show c + (1 + n_hs d w) = c + 1 + n_hs d w by omega]
      exact h
    · rw [if_neg c1, if_neg (no3 (by omega) c1)]
      have h := I c
      rw [← nn_add] at h
      rw [Nat.zero_add]
      exact h
set_option maxRecDepth 16384 in
theorem u_inRooms {u : x_H} {w : Nat → Nat} (R : RuG u w) (Z : WzG w) : fX1_countHoused u = some (nn (n_hs 12 w)) := by
  have h := u_hs R Z 12 400 0 (by omega) (by omega)
  rw [Nat.zero_add] at h
  exact h
def n_cn (w : Nat → Nat) (s : Nat) : Nat → Nat
  | 0 => 0
  | d + 1 => (if w (96 + 6 * (15 - d)) = s then 1 else 0) + n_cn w s d
set_option maxRecDepth 16384 in
theorem n_cn_le (w : Nat → Nat) (s d : Nat) : n_cn w s d ≤ d := by
  induction d with
  | zero => exact Nat.le_refl _
  | succ d ih => unfold n_cn; split <;> omega
set_option maxRecDepth 16384 in
theorem u_cn {u : x_H} {w : Nat → Nat} (R : RuI u w) (Z : Wz w) {s : Nat} (hs : s < 9) : ∀ (d n c : Nat), d ≤ 16 → d < n → fX3_countRooms_b4 n u (nn s) (nn c) (nn (16 - d)) = some (nn (c + n_cn w s d)) := by
  intro d
  induction d with
  | zero =>
    intro n c hd hn
    obtain ⟨n, rfl⟩ : ∃ m, n = m + 1 := ⟨n - 1, by omega⟩
    rw [fX3_countRooms_b4, n_cn, if_pos (by decide)]
    rfl
  | succ d ih =>
    intro n c hd hn
    obtain ⟨n, rfl⟩ : ∃ m, n = m + 1 := ⟨n - 1, by omega⟩
    have e12 : 16 - (d + 1) = 15 - d := by omega
    have e13 : 16 - d = 15 - d + 1 := by omega
    have z := (Z.2.1.1 (15 - d) (by omega)).1
    have I := fun c => ih n c (by omega) (by omega)
    rw [e13] at I
    rw [fX3_countRooms_b4, n_cn, e12, if_neg (fun h => by have := (nn_le (a := 16) (by omega) (by omega)).mp h; omega), if_pos (nn_in (by omega) (by omega)), nn_clamp (by omega), (R (15 - d) (by omega)).1]
    by_cases c1 : w (96 + 6 * (15 - d)) = s
    · rw [if_pos c1, if_pos (by rw [c1])]
      have h := I (c + 1)
      rw [← nn_add, ← nn_add] at h
      rw [show c + (1 + n_cn w s d) = c + 1 + n_cn w s d by omega]
      exact h
    · rw [if_neg c1, if_neg (fun h => c1 ((nn_inj (by omega) (by omega)).mp h))]
      have h := I c
      rw [← nn_add] at h
      rw [Nat.zero_add]
      exact h
set_option maxRecDepth 16384 in
theorem u_rooms {u : x_H} {w : Nat → Nat} (R : RuI u w) (Z : Wz w) {s : Nat} (hs : s < 9) : fX3_countRooms u (nn s) = some (nn (n_cn w s 16)) := by
  have h := u_cn R Z hs 16 400 0 (by omega) (by omega)
  rw [Nat.zero_add] at h
  exact h
set_option maxRecDepth 16384 in
theorem v_cn {u : x_H} {w : Nat → Nat} (R : Rv (u 41) w) (Z : Wz w) {s : Nat} (hs : s < 9) : ∀ (d n c : Nat), d ≤ 16 → d < n → fX7_rooms_b4 n u (nn s) (nn c) (nn (16 - d)) = some (nn (c + n_cn w s d)) := by
  intro d
  induction d with
  | zero =>
    intro n c hd hn
    obtain ⟨n, rfl⟩ : ∃ m, n = m + 1 := ⟨n - 1, by omega⟩
    rw [fX7_rooms_b4, n_cn, if_pos (by decide)]
    rfl
  | succ d ih =>
    intro n c hd hn
    obtain ⟨n, rfl⟩ : ∃ m, n = m + 1 := ⟨n - 1, by omega⟩
    have e12 : 16 - (d + 1) = 15 - d := by omega
    have e13 : 16 - d = 15 - d + 1 := by omega
    have z := (Z.2.1.1 (15 - d) (by omega)).1
    have I := fun c => ih n c (by omega) (by omega)
    rw [e13] at I
    rw [fX7_rooms_b4, n_cn, e12, if_neg (fun h => by have := (nn_le (a := 16) (by omega) (by omega)).mp h; omega), v_state R (by omega), xb_some]
    by_cases c1 : w (96 + 6 * (15 - d)) = s
    · rw [if_pos c1, if_pos (by rw [c1])]
      have h := I (c + 1)
      rw [← nn_add, ← nn_add] at h
      rw [show c + (1 + n_cn w s d) = c + 1 + n_cn w s d by omega]
      exact h
    · rw [if_neg c1, if_neg (fun h => c1 ((nn_inj (by omega) (by omega)).mp h))]
      have h := I c
      rw [show nn c = nn c + 0 from (Int32.add_zero _).symm, ← nn_add] at h
      rw [Nat.zero_add]
      exact h
set_option maxRecDepth 16384 in
theorem v_rooms2 {u : x_H} {w : Nat → Nat} (R : Rv (u 41) w) (Z : Wz w) {s : Nat} (hs : s < 9) : fX7_rooms u (nn s) = some (nn (n_cn w s 16)) := by
  have h := v_cn R Z hs 16 400 0 (by omega) (by omega)
  rw [Nat.zero_add] at h
  exact h
/-! leases told by guests -/
def n_up (w : Nat → Nat) : Nat → Nat
  | 0 => 0
  | r + 1 => n_up w r + if w (96 + 6 * r) = 2 then 1 else 0
set_option maxRecDepth 16384 in
theorem n_up_cn (w : Nat → Nat) : ∀ d, d ≤ 16 → n_up w (16 - d) + n_cn w 2 d = n_up w 16 := by
  intro d
  induction d with
  | zero => intro _; rfl
  | succ d ih =>
    intro hd
    have h := ih (by omega)
    rw [show 16 - d = 15 - d + 1 by omega, n_up] at h
    rw [show 16 - (d + 1) = 15 - d by omega, n_cn, ← h]
    generalize (if w (96 + 6 * (15 - d)) = 2 then 1 else 0) = q
    omega
def n_sm (w : Nat → Nat) (R : Nat) : Nat → Nat
  | 0 => 0
  | d + 1 => n_ls w (11 - d) R + n_sm w R d
def n_si (a : Nat) : Nat → Nat
  | 0 => 0
  | d + 1 => (if a = 11 - d then 1 else 0) + n_si a d
set_option maxRecDepth 16384 in
theorem n_si_is (a : Nat) : ∀ d, d ≤ 12 → n_si a d = if 12 - d ≤ a ∧ a < 12 then 1 else 0 := by
  intro d
  induction d with
  | zero => intro _; rw [n_si, if_neg (by omega)]
  | succ d ih =>
    intro hd
    rw [n_si, ih (by omega)]
    by_cases c : a = 11 - d
    · rw [if_pos c, if_neg (by omega), if_pos (by omega)]
    · rw [if_neg c]
      by_cases c2 : 12 - d ≤ a ∧ a < 12
      · rw [if_pos c2, if_pos (by omega)]
      · rw [if_neg c2, if_neg (by omega)]
set_option maxRecDepth 16384 in
theorem n_sm_step (w : Nat → Nat) (r : Nat) : ∀ d, n_sm w (r + 1) d = n_sm w r d + if w (96 + 6 * r) = 2 then n_si (w (96 + 6 * r + 2)) d else 0 := by
  intro d
  induction d with
  | zero => rw [n_sm, n_sm, n_si]; split <;> rfl
  | succ d ih =>
    rw [n_sm, n_sm, ih, n_ls, n_si]
    by_cases c : w (96 + 6 * r) = 2
    · rw [if_pos c, if_pos c]
      by_cases c2 : w (96 + 6 * r + 2) = 11 - d
      · rw [if_pos ⟨c, c2⟩, if_pos c2]; omega
      · rw [if_neg (fun h => c2 h.2), if_neg c2]; omega
    · rw [if_neg c, if_neg c, if_neg (fun h => c h.1)]; omega
set_option maxRecDepth 16384 in
theorem n_sm_0 (w : Nat → Nat) : ∀ d, n_sm w 0 d = 0 := by
  intro d
  induction d with
  | zero => rfl
  | succ d ih => rw [n_sm, ih]; rfl
set_option maxRecDepth 16384 in
theorem n_sm_up {w : Nat → Nat} (Z : Wz w) : ∀ r, r ≤ 16 → n_sm w r 12 = n_up w r := by
  intro r
  induction r with
  | zero => intro _; exact n_sm_0 w 12
  | succ r ih =>
    intro hr
    have z := Z.2.1.1 r (by omega)
    rw [n_sm_step, ih (by omega), n_up, n_si_is _ 12 (by omega), if_pos (show 12 - 12 ≤ w (96 + 6 * r + 2) ∧ w (96 + 6 * r + 2) < 12 by omega)]
set_option maxRecDepth 16384 in
theorem n_sm_cn {w : Nat → Nat} (Z : Wz w) : n_sm w 16 12 = n_cn w 2 16 := by
  have h := n_up_cn w 16 (by omega)
  rw [n_sm_up Z 16 (by omega), ← h]
  exact Nat.zero_add _
set_option maxRecDepth 16384 in
theorem u_sm {u : x_H} {w : Nat → Nat} (R : RuL u w) : ∀ (d n c : Nat), d ≤ 12 → d < n → fX3_countLeasesOfGuests_b4 n u (nn c) (nn (12 - d)) = some (nn (c + n_sm w 16 d)) := by
  intro d
  induction d with
  | zero =>
    intro n c hd hn
    obtain ⟨n, rfl⟩ : ∃ m, n = m + 1 := ⟨n - 1, by omega⟩
    rw [fX3_countLeasesOfGuests_b4, n_sm, if_pos (by decide)]
    rfl
  | succ d ih =>
    intro n c hd hn
    obtain ⟨n, rfl⟩ : ∃ m, n = m + 1 := ⟨n - 1, by omega⟩
    have e12 : 12 - (d + 1) = 11 - d := by omega
    have e13 : 12 - d = 11 - d + 1 := by omega
    have I := fun c => ih n c (by omega) (by omega)
    rw [e13] at I
    rw [fX3_countLeasesOfGuests_b4, n_sm, e12, if_neg (fun h => by have := (nn_le (a := 12) (by omega) (by omega)).mp h; omega), if_pos (nn_in (by omega) (by omega)), nn_clamp (by omega), R (11 - d) (by omega), nn_add, x_let_n, show nn (11 - d) + (1 : Int32) = nn (11 - d + 1) from nn_add _ 1, x_let_n, I]
    congr 2
    omega
set_option maxRecDepth 16384 in
theorem u_leased {u : x_H} {w : Nat → Nat} (R : RuL u w) (Z : Wz w) : fX3_countLeasesOfGuests u = some (nn (n_cn w 2 16)) := by
  have h := u_sm R 12 400 0 (by omega) (by omega)
  rw [Nat.zero_add, n_sm_cn Z] at h
  exact h
/-! the next free room -/
def n_nx (w : Nat → Nat) : Nat → Nat → Nat
  | 0, least => least
  | d + 1, least => n_nx w d (if 0 < n_left w (15 - d) ∧ (least = 0 ∨ n_left w (15 - d) < least) then n_left w (15 - d) else least)
set_option maxRecDepth 16384 in
theorem n_left_le {w : Nat → Nat} (Z : Wz w) {r : Nat} (hr : r < 16) : n_left w r ≤ 200 := by
  have z := Z.2.1.1 r hr
  unfold n_left
  split <;> omega
set_option maxRecDepth 16384 in
theorem u_nx {u : x_H} {w : Nat → Nat} {B : Nat} (R : Ru u w) (F : Wf B w) : ∀ (d n c : Nat), d ≤ 16 → d < n → c ≤ 200 → fX3_leastTicksUntilFree_b4 n u (nn (w 554)) (nn c) (nn (16 - d)) = some (nn (n_nx w d c)) := by
  intro d
  induction d with
  | zero =>
    intro n c hd hn hc
    obtain ⟨n, rfl⟩ : ∃ m, n = m + 1 := ⟨n - 1, by omega⟩
    rw [fX3_leastTicksUntilFree_b4, n_nx, if_pos (by decide)]
  | succ d ih =>
    intro n c hd hn hc
    obtain ⟨n, rfl⟩ : ∃ m, n = m + 1 := ⟨n - 1, by omega⟩
    have e12 : 16 - (d + 1) = 15 - d := by omega
    have e13 : 16 - d = 15 - d + 1 := by omega
    have z := n_left_le F.1 (r := 15 - d) (by omega)
    have I := fun c hc => ih n c (by omega) (by omega) hc
    rw [e13] at I
    rw [fX3_leastTicksUntilFree_b4, n_nx, e12, if_neg (fun h => by have := (nn_le (a := 16) (by omega) (by omega)).mp h; omega), u_left R F (by omega), xb_some, show nn (15 - d) + (1 : Int32) = nn (15 - d + 1) from nn_add _ 1]
    by_cases c1 : n_left w (15 - d) = 0
    · rw [if_pos (show nn (n_left w (15 - d)) ≤ (0 : Int32) by rw [c1]; decide), if_neg (fun h => by omega), x_let_n]
      exact I c hc
    · rw [if_neg (show ¬ nn (n_left w (15 - d)) ≤ (0 : Int32) from fun h => by have := (nn_le (b := 0) (by omega) (by omega)).mp h; omega)]
      by_cases c2 : c = 0
      · rw [if_pos (show nn c = (0 : Int32) by rw [c2]; rfl), if_pos (show 0 < n_left w (15 - d) ∧ (c = 0 ∨ n_left w (15 - d) < c) from ⟨by omega, Or.inl c2⟩), x_let_n]
        exact I _ z
      · rw [if_neg (show ¬ nn c = (0 : Int32) from fun h => c2 ((nn_0 (by omega)).mp h))]
        by_cases c3 : c ≤ n_left w (15 - d)
        · rw [if_pos ((nn_le (by omega) (by omega)).mpr c3), if_neg (fun h => by omega), x_let_n]
          exact I c hc
        · rw [if_neg (fun h => c3 ((nn_le (by omega) (by omega)).mp h)), if_pos (show 0 < n_left w (15 - d) ∧ (c = 0 ∨ n_left w (15 - d) < c) from ⟨by omega, Or.inr (by omega)⟩), x_let_n]
          exact I _ z
set_option maxRecDepth 16384 in
theorem u_next {u : x_H} {w : Nat → Nat} {B : Nat} (R : Ru u w) (F : Wf B w) : fX3_leastTicksUntilFree u (nn (w 554)) = some (nn (n_nx w 16 0)) := u_nx R F 16 400 0 (by omega) (by omega) (by omega)
set_option maxRecDepth 16384 in
theorem v_nx {u : x_H} {w : Nat → Nat} {B : Nat} (R : Rv (u 41) w) (F : Wf B w) : ∀ (d n c : Nat), d ≤ 16 → d < n → c ≤ 200 → fX7_next_b4 n u (nn c) (nn (16 - d)) = some (nn (n_nx w d c)) := by
  intro d
  induction d with
  | zero =>
    intro n c hd hn hc
    obtain ⟨n, rfl⟩ : ∃ m, n = m + 1 := ⟨n - 1, by omega⟩
    rw [fX7_next_b4, n_nx, if_pos (by decide)]
  | succ d ih =>
    intro n c hd hn hc
    obtain ⟨n, rfl⟩ : ∃ m, n = m + 1 := ⟨n - 1, by omega⟩
    have e12 : 16 - (d + 1) = 15 - d := by omega
    have e13 : 16 - d = 15 - d + 1 := by omega
    have z := n_left_le F.1 (r := 15 - d) (by omega)
    have I := fun c hc => ih n c (by omega) (by omega) hc
    rw [e13] at I
    rw [fX7_next_b4, n_nx, e12, if_neg (fun h => by have := (nn_le (a := 16) (by omega) (by omega)).mp h; omega), v_left R F (by omega), xb_some, show nn (15 - d) + (1 : Int32) = nn (15 - d + 1) from nn_add _ 1]
    by_cases c1 : n_left w (15 - d) = 0
    · rw [if_pos (show nn (n_left w (15 - d)) ≤ (0 : Int32) by rw [c1]; decide), if_neg (fun h => by omega), x_let_n]
      exact I c hc
    · rw [if_neg (show ¬ nn (n_left w (15 - d)) ≤ (0 : Int32) from fun h => by have := (nn_le (b := 0) (by omega) (by omega)).mp h; omega)]
      by_cases c2 : c = 0
      · rw [if_pos (show nn c = (0 : Int32) by rw [c2]; rfl), if_pos (show 0 < n_left w (15 - d) ∧ (c = 0 ∨ n_left w (15 - d) < c) from ⟨by omega, Or.inl c2⟩), x_let_n]
        exact I _ z
      · rw [if_neg (show ¬ nn c = (0 : Int32) from fun h => c2 ((nn_0 (by omega)).mp h))]
        by_cases c3 : c ≤ n_left w (15 - d)
        · rw [if_pos ((nn_le (by omega) (by omega)).mpr c3), if_neg (fun h => by omega), x_let_n]
          exact I c hc
        · rw [if_neg (fun h => c3 ((nn_le (by omega) (by omega)).mp h)), if_pos (show 0 < n_left w (15 - d) ∧ (c = 0 ∨ n_left w (15 - d) < c) from ⟨by omega, Or.inr (by omega)⟩), x_let_n]
          exact I _ z
set_option maxRecDepth 16384 in
theorem v_next {u : x_H} {w : Nat → Nat} {B : Nat} (R : Rv (u 41) w) (F : Wf B w) : fX7_next u = some (nn (n_nx w 16 0)) := v_nx R F 16 400 0 (by omega) (by omega) (by omega)
/- what the least one is -/
set_option maxRecDepth 16384 in
theorem n_nx_is {w : Nat → Nat} : ∀ (d c : Nat), d ≤ 16 → (n_nx w d c = 0 → c = 0 ∧ ∀ r, 16 - d ≤ r → r < 16 → n_left w r = 0) ∧ (n_nx w d c ≠ 0 → (n_nx w d c = c ∨ ∃ r, 16 - d ≤ r ∧ r < 16 ∧ n_left w r = n_nx w d c) ∧ (c = 0 ∨ n_nx w d c ≤ c) ∧ ∀ r, 16 - d ≤ r → r < 16 → n_left w r = 0 ∨ n_nx w d c ≤ n_left w r) := by
  intro d
  induction d with
  | zero =>
    intro c hd
    rw [n_nx]
    exact ⟨fun h => ⟨h, fun r h1 h2 => by omega⟩, fun h => ⟨Or.inl rfl, Or.inr (Nat.le_refl _), fun r h1 h2 => by omega⟩⟩
  | succ d ih =>
    intro c hd
    rw [n_nx]
    obtain ⟨q, hq⟩ : ∃ q, q = n_left w (15 - d) := ⟨_, rfl⟩
    rw [← hq]
    have I := ih (if 0 < q ∧ (c = 0 ∨ q < c) then q else c) (by omega)
    by_cases c1 : 0 < q ∧ (c = 0 ∨ q < c)
    · rw [if_pos c1] at I ⊢
      refine ⟨fun h => ?_, fun h => ?_⟩
      · have := (I.1 h).1; omega
      · obtain ⟨i1, i2, i3⟩ := I.2 h
        refine ⟨Or.inr ?_, ?_, fun r h1 h2 => ?_⟩
        · rcases i1 with i1 | ⟨r, r1, r2, r3⟩
          · exact ⟨15 - d, by omega, by omega, by rw [← hq]; exact i1.symm⟩
          · exact ⟨r, by omega, r2, r3⟩
        · rcases i2 with i2 | i2 <;> omega
        · by_cases e : r = 15 - d
          · rw [e, ← hq]; right; rcases i2 with i2 | i2 <;> omega
          · exact i3 r (by omega) h2
    · rw [if_neg c1] at I ⊢
      refine ⟨fun h => ?_, fun h => ?_⟩
      · have k := I.1 h
        refine ⟨k.1, fun r h1 h2 => ?_⟩
        by_cases e : r = 15 - d
        · rw [e, ← hq]; have := k.1; omega
        · exact k.2 r (by omega) h2
      · obtain ⟨i1, i2, i3⟩ := I.2 h
        refine ⟨?_, i2, fun r h1 h2 => ?_⟩
        · rcases i1 with i1 | ⟨r, r1, r2, r3⟩
          · exact Or.inl i1
          · exact Or.inr ⟨r, by omega, r2, r3⟩
        · by_cases e : r = 15 - d
          · rw [e, ← hq]
            by_cases e2 : q = 0
            · exact Or.inl e2
            · right
              have e3 : ¬ (c = 0 ∨ q < c) := fun h => c1 ⟨by omega, h⟩
              rcases i2 with i2 | i2
              · exact absurd (Or.inl i2) e3
              · omega
          · exact i3 r (by omega) h2
