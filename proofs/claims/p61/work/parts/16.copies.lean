/-- what Inn.copyFrom leaves -/
def x_ic (u w : x_H) : x_H := fun k => if k = 2 ∨ (12 ≤ k ∧ k ≤ 18) then w k else u k
theorem x_Qv_conv {X : x_T} {σ τ : x_S} {sz : Nat} (h : wd X σ = wd X τ) : x_Qv X σ sz = x_Qv X τ sz := by
  unfold x_Qv x_W
  rw [h]
theorem x_ids_house {j k : Nat} (hj : j < 10) (h : (j, k) ∈ x_ids) : k < 25 := by
  rcases List.mem_append.mp h with h | h
  · obtain ⟨a, -, h2⟩ := List.mem_flatMap.mp h
    obtain ⟨b, h3, h4⟩ := List.mem_map.mp h2
    have := List.mem_range.mp h3
    cases h4
    exact this
  · simp only [x_idsO, List.mem_cons, Prod.mk.injEq, List.not_mem_nil, or_false] at h
    omega
theorem x_wd_house {X : x_T} {σ : x_S} {j : Nat} {u v : x_H} (hj : j < 10) (h : ∀ k, k < 25 → x_cell X j k (u k) = x_cell X j k (v k)) : wd X (x_sh σ j u) = wd X (x_sh σ j v) := by
  refine wd_congr (fun q hq => ?_)
  obtain ⟨q1, q2⟩ := q
  by_cases h1 : q1 = j
  · subst h1
    simp only [x_sh_eq]
    exact h q2 (x_ids_house hj hq)
  · simp only [x_sh_ne _ _ h1]
theorem x_lt25 {P : Nat → Prop} (h : P 0 ∧ P 1 ∧ P 2 ∧ P 3 ∧ P 4 ∧ P 5 ∧ P 6 ∧ P 7 ∧ P 8 ∧ P 9 ∧ P 10 ∧ P 11 ∧ P 12 ∧ P 13 ∧ P 14 ∧ P 15 ∧ P 16 ∧ P 17 ∧ P 18 ∧ P 19 ∧ P 20 ∧ P 21 ∧ P 22 ∧ P 23 ∧ P 24) : ∀ k, k < 25 → P k := by
  intro k hk
  obtain ⟨h0, h1, h2, h3, h4, h5, h6, h7, h8, h9, h10, h11, h12, h13, h14, h15, h16, h17, h18, h19, h20, h21, h22, h23, h24⟩ := h
  match k, hk with
  | 0, _ => exact h0
  | 1, _ => exact h1
  | 2, _ => exact h2
  | 3, _ => exact h3
  | 4, _ => exact h4
  | 5, _ => exact h5
  | 6, _ => exact h6
  | 7, _ => exact h7
  | 8, _ => exact h8
  | 9, _ => exact h9
  | 10, _ => exact h10
  | 11, _ => exact h11
  | 12, _ => exact h12
  | 13, _ => exact h13
  | 14, _ => exact h14
  | 15, _ => exact h15
  | 16, _ => exact h16
  | 17, _ => exact h17
  | 18, _ => exact h18
  | 19, _ => exact h19
  | 20, _ => exact h20
  | 21, _ => exact h21
  | 22, _ => exact h22
  | 23, _ => exact h23
  | 24, _ => exact h24
  | n + 25, h => exact absurd h (by omega)
theorem x_ic_eq (X : x_T) (j : Nat) (u w : x_H) {r : x_H} (h : fX3_copyFrom u w = some r) : ∀ k, k < 25 → x_cell X j k (r k) = x_cell X j k (x_ic u w k) := by
  simp only [fX3_copyFrom, x_let, Option.some.injEq] at h
  subst h
  refine x_lt25 ⟨?_, ?_, ?_, ?_, ?_, ?_, ?_, ?_, ?_, ?_, ?_, ?_, ?_, ?_, ?_, ?_, ?_, ?_, ?_, ?_, ?_, ?_, ?_, ?_, ?_⟩ <;> simp [x_ic, x_hu, x_hs, upd, x_cell]
theorem x_hc_eq (X : x_T) (j : Nat) (u w : x_H) {r : x_H} (h : fX2_copyFrom u w = some r) : ∀ k, k < 25 → x_cell X j k (r k) = x_cell X j k (w k) := by
  simp only [fX2_copyFrom, fX1_copyFrom, fX3_copyFrom, fX4_copyFrom, x_let, Option.bind_some, Option.some.injEq] at h
  subst h
  refine x_lt25 ⟨?_, ?_, ?_, ?_, ?_, ?_, ?_, ?_, ?_, ?_, ?_, ?_, ?_, ?_, ?_, ?_, ?_, ?_, ?_, ?_, ?_, ?_, ?_, ?_, ?_⟩ <;> simp [x_hu, x_hs, upd, x_cell]
theorem mX3_copyFromN (l : Launch) (X : x_T) (σ : x_S) (i j : Nat) (hi : i < 10) (hj : j < 10) (hne : i ≠ j) (sz : Nat) : Met l yX3_copyFrom (x_ws yX3_copyFrom cX3_copyFrom 2 none) rm_X3_copyFrom (x_Pc X σ sz [.ref (X.2.2 j 2), .ref (X.2.2 i 2)]) (x_Qv X (x_sh σ j (x_ic (σ j) (σ i))) sz) 0 0 (x_A X sz) := by
  have h : ∃ r, fX3_copyFrom (σ j) (σ i) = some r := ⟨_, rfl⟩
  obtain ⟨r, h⟩ := h
  have h1 := mX3_copyFrom l X σ i j hi hj hne rfl sz (σ j) r h
  rw [x_sh_self, x_Qv_conv (x_wd_house hj (x_ic_eq X j _ _ h))] at h1
  exact h1
theorem mX2_copyFromN (l : Launch) (X : x_T) (σ : x_S) (i j : Nat) (hi : i < 10) (hj : j < 10) (hne : i ≠ j) (sz : Nat) : Met l yX2_copyFrom (x_ws yX2_copyFrom cX2_copyFrom 2 none) rm_X2_copyFrom (x_Pc X σ sz [.ref (X.2.2 j 0), .ref (X.2.2 i 0)]) (x_Qv X (x_sh σ j (σ i)) sz) 0 0 (x_A X sz) := by
  have h : ∃ r, fX2_copyFrom (σ j) (σ i) = some r := ⟨_, rfl⟩
  obtain ⟨r, h⟩ := h
  have h1 := mX2_copyFrom l X σ i j hi hj hne rfl sz (σ j) r h
  rw [x_sh_self, x_Qv_conv (x_wd_house hj (x_hc_eq X j _ _ h))] at h1
  exact h1
