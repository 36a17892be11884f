/- how many rows are saved after one more -/
def n_sn (n : Nat) : Nat := if n = 6 then 6 else n + 1
/- the saved rows after one more -/
def n_sS (w : Nat → Nat) (n : Nat) (S : Nat → Nat → Nat) : Nat → Nat → Nat := fun i => if n = 6 then (if i < 5 then S (i + 1) else w) else (if i = n then w else S i)
/- where the class keeps its saved houses, the slots, the text -/
def YcS (σ : x_S) (n : Nat) (S : Nat → Nat → Nat) : Prop := σ 10 33 0 = nn n ∧ ∃ h : Nat → Nat, (∀ i, i < 6 → σ 10 34 i = nn (h i) ∧ 2 ≤ h i ∧ h i < 8) ∧ (∀ i i', i < 6 → i' < 6 → h i = h i' → i = i') ∧ ∀ i, i < n → Ru (σ (h i)) (S i)
def YcK (σ : x_S) (t : Nat → Nat) (K : Nat → Nat → Nat) : Prop := ∀ s, s < 2 → σ 10 35 s = nn (8 + s) ∧ σ 10 36 s = nn (t s) ∧ (t s = 1 → Ru (σ (8 + s)) (K s))
def YcX (σ : x_S) (l : Nat) (x : Nat → Nat) : Prop := σ 10 37 0 = nn l ∧ ∀ i, i < l → σ 10 38 i = nn (x i)
def Yc (σ : x_S) (w : Nat → Nat) (n : Nat) (S : Nat → Nat → Nat) (t : Nat → Nat) (K : Nat → Nat → Nat) (l : Nat) (x : Nat → Nat) : Prop := Ru (σ 0) w ∧ YcS σ n S ∧ YcK σ t K ∧ YcX σ l x
def Ym (m : x_H) (w : Nat → Nat) (n : Nat) (S : Nat → Nat → Nat) (t : Nat → Nat) (K : Nat → Nat → Nat) (l : Nat) (x : Nat → Nat) : Prop := Rv (m 41) w ∧ (m 40 1 = nn n ∧ ∀ i k, i < n → k < 570 → m 43 (570 * i + k) = nn (S i k)) ∧ (∀ s, s < 2 → m 45 s = nn (t s) ∧ (t s = 1 → ∀ k, k < 570 → m 44 (570 * s + k) = nn (K s k))) ∧ (m 40 2 = nn l ∧ ∀ i, i < l → m 46 i = nn (x i))
def Yn (A : Nat) (w : Nat → Nat) (n : Nat) (S : Nat → Nat → Nat) (t : Nat → Nat) (K : Nat → Nat → Nat) (l : Nat) (x : Nat → Nat) : Prop := ∃ B, Wf B w ∧ (n ≤ 6 ∧ ∀ i, i < n → Wf B (S i)) ∧ (∀ s, s < 2 → t s ≤ 1 ∧ (t s = 1 → Wf B (K s))) ∧ (l ≤ 60 ∧ ∀ i, i < l → 33 ≤ x i ∧ x i ≤ 126) ∧ 1000 ≤ B ∧ B + 600200 * l ≤ A ∧ A ≤ 700000000
/- class and model tell of the same inn -/
def Sy (A : Nat) (σ : x_S) : Prop := ∃ w n S t K l x, Yc σ w n S t K l x ∧ Ym (σ 11) w n S t K l x ∧ Yn A w n S t K l x
set_option maxRecDepth 16384 in
theorem m_save {m : x_H} {w : Nat → Nat} {n : Nat} {S : Nat → Nat → Nat} {t : Nat → Nat} {K : Nat → Nat → Nat} {l : Nat} {x : Nat → Nat} (Y : Ym m w n S t K l x) (hn : n ≤ 6) : Ok (fX7_save m) (fun m' => Ym m' w (n_sn n) (n_sS w n S) t K l x ∧ m' 40 0 = m 40 0 ∧ m' 42 = m 42) := by
  obtain ⟨Y1, ⟨Y2, Y3⟩, Y4, Y5, Y6⟩ := Y
  rw [fX7_save, Y2]
  by_cases h6 : n = 6
  · subst h6
    rw [if_pos (show nn 6 = (6 : Int32) from rfl)]
    refine Ok_mono (m_b11 2850 0 4000 m (by omega) (by omega) Y2) (fun r hr => ?_)
    obtain ⟨r1, r2, r3⟩ := hr
    refine ⟨⟨fun i hi => by rw [r1 41 i (by omega) (by omega)]; exact Y1 i hi, ⟨r2, fun i k hi hk => ?_⟩, fun s hs => ⟨by rw [r1 45 s (by omega) (by omega)]; exact (Y4 s hs).1, fun ht k hk => by rw [r1 44 _ (by omega) (by omega)]; exact (Y4 s hs).2 ht k hk⟩, by rw [r1 40 2 (by omega) (by omega)]; exact Y5, fun i hi => by rw [r1 46 i (by omega) (by omega)]; exact Y6 i hi⟩, r1 40 0 (by omega) (by omega), funext (fun i => r1 42 i (by omega) (by omega))⟩
    have hi : i < 6 := hi
    rw [r3 _ (by omega), n_sS, if_pos rfl]
    by_cases h5 : i < 5
    · rw [if_neg (by omega), if_pos (by omega), if_pos h5, show 570 + (570 * i + k) = 570 * (i + 1) + k by omega]
      exact Y3 _ _ (by omega) hk
    · rw [if_pos (by omega), if_neg h5, show 570 * i + k - 2850 = k by omega]
      exact Y1 k hk
  · rw [if_neg (show ¬ nn n = (6 : Int32) from fun h => h6 ((nn_inj (b := 6) (by omega) (by omega)).mp h)), fX7_save_j50]
    refine Ok_mono (m_b52 (n := n) (by omega) 570 0 4000 m (by omega) (by omega) Y2) (fun r hr => ?_)
    obtain ⟨r1, r2, r3⟩ := hr
    refine ⟨⟨fun i hi => by rw [r1 41 i (by omega) (by omega)]; exact Y1 i hi, ⟨by rw [r2, n_sn, if_neg h6], fun i k hi hk => ?_⟩, fun s hs => ⟨by rw [r1 45 s (by omega) (by omega)]; exact (Y4 s hs).1, fun ht k hk => by rw [r1 44 _ (by omega) (by omega)]; exact (Y4 s hs).2 ht k hk⟩, by rw [r1 40 2 (by omega) (by omega)]; exact Y5, fun i hi => by rw [r1 46 i (by omega) (by omega)]; exact Y6 i hi⟩, r1 40 0 (by omega) (by omega), funext (fun i => r1 42 i (by omega) (by omega))⟩
    rw [n_sn, if_neg h6] at hi
    rw [r3, n_sS, if_neg h6]
    by_cases h5 : i = n
    · rw [if_pos (by omega), if_pos h5, h5, show 570 * n + k - 570 * n = k by omega]
      exact Y1 k hk
    · rw [if_neg (by omega), if_neg h5]
      exact Y3 _ _ (by omega) hk
set_option maxRecDepth 16384 in
theorem c_b9 {y : Int32} (hy : y.toNatClampNeg < 10) : ∀ (d p N : Nat) (σ : x_S), p + d = 6 → d < N → 1 ≤ p → (∀ i, i < 6 → (σ 10 34 i).toNatClampNeg < 10) → Ok (fX5_dropOldest_b9 N σ y (nn p)) (fun τ => (∀ j, j ≠ 10 → τ j = σ j) ∧ (∀ k i, k ≠ 33 → k ≠ 34 → τ 10 k i = σ 10 k i) ∧ τ 10 33 0 = nn 5 ∧ ∀ i, i < 6 → τ 10 34 i = if i = 5 then y else if p ≤ i + 1 then σ 10 34 (i + 1) else σ 10 34 i) := by
  intro d
  induction d with
  | zero =>
    intro p N σ hp hN h1 hh
    obtain ⟨N, rfl⟩ : ∃ m, N = m + 1 := ⟨N - 1, by omega⟩
    rw [fX5_dropOldest_b9, if_pos hy, if_pos (show (6 : Int32) ≤ nn p from (nn_le (a := 6) (by omega) (by omega)).mpr (by omega))]
    refine Ok_let (fun τ1 e1 => Ok_let (fun τ e => Ok_some ?_))
    refine ⟨fun j hj => by rw [e, x_sh_ne _ _ hj, e1, x_sh_ne _ _ hj], fun k i h3 h4 => by rw [e, x_sh_eq, x_hu_ne h3, e1, x_sh_eq, x_hu_ne h4], by rw [e, x_sh_eq, x_hu_eq rfl rfl]; rfl, fun i hi => ?_⟩
    rw [e, x_sh_eq, x_hu_ne (by omega), e1, x_sh_eq]
    by_cases h5 : i = 5
    · rw [if_pos h5]; exact x_hu_eq rfl h5
    · rw [if_neg h5, if_neg (by omega), x_hu_ni (show i ≠ Int32.toNatClampNeg (5 : Int32) from h5)]
  | succ d ih =>
    intro p N σ hp hN h1 hh
    obtain ⟨N, rfl⟩ : ∃ m, N = m + 1 := ⟨N - 1, by omega⟩
    rw [fX5_dropOldest_b9, if_pos hy, if_neg (fun h => by have := (nn_le (a := 6) (by omega) (by omega)).mp h; omega), if_pos (nn_in (by omega) (by omega)), nn_clamp (by omega)]
    refine Ok_let (fun x1 e1 => ?_)
    rw [if_pos (by rw [e1]; exact hh p (by omega)), show nn p - (1 : Int32) = nn (p - 1) from nn_sub (a := p) (b := 1) h1, if_pos (nn_in (by omega) (by omega)), nn_clamp (by omega), show nn p + (1 : Int32) = nn (p + 1) from nn_add p 1]
    refine Ok_let (fun τ1 e2 => ?_)
    rw [x_let_n]
    refine Ok_mono (ih (p + 1) N τ1 (by omega) (by omega) (by omega) (fun i hi => ?_)) (fun τ hτ => ?_)
    · rw [e2, x_sh_eq]
      by_cases h5 : i = p - 1
      · rw [x_hu_eq rfl h5, e1]; exact hh p (by omega)
      · rw [x_hu_ni h5]; exact hh i hi
    · obtain ⟨t1, t2, t3, t4⟩ := hτ
      refine ⟨fun j hj => by rw [t1 j hj, e2, x_sh_ne _ _ hj], fun k i h3 h4 => by rw [t2 k i h3 h4, e2, x_sh_eq, x_hu_ne h4], t3, fun i hi => ?_⟩
      rw [t4 i hi, e2, x_sh_eq]
      by_cases h5 : i = 5
      · rw [if_pos h5, if_pos h5]
      · rw [if_neg h5, if_neg h5]
        by_cases h6 : i + 1 = p
        · rw [if_neg (by omega), if_pos (by omega), x_hu_eq rfl (by omega), e1, h6]
        · by_cases h7 : p ≤ i + 1
          · rw [if_pos (by omega), if_pos h7, x_hu_ni (by omega)]
          · rw [if_neg (by omega), if_neg h7, x_hu_ni (by omega)]
set_option maxRecDepth 16384 in
theorem c_j13 {σ : x_S} {n : Nat} {h : Nat → Nat} (hn : n ≤ 5) (h1 : σ 10 33 0 = nn n) (hh : ∀ i, i < 6 → σ 10 34 i = nn (h i) ∧ 2 ≤ h i ∧ h i < 8) : Ok (fX5_push_j13 σ) (fun τ => (∀ j, j ≠ 10 → j ≠ h n → τ j = σ j) ∧ (∀ k i, k ≠ 33 → τ 10 k i = σ 10 k i) ∧ τ 10 33 0 = nn (n + 1) ∧ τ (h n) = σ 0) := by
  have g := hh n (by omega)
  rw [fX5_push_j13, h1, if_neg (show ¬ nn n < 0 from fun h => (nn_neg (by omega)).mp h), if_neg (fun h => by have := (nn_le (a := 6) (by omega) (by omega)).mp h; omega), if_pos (nn_in (by omega) (by omega)), nn_clamp (by omega), g.1, x_let_n, nn_clamp (by omega), if_pos (by omega), if_pos (by omega)]
  refine Ok_let (fun τ1 e1 => Ok_let (fun τ e => Ok_some ?_))
  have e3 : τ1 10 = σ 10 := by rw [e1, x_sh_ne _ _ (by omega)]
  refine ⟨fun j hj hk => by rw [e, x_sh_ne _ _ hj, e1, x_sh_ne _ _ hk], fun k i hk => by rw [e, x_sh_eq, x_hu_ne hk, e3], ?_, by rw [e, x_sh_ne _ _ (by omega), e1, x_sh_eq]⟩
  rw [e, x_sh_eq, x_hu_eq rfl rfl, e3, h1]
  exact nn_add n 1
set_option maxRecDepth 16384 in
theorem c_push {σ : x_S} {w : Nat → Nat} {n : Nat} {S : Nat → Nat → Nat} {t : Nat → Nat} {K : Nat → Nat → Nat} {l : Nat} {x : Nat → Nat} (Y : Yc σ w n S t K l x) (hn : n ≤ 6) : Ok (fX5_push σ) (fun τ => Yc τ w (n_sn n) (n_sS w n S) t K l x ∧ τ 11 = σ 11 ∧ τ 12 = σ 12 ∧ τ 1 = σ 1) := by
  obtain ⟨Y1, ⟨Y2, h, Y3, Y4, Y5⟩, Y6, Y7, Y8⟩ := Y
  rw [fX5_push, Y2]
  by_cases h6 : n = 6
  · subst h6
    rw [if_neg (by decide), fX5_dropOldest]
    have z0 : σ 10 34 (Int32.toNatClampNeg (0 : Int32)) = nn (h 0) := (Y3 0 (by omega)).1
    have b0 := Y3 0 (by omega)
    rw [z0, x_let_n, nn_clamp (by omega), if_pos (by omega)]
    refine Ok_bind (c_b9 (y := nn (h 0)) (by rw [nn_clamp (by omega)]; omega) 5 1 400 σ (by omega) (by omega) (by omega) (fun i hi => by have := Y3 i hi; rw [this.1, nn_clamp (by omega)]; omega)) (fun τ1 hτ => ?_)
    obtain ⟨t1, t2, t3, t4⟩ := hτ
    have H : ∀ i, i < 6 → τ1 10 34 i = nn (if i = 5 then h 0 else h (i + 1)) ∧ 2 ≤ (if i = 5 then h 0 else h (i + 1)) ∧ (if i = 5 then h 0 else h (i + 1)) < 8 := by
      intro i hi
      rw [t4 i hi]
      by_cases h5 : i = 5
      · rw [if_pos h5, if_pos h5]; exact ⟨rfl, b0.2⟩
      · rw [if_neg h5, if_neg h5, if_pos (by omega)]; exact Y3 (i + 1) (by omega)
    refine Ok_mono (c_j13 (n := 5) (h := fun i => if i = 5 then h 0 else h (i + 1)) (by omega) t3 H) (fun τ hτ => ?_)
    obtain ⟨s1, s2, s3, s4⟩ := hτ
    have s4 : τ (h 0) = τ1 0 := s4
    have s1 : ∀ j, j ≠ 10 → j ≠ h 0 → τ j = τ1 j := s1
    refine ⟨⟨?_, ⟨s3, fun i => if i = 5 then h 0 else h (i + 1), ?_, ?_, ?_⟩, ?_, ?_, ?_⟩, ?_, ?_, ?_⟩
    · rw [s1 0 (by omega) (by omega), t1 0 (by omega)]; exact Y1
    · intro i hi
      rw [s2 34 i (by omega)]
      exact H i hi
    · intro i i' hi hi' e
      have e : (if i = 5 then h 0 else h (i + 1)) = (if i' = 5 then h 0 else h (i' + 1)) := e
      by_cases c1 : i = 5
      · by_cases c2 : i' = 5
        · omega
        · rw [if_pos c1, if_neg c2] at e
          have := Y4 0 (i' + 1) (by omega) (by omega) e
          omega
      · by_cases c2 : i' = 5
        · rw [if_neg c1, if_pos c2] at e
          have := Y4 (i + 1) 0 (by omega) (by omega) e
          omega
        · rw [if_neg c1, if_neg c2] at e
          have := Y4 (i + 1) (i' + 1) (by omega) (by omega) e
          omega
    · intro i hi
      have hi : i < 6 := hi
      show Ru (τ (if i = 5 then h 0 else h (i + 1))) _
      rw [n_sS, if_pos rfl]
      by_cases c1 : i = 5
      · rw [if_pos c1, if_neg (by omega), s4, t1 0 (by omega)]; exact Y1
      · have b1 := Y3 (i + 1) (by omega)
        rw [if_neg c1, if_pos (by omega), s1 _ (by omega) (fun e => by have := Y4 (i + 1) 0 (by omega) (by omega) e; omega), t1 _ (by omega)]
        exact Y5 (i + 1) (by omega)
    · intro s hs
      obtain ⟨q1, q2, q3⟩ := Y6 s hs
      refine ⟨by rw [s2 35 s (by omega), t2 35 s (by omega) (by omega)]; exact q1, by rw [s2 36 s (by omega), t2 36 s (by omega) (by omega)]; exact q2, fun ht => ?_⟩
      rw [s1 _ (by omega) (by omega), t1 _ (by omega)]
      exact q3 ht
    · rw [s2 37 0 (by omega), t2 37 0 (by omega) (by omega)]; exact Y7
    · intro i hi
      rw [s2 38 i (by omega), t2 38 i (by omega) (by omega)]; exact Y8 i hi
    · rw [s1 11 (by omega) (by omega), t1 11 (by omega)]
    · rw [s1 12 (by omega) (by omega), t1 12 (by omega)]
    · rw [s1 1 (by omega) (by omega), t1 1 (by omega)]
  · rw [if_pos (show nn n < (6 : Int32) from (nn_lt (b := 6) (by omega) (by omega)).mpr (by omega))]
    refine Ok_mono (c_j13 (h := h) (by omega) Y2 Y3) (fun τ hτ => ?_)
    obtain ⟨s1, s2, s3, s4⟩ := hτ
    have b0 := Y3 n (by omega)
    refine ⟨⟨?_, ⟨?_, h, ?_, Y4, ?_⟩, ?_, ?_, ?_⟩, ?_, ?_, ?_⟩
    · rw [s1 0 (by omega) (by omega)]; exact Y1
    · rw [s3, n_sn, if_neg h6]
    · intro i hi
      rw [s2 34 i (by omega)]
      exact Y3 i hi
    · intro i hi
      rw [n_sn, if_neg h6] at hi
      rw [n_sS, if_neg h6]
      by_cases c1 : i = n
      · rw [if_pos c1, c1, s4]; exact Y1
      · have b1 := Y3 i (by omega)
        rw [if_neg c1, s1 _ (by omega) (fun e => c1 (Y4 i n (by omega) (by omega) e))]
        exact Y5 i (by omega)
    · intro s hs
      obtain ⟨q1, q2, q3⟩ := Y6 s hs
      refine ⟨by rw [s2 35 s (by omega)]; exact q1, by rw [s2 36 s (by omega)]; exact q2, fun ht => ?_⟩
      rw [s1 _ (by omega) (by omega)]
      exact q3 ht
    · rw [s2 37 0 (by omega)]; exact Y7
    · intro i hi
      rw [s2 38 i (by omega)]; exact Y8 i hi
    · rw [s1 11 (by omega) (by omega)]
    · rw [s1 12 (by omega) (by omega)]
    · rw [s1 1 (by omega) (by omega)]
