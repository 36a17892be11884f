/-! ===== the next free room, told by ticks; cases of counts ===== -/
set_option maxRecDepth 16384 in
theorem f_free {u : x_H} {r : Nat} (hr : r < 16) : Ok (fX3_free u (nn r)) (fun u' => ∀ k i, i ≠ r → (k = 12 ∨ k = 14) → u' k i = u k i) := by
  have J : ∀ z0 : Int32, Ok (fX3_dropLease_j20 u z0) (fun u' => ∀ k i, k ≠ 18 → u' k i = u k i) := by
    intro z0
    rw [fX3_dropLease_j20]
    by_cases c : z0 < 0
    · rw [if_pos c]; exact Ok_some (fun k i _ => rfl)
    · rw [if_neg c]
      by_cases c2 : (12 : Int32) ≤ z0
      · rw [if_pos c2]; exact Ok_some (fun k i _ => rfl)
      · rw [if_neg c2]
        rcases nn_cases z0 with h | ⟨n, hn, rfl⟩
        · exact absurd h c
        · have h12 : n < 12 := Nat.lt_of_not_le (fun h => c2 ((nn_le (a := 12) (by omega) hn).mpr h))
          rw [if_pos (nn_in hn h12)]
          exact Ok_let (fun u6 e6 => Ok_some (fun k i hk => by rw [e6, x_hu_ne hk]))
  rw [fX3_free, u_isRoom hr, xb_some, if_neg nn_one]
  refine Ok_bind (T := fun u' => ∀ k i, k ≠ 18 → u' k i = u k i) ?_ (fun u4 h4 => ?_)
  · rw [fX3_dropLease, if_pos (nn_in (by omega) hr)]
    split
    · exact J _
    · exact J _
  · rw [if_pos (nn_in (by omega) hr), nn_clamp (by omega)]
    exact Ok_let (fun u6 e6 => Ok_let (fun u9 e9 => Ok_let (fun u11 e11 => Ok_some (fun k i hi hk => by rw [e11, x_hu_ni hi, e9, x_hu_ni hi, e6, x_hu_ni hi, h4 k i (by omega)]))))
/- a house whose rooms, from some place on, are the row's -/
def Fi (u : x_H) (w : Nat → Nat) (a : Nat) : Prop := ∀ r, a ≤ r → r < 16 → u 12 r = nn (w (96 + 6 * r)) ∧ (w (96 + 6 * r) ≠ 0 → u 14 r = nn (w (96 + 6 * r + 1)))
set_option maxRecDepth 16384 in
theorem f_ended {w : Nat → Nat} {B t : Nat} (F : Wf B w) (ht : t < 2147483648) : ∀ (d n : Nat) (u : x_H) (c : Nat), Fi u w (16 - d) → d ≤ 16 → d < n → Ok (fX3_freeEnded_b4 n u (nn t) (nn c) (nn (16 - d))) (fun q => ∃ e, q.1 = nn (c + e) ∧ e ≤ d ∧ ((e = 0 ∧ q.2 = u ∧ ∀ r, 16 - d ≤ r → r < 16 → w (96 + 6 * r) = 0 ∨ t < w (96 + 6 * r + 1)) ∨ (0 < e ∧ ∃ r, r < 16 ∧ w (96 + 6 * r) ≠ 0 ∧ w (96 + 6 * r + 1) ≤ t))) := by
  intro d
  induction d with
  | zero =>
    intro n u c I hd hn
    obtain ⟨n, rfl⟩ : ∃ m, n = m + 1 := ⟨n - 1, by omega⟩
    rw [fX3_freeEnded_b4, if_pos (by decide)]
    exact Ok_some ⟨0, rfl, Nat.le_refl _, Or.inl ⟨rfl, rfl, fun r h1 h2 => by omega⟩⟩
  | succ d ih =>
    intro n u c I hd hn
    obtain ⟨n, rfl⟩ : ∃ m, n = m + 1 := ⟨n - 1, by omega⟩
    obtain ⟨r, hr⟩ : ∃ r, r = 16 - (d + 1) := ⟨_, rfl⟩
    have hn1 : 16 - d = r + 1 := by omega
    have hr16 : r < 16 := by omega
    rw [← hr] at I
    have IH := fun u c I => ih n u c I (by omega) (by omega)
    rw [hn1] at IH
    obtain ⟨i1, i2⟩ := I r (Nat.le_refl _) hr16
    have z := F.1.2.1.1 r hr16
    have b0 := F.2.2.1
    have b1 := F.2.2.2 (96 + 6 * r + 1)
    have I1 : Fi u w (r + 1) := fun r' h1 h2 => I r' (by omega) h2
    rw [fX3_freeEnded_b4, ← hr, if_neg (fun h => by have := (nn_le (a := 16) (by omega) (by omega)).mp h; omega), if_pos (nn_in (by omega) hr16), nn_clamp (by omega), i1, show nn r + (1 : Int32) = nn (r + 1) from nn_add r 1]
    have K : (w (96 + 6 * r) = 0 ∨ t < w (96 + 6 * r + 1)) → Ok (fX3_freeEnded_b4 n u (nn t) (nn c) (nn (r + 1))) (fun q => ∃ e, q.1 = nn (c + e) ∧ e ≤ d + 1 ∧ ((e = 0 ∧ q.2 = u ∧ ∀ r', r ≤ r' → r' < 16 → w (96 + 6 * r') = 0 ∨ t < w (96 + 6 * r' + 1)) ∨ (0 < e ∧ ∃ r, r < 16 ∧ w (96 + 6 * r) ≠ 0 ∧ w (96 + 6 * r + 1) ≤ t))) := by
      intro hk
      refine Ok_mono (IH u c I1) (fun q hq => ?_)
      obtain ⟨e, e1, e2, e3⟩ := hq
      refine ⟨e, e1, by omega, ?_⟩
      rcases e3 with ⟨a1, a2, a3⟩ | h
      · refine Or.inl ⟨a1, a2, fun r' h1 h2 => ?_⟩
        by_cases c : r' = r
        · rw [c]; exact hk
        · exact a3 r' (by omega) h2
      · exact Or.inr h
    by_cases c1 : w (96 + 6 * r) = 0
    · rw [if_pos (show nn (w (96 + 6 * r)) = (0 : Int32) by rw [c1]; rfl), x_let_n]
      exact K (Or.inl c1)
    · rw [if_neg (show ¬ nn (w (96 + 6 * r)) = (0 : Int32) from fun h => c1 ((nn_0 (by omega)).mp h)), i2 c1]
      by_cases c2 : t < w (96 + 6 * r + 1)
      · rw [if_pos ((nn_lt ht (by omega)).mpr c2), x_let_n]
        exact K (Or.inr c2)
      · rw [if_neg (fun h => c2 ((nn_lt ht (by omega)).mp h))]
        refine Ok_bind (f_free hr16) (fun u1 h1 => ?_)
        rw [show nn c + (1 : Int32) = nn (c + 1) from nn_add c 1, x_let_n, x_let_n]
        refine Ok_mono (IH u1 (c + 1) (fun r' h2 h3 => ?_)) (fun q hq => ?_)
        · rw [h1 12 r' (by omega) (Or.inl rfl), h1 14 r' (by omega) (Or.inr rfl)]
          exact I r' (by omega) h3
        · obtain ⟨e, e1, e2, e3⟩ := hq
          exact ⟨e + 1, by rw [e1]; congr 1; omega, by omega, Or.inr ⟨by omega, r, hr16, c1, by omega⟩⟩
set_option maxRecDepth 16384 in
theorem f_freeEnded {w : Nat → Nat} {B t : Nat} {u : x_H} (F : Wf B w) (ht : t < 2147483648) (I : Fi u w 0) : Ok (fX3_freeEnded u (nn t)) (fun q => ∃ e, q.1 = nn e ∧ e ≤ 16 ∧ ((e = 0 ∧ q.2 = u ∧ ∀ r, r < 16 → w (96 + 6 * r) = 0 ∨ t < w (96 + 6 * r + 1)) ∨ (0 < e ∧ ∃ r, r < 16 ∧ w (96 + 6 * r) ≠ 0 ∧ w (96 + 6 * r + 1) ≤ t))) := by
  refine Ok_mono (f_ended F ht 16 400 u 0 I (by omega) (by omega)) (fun q hq => ?_)
  obtain ⟨e, e1, e2, e3⟩ := hq
  rw [Nat.zero_add] at e1
  refine ⟨e, e1, e2, ?_⟩
  rcases e3 with ⟨a1, a2, a3⟩ | h
  · exact Or.inl ⟨a1, a2, fun r h => a3 r (by omega) h⟩
  · exact Or.inr h
set_option maxRecDepth 16384 in
theorem n_nx_0 {w : Nat → Nat} {B : Nat} (F : Wf B w) (h : ∀ r, r < 16 → w (96 + 6 * r) = 0) : n_nx w 16 0 = 0 := by
  refine Decidable.byContradiction (fun c => ?_)
  obtain ⟨i1, -, -⟩ := (n_nx_is (w := w) 16 0 (by omega)).2 c
  rcases i1 with i1 | ⟨r, -, r2, r3⟩
  · exact c i1
  · rw [n_left, if_pos (h r r2)] at r3
    exact c r3.symm
set_option maxRecDepth 16384 in
theorem n_left_pos {w : Nat → Nat} {B : Nat} (F : Wf B w) {r : Nat} (hr : r < 16) (h : w (96 + 6 * r) ≠ 0) : n_left w r = w (96 + 6 * r + 1) - w 554 ∧ w 554 < w (96 + 6 * r + 1) := ⟨if_neg h, F.2.1.2 r hr h⟩
set_option maxRecDepth 16384 in
theorem c_b19 {w : Nat → Nat} {B : Nat} (F : Wf B w) : ∀ (d j N : Nat) (τ : x_S), j + d = 201 → 1 ≤ j → d < N → Fi (τ 1) w 0 → τ 0 0 0 = nn (w 554) → (∀ r, r < 16 → w (96 + 6 * r) = 0 ∨ j ≤ n_left w r) → Ok (fX6_tryTicksUntilFree_b19 N τ (nn j)) (fun q => q.1 = nn (n_nx w 16 0) ∧ ∀ i, i ≠ 1 → q.2 i = τ i) := by
  intro d
  induction d with
  | zero =>
    intro j N τ hj h1 hN I h0 H
    obtain ⟨N, rfl⟩ : ∃ m, N = m + 1 := ⟨N - 1, by omega⟩
    rw [fX6_tryTicksUntilFree_b19, if_pos (show (200 : Int32) < nn j from (nn_lt (a := 200) (by omega) (by omega)).mpr (by omega)), n_nx_0 F (fun r hr => ?_)]
    · exact Ok_some ⟨rfl, fun i _ => rfl⟩
    · rcases H r hr with h | h
      · exact h
      · have := n_left_le F.1 hr; omega
  | succ d ih =>
    intro j N τ hj h1 hN I h0 H
    obtain ⟨N, rfl⟩ : ∃ m, N = m + 1 := ⟨N - 1, by omega⟩
    have b0 := F.2.2.1
    have b1 := F.2.2.2 554
    rw [fX6_tryTicksUntilFree_b19, if_neg (show ¬ (200 : Int32) < nn j from fun h => by have := (nn_lt (a := 200) (by omega) (by omega)).mp h; omega), h0, nn_add]
    refine Ok_bind (f_freeEnded F (by omega) I) (fun q hq => Ok_let (fun τ6 e6 => ?_))
    obtain ⟨e, e1, e2, e3⟩ := hq
    rw [e1]
    rcases e3 with ⟨a1, a2, a3⟩ | ⟨a1, r, r1, r2, r3⟩
    · rw [if_pos (show nn e ≤ (0 : Int32) by rw [a1]; decide), show nn j + (1 : Int32) = nn (j + 1) from nn_add j 1, x_let_n]
      have t0 : ∀ i, τ6 i = τ i := fun i => by
        rw [e6]
        by_cases c : i = 1
        · rw [c, x_sh_eq, a2]
        · rw [x_sh_ne _ _ c]
      refine Ok_mono (ih (j + 1) N τ6 (by omega) (by omega) (by omega) (by rw [t0]; exact I) (by rw [t0]; exact h0) (fun r hr => ?_)) (fun q hq => ⟨hq.1, fun i hi => by rw [hq.2 i hi, t0]⟩)
      rcases a3 r hr with h | h
      · exact Or.inl h
      · by_cases c : w (96 + 6 * r) = 0
        · exact Or.inl c
        · have := n_left_pos F hr c
          right; omega
    · rw [if_neg (show ¬ nn e ≤ (0 : Int32) from fun h => by have := (nn_le (b := 0) (by omega) (by omega)).mp h; omega)]
      have n1 := n_left_pos F r1 r2
      have n2 := H r r1
      have n3 := (n_nx_is (w := w) 16 0 (by omega))
      have c : n_nx w 16 0 ≠ 0 := fun h => by
        have q := (n3.1 h).2 r (Nat.zero_le r) r1
        clear n3
        omega
      obtain ⟨i1, -, i3⟩ := n3.2 c
      have i4 := i3 r (Nat.zero_le r) r1
      clear n3 i3
      have i5 : j ≤ n_nx w 16 0 := by
        rcases i1 with i1 | ⟨r', -, q2, q3⟩
        · exact absurd i1 c
        · rcases H r' q2 with h | h
          · rw [n_left, if_pos h] at q3; omega
          · omega
      refine Ok_some ⟨?_, fun i hi => ?_⟩
      · show nn j = _
        clear i1
        congr 1
        omega
      · show τ6 i = _
        rw [e6, x_sh_ne _ _ hi]
set_option maxRecDepth 16384 in
theorem c_tryTicks {w : Nat → Nat} {B : Nat} {σ : x_S} (F : Wf B w) (R : Ru (σ 0) w) : Ok (fX6_tryTicksUntilFree σ) (fun q => q.1 = nn (n_nx w 16 0) ∧ ∀ i, i ≠ 1 → q.2 i = σ i) := by
  rw [fX6_tryTicksUntilFree]
  refine Ok_let (fun τ1 e1 => ?_)
  refine Ok_mono (c_b19 F 200 1 400 τ1 (by omega) (by omega) (by omega) (fun r h1 h2 => ?_) ?_ (fun r hr => ?_)) (fun q hq => ⟨hq.1, fun i hi => by rw [hq.2 i hi, e1, x_sh_ne _ _ hi]⟩)
  · rw [e1, x_sh_eq]
    have e : ∀ k, k = 12 ∨ k = 14 → x_ic (σ 1) (σ 0) k = σ 0 k := fun k hk => if_pos (by omega)
    rw [e 12 (by omega), e 14 (by omega)]
    exact ⟨(R.2.1 r h2).1, (R.2.1 r h2).2.2.1⟩
  · rw [e1, x_sh_ne _ _ (by omega)]; exact R.2.2.2.2.2.1.1
  · by_cases c : w (96 + 6 * r) = 0
    · exact Or.inl c
    · have := n_left_pos F hr c
      right; omega
section
variable {A n l : Nat} {σ τ : x_S} {m m' : x_H} {w w' : Nat → Nat} {S K : Nat → Nat → Nat} {t x : Nat → Nat}
/- what would be, told on the trial -/
set_option maxRecDepth 16384 in
theorem c_try {B : Nat} (Y : Yc σ w n S t K l x) (hn : n ≤ 6) (F : Wf B w) (h9 : B + 400000 ≤ 1000000000) : Ok (fX6_tryDeliveringAll σ) (fun r => r.1 = nn (n_each w).1 ∧ Ru (r.2 1) (n_each w).2 ∧ ∀ i, i ≠ 1 → r.2 i = σ i) := by
  rw [fX6_tryDeliveringAll]
  refine Ok_let (fun τ1 e1 => ?_)
  have e2 : τ1 1 = σ 0 := by rw [e1, x_sh_eq]
  rw [e2]
  refine Ok_bind (u_deliverEach Y.1 F h9) (fun u hu => Ok_let (fun τ5 e5 => Ok_some ⟨hu.1, ?_, fun i hi => ?_⟩))
  · show Ru (τ5 1) _
    rw [e5, x_sh_eq]; exact hu.2
  · show τ5 i = _
    rw [e5, x_sh_ne _ _ hi, e1, x_sh_ne _ _ hi]
set_option maxRecDepth 16384 in
theorem Yc_1 (Y : Yc σ w n S t K l x) (hn : n ≤ 6) (h : ∀ i, i ≠ 1 → τ i = σ i) : Yc τ w n S t K l x := Yc_of Y hn (h 0 (by omega)) (fun j j1 j2 => h j (by omega)) (fun k i _ => by rw [h 10 (by omega)])
set_option maxRecDepth 16384 in
theorem Ym_42 (M : Ym m w n S t K l x) (v : x_V) : Ym (x_hs m 42 v) w n S t K l x := Ym_of M (fun k i k1 k2 k3 => by rw [x_hs_ne _ _ k3]) (by rw [x_hs_ne _ _ (by omega)]) (by rw [x_hs_ne _ _ (by omega)])
end
set_option maxRecDepth 16384 in
theorem s_28 {A : Nat} {σ : x_S} (Y : Sy A σ) (hA : A + 1300000 ≤ 700000000) (a a2 : Int32) : Ok (gL_28 σ a a2) (Sy (A + 1300000)) := by
  obtain ⟨w, n, S, t, K, l, x, Y, M, N⟩ := Y
  obtain ⟨B, F, ⟨hn, hS⟩, hK, hx, b1, b2, b3⟩ := id N
  have hm := F.1.2.2.1.2
  have NA := Yn_up N (show A ≤ A + 1300000 by omega) hA
  have NS := Yn_save N
  refine gD_val (M := fun m => fX7_housed m) (nn (n_hs 12 w)) ?_ Y NA ?_
  · rw [fX6_housed, u_inRooms Y.1.1 F.1.1, xb_some]
  · show Ok (fX7_housed (σ 11)) _
    rw [fX7_housed]
    refine Ok_let (fun u0 e0 => ?_)
    have M0 : Ym u0 w n S t K l x := by rw [e0]; exact Ym_rf M _
    rw [v_inRooms M0.1 F.1.1, xb_some]
    exact Ok_some ⟨rfl, M0⟩
set_option maxRecDepth 16384 in
theorem s_35 {A : Nat} {σ : x_S} (Y : Sy A σ) (hA : A + 1300000 ≤ 700000000) (a a2 : Int32) : Ok (gL_35 σ a a2) (Sy (A + 1300000)) := by
  obtain ⟨w, n, S, t, K, l, x, Y, M, N⟩ := Y
  obtain ⟨B, F, ⟨hn, hS⟩, hK, hx, b1, b2, b3⟩ := id N
  have hm := F.1.2.2.1.2
  have NA := Yn_up N (show A ≤ A + 1300000 by omega) hA
  have NS := Yn_save N
  refine gD_val (M := fun m => fX7_leasedByRooms m) (nn (n_cn w 2 16)) ?_ Y NA ?_
  · rw [fX6_leasedByRooms, show (2 : Int32) = nn 2 from rfl, u_rooms Y.1.2.1 F.1 (by omega), xb_some]
  · show Ok (fX7_leasedByRooms (σ 11)) _
    rw [fX7_leasedByRooms]
    refine Ok_let (fun u0 e0 => ?_)
    have M0 : Ym u0 w n S t K l x := by rw [e0]; exact Ym_rf M _
    rw [show (2 : Int32) = nn 2 from rfl, v_rooms2 M0.1 F.1 (by omega), xb_some]
    exact Ok_some ⟨rfl, M0⟩
set_option maxRecDepth 16384 in
theorem s_36 {A : Nat} {σ : x_S} (Y : Sy A σ) (hA : A + 1300000 ≤ 700000000) (a a2 : Int32) : Ok (gL_36 σ a a2) (Sy (A + 1300000)) := by
  obtain ⟨w, n, S, t, K, l, x, Y, M, N⟩ := Y
  obtain ⟨B, F, ⟨hn, hS⟩, hK, hx, b1, b2, b3⟩ := id N
  have hm := F.1.2.2.1.2
  have NA := Yn_up N (show A ≤ A + 1300000 by omega) hA
  have NS := Yn_save N
  refine gD_val (M := fun m => fX7_leasedByGuests m) (nn (n_cn w 2 16)) ?_ Y NA ?_
  · rw [fX6_leasedByGuests, u_leased Y.1.2.2.1 F.1, xb_some]
  · show Ok (fX7_leasedByGuests (σ 11)) _
    rw [fX7_leasedByGuests]
    refine Ok_let (fun u0 e0 => ?_)
    have M0 : Ym u0 w n S t K l x := by rw [e0]; exact Ym_rf M _
    rw [show (2 : Int32) = nn 2 from rfl, v_rooms2 M0.1 F.1 (by omega), xb_some]
    exact Ok_some ⟨rfl, M0⟩
set_option maxRecDepth 16384 in
theorem s_37 {A : Nat} {σ : x_S} (Y : Sy A σ) (hA : A + 1300000 ≤ 700000000) (a a2 : Int32) : Ok (gL_37 σ a a2) (Sy (A + 1300000)) := by
  obtain ⟨w, n, S, t, K, l, x, Y, M, N⟩ := Y
  obtain ⟨B, F, ⟨hn, hS⟩, hK, hx, b1, b2, b3⟩ := id N
  have hm := F.1.2.2.1.2
  have NA := Yn_up N (show A ≤ A + 1300000 by omega) hA
  have NS := Yn_save N
  refine gD_val (M := fun m => fX7_freeRooms m) (nn (n_cn w 0 16)) ?_ Y NA ?_
  · rw [fX6_freeRooms, show (0 : Int32) = nn 0 from rfl, u_rooms Y.1.2.1 F.1 (by omega), xb_some]
  · show Ok (fX7_freeRooms (σ 11)) _
    rw [fX7_freeRooms]
    refine Ok_let (fun u0 e0 => ?_)
    have M0 : Ym u0 w n S t K l x := by rw [e0]; exact Ym_rf M _
    rw [show fX7_rooms u0 (0 : Int32) = some (nn (n_cn w 0 16)) from v_rooms2 M0.1 F.1 (s := 0) (by omega), xb_some]
    exact Ok_some ⟨rfl, M0⟩
set_option maxRecDepth 16384 in
theorem n_nx_le {w : Nat → Nat} {B : Nat} (F : Wf B w) : n_nx w 16 0 ≤ 200 := by
  by_cases c : n_nx w 16 0 = 0
  · omega
  · obtain ⟨i1, -, -⟩ := (n_nx_is (w := w) 16 0 (by omega)).2 c
    rcases i1 with i1 | ⟨r, -, r2, r3⟩
    · omega
    · rw [← r3]; exact n_left_le F.1 r2
set_option maxRecDepth 16384 in
theorem s_38 {A : Nat} {σ : x_S} (Y : Sy A σ) (hA : A + 1300000 ≤ 700000000) (a a2 : Int32) : Ok (gL_38 σ a a2) (Sy (A + 1300000)) := by
  obtain ⟨w, n, S, t, K, l, x, Y, M, N⟩ := Y
  obtain ⟨B, F, ⟨hn, hS⟩, hK, hx, b1, b2, b3⟩ := id N
  have hm := F.1.2.2.1.2
  have NA := Yn_up N (show A ≤ A + 1300000 by omega) hA
  have NS := Yn_save N
  show Ok (gI (fL_nextFreeByRooms σ) (fun m => fX7_nextFreeByRooms m)) _
  unfold fL_nextFreeByRooms
  have M0 := Ym_rf M (0 : Int32)
  have et : σ 0 0 0 = nn (w 554) := Y.1.2.2.2.2.2.1.1
  have z := n_nx_le F
  by_cases c : n_nx w 16 0 = 0
  · refine gI_exc (2 : Nat) 1 ?_ rfl (by omega) (by omega) Y NA ?_
    · rw [eX6_nextFreeByRooms, et, u_next Y.1 F, xb_some, c, if_pos (show nn 0 ≤ (0 : Int32) by decide), er0, xo_some]
    · show Ok (fX7_nextFreeByRooms (σ 11)) _
      rw [fX7_nextFreeByRooms, v_next M.1 F, xb_some, if_pos (show nn (n_nx w 16 0) = (0 : Int32) by rw [c]; rfl), rf1, xb_some, if_neg nn_one]
      exact Ok_some ⟨rfz (σ 11) (1 : Int32), Ym_rf M _⟩
  · have d : ¬ nn (n_nx w 16 0) ≤ (0 : Int32) := fun h => by have := (nn_le (b := 0) (by omega) (by omega)).mp h; omega
    refine gI_qry (nn (n_nx w 16 0)) ?_ ?_ Y NA ?_
    · rw [eX6_nextFreeByRooms, et, u_next Y.1 F, xb_some, if_neg d, er1, xo_none, fr1, xb_some]
    · rw [fX6_nextFreeByRooms, et, u_next Y.1 F, xb_some, if_neg d, fr1, xb_some]
    · show Ok (fX7_nextFreeByRooms (σ 11)) _
      rw [fX7_nextFreeByRooms, v_next M.1 F, xb_some, if_neg (show ¬ nn (n_nx w 16 0) = (0 : Int32) from fun h => c ((nn_0 (by omega)).mp h)), rf0, xb_some, if_pos rfl, v_next M0.1 F, xb_some]
      exact Ok_some ⟨rfl, rfz (σ 11) (0 : Int32), M0⟩
set_option maxRecDepth 16384 in
theorem s_39 {A : Nat} {σ : x_S} (Y : Sy A σ) (hA : A + 1300000 ≤ 700000000) (a a2 : Int32) : Ok (gL_39 σ a a2) (Sy (A + 1300000)) := by
  obtain ⟨w, n, S, t, K, l, x, Y, M, N⟩ := Y
  obtain ⟨B, F, ⟨hn, hS⟩, hK, hx, b1, b2, b3⟩ := id N
  have hm := F.1.2.2.1.2
  have NA := Yn_up N (show A ≤ A + 1300000 by omega) hA
  have NS := Yn_save N
  show Ok (gI (fL_nextFreeByTicks σ) (fun m => fX7_nextFreeByTicks m)) _
  unfold fL_nextFreeByTicks
  have M0 := Ym_rf M (0 : Int32)
  have z := n_nx_le F
  obtain ⟨⟨q, τ⟩, e, h1, h2⟩ := c_tryTicks F Y.1
  have g1 : q = nn (n_nx w 16 0) := h1
  have g2 : ∀ i, i ≠ 1 → τ i = σ i := h2
  clear h1 h2
  subst g1
  have Y2 : Yc τ w n S t K l x := Yc_1 Y hn g2
  have t11 : τ 11 = σ 11 := g2 11 (by omega)
  by_cases c : n_nx w 16 0 = 0
  · have hM : Ok (fX7_nextFreeByTicks (τ 11)) (fun r => r.2 40 0 = nn 1 ∧ Ym r.2 w n S t K l x) := by
      rw [t11, fX7_nextFreeByTicks, v_next M.1 F, xb_some, if_pos (show nn (n_nx w 16 0) = (0 : Int32) by rw [c]; rfl), rf1, xb_some, if_neg nn_one]
      exact Ok_some ⟨rfz (σ 11) (1 : Int32), Ym_rf M _⟩
    refine gI_exc (σ := τ) (2, τ) 1 ?_ rfl (by omega) (by omega) Y2 NA hM
    rw [eX6_nextFreeByTicks, e, xb_some, if_pos (show nn (n_nx w 16 0) ≤ (0 : Int32) by rw [c]; decide), er0, xo_some]
  · have d : ¬ nn (n_nx w 16 0) ≤ (0 : Int32) := fun h => by have := (nn_le (b := 0) (by omega) (by omega)).mp h; omega
    refine gI_val (σ := σ) (nn (n_nx w 16 0)) ?_ ?_ NA ?_
    · rw [eX6_nextFreeByTicks, e, xb_some, if_neg d, er1, xo_none, fr1, xb_some]
    · rw [fX6_nextFreeByTicks, e, xb_some, if_neg d, fr1, xb_some]
      exact Ok_some ⟨rfl, Y2, t11⟩
    · show Ok (fX7_nextFreeByTicks (σ 11)) _
      rw [fX7_nextFreeByTicks, v_next M.1 F, xb_some, if_neg (show ¬ nn (n_nx w 16 0) = (0 : Int32) from fun h => c ((nn_0 (by omega)).mp h)), rf0, xb_some, if_pos rfl, v_next M0.1 F, xb_some]
      exact Ok_some ⟨rfl, rfz (σ 11) (0 : Int32), M0⟩
set_option maxRecDepth 16384 in
theorem s_54 {A : Nat} {σ : x_S} (Y : Sy A σ) (hA : A + 1300000 ≤ 700000000) (a a2 : Int32) : Ok (gL_54 σ a a2) (Sy (A + 1300000)) := by
  obtain ⟨w, n, S, t, K, l, x, Y, M, N⟩ := Y
  obtain ⟨B, F, ⟨hn, hS⟩, hK, hx, b1, b2, b3⟩ := id N
  have hm := F.1.2.2.1.2
  have NA := Yn_up N (show A ≤ A + 1300000 by omega) hA
  have NS := Yn_save N
  refine gC_val (C := fX6_wouldDeliver σ) (M := fun m => fX7_wouldDeliver m) (σ := σ) (nn (n_each w).1) ?_ NA ?_
  · rw [fX6_wouldDeliver]
    refine Ok_bind (c_try Y hn F (by omega)) (fun r hr => Ok_some ⟨hr.1, Yc_1 Y hn hr.2.2, hr.2.2 11 (by omega)⟩)
  · show Ok (fX7_wouldDeliver (σ 11)) _
    rw [fX7_wouldDeliver]
    refine Ok_let (fun u1 e1 => Ok_let (fun u3 e3 => ?_))
    have M1 : Ym u1 w n S t K l x := by rw [e1]; exact Ym_rf M _
    have M3 : Ym u3 w n S t K l x := by rw [e3]; exact Ym_42 M1 _
    have R3 : Rv (u3 42) w := by rw [e3, x_hs_eq]; exact M1.1
    refine Ok_bind (v_each R3 F (by omega)).1 (fun q hq => Ok_let (fun u7 e7 => Ok_some ⟨hq.1, ?_⟩))
    show Ym u7 _ _ _ _ _ _ _
    rw [e7]; exact Ym_42 M3 _
set_option maxRecDepth 16384 in
theorem s_55 {A : Nat} {σ : x_S} (Y : Sy A σ) (hA : A + 1300000 ≤ 700000000) (a a2 : Int32) : Ok (gL_55 σ a a2) (Sy (A + 1300000)) := by
  obtain ⟨w, n, S, t, K, l, x, Y, M, N⟩ := Y
  obtain ⟨B, F, ⟨hn, hS⟩, hK, hx, b1, b2, b3⟩ := id N
  have hm := F.1.2.2.1.2
  have NA := Yn_up N (show A ≤ A + 1300000 by omega) hA
  have NS := Yn_save N
  have E := v_each M.1 F (by omega)
  refine gC_val (C := fX6_wouldHouse σ) (M := fun m => fX7_wouldHouse m) (σ := σ) (nn (n_hs 12 (n_each w).2)) ?_ NA ?_
  · rw [fX6_wouldHouse]
    refine Ok_bind (c_try Y hn F (by omega)) (fun r hr => ?_)
    rw [u_inRooms hr.2.1.1 E.2.1.1.1, xb_some]
    exact Ok_some ⟨rfl, Yc_1 Y hn hr.2.2, hr.2.2 11 (by omega)⟩
  · show Ok (fX7_wouldHouse (σ 11)) _
    rw [fX7_wouldHouse]
    refine Ok_let (fun u1 e1 => Ok_let (fun u3 e3 => ?_))
    have M1 : Ym u1 w n S t K l x := by rw [e1]; exact Ym_rf M _
    have M3 : Ym u3 w n S t K l x := by rw [e3]; exact Ym_42 M1 _
    have R3 : Rv (u3 42) w := by rw [e3, x_hs_eq]; exact M1.1
    refine Ok_bind (v_each R3 F (by omega)).1 (fun q hq => Ok_let (fun u7 e7 => ?_))
    have R7 : Rv (u7 42) (n_each w).2 := by rw [e7, x_hs_eq]; exact hq.2
    rw [v_inRooms R7 E.2.1.1.1, xb_some]
    refine Ok_some ⟨rfl, ?_⟩
    show Ym u7 _ _ _ _ _ _ _
    rw [e7]; exact Ym_42 M3 _
