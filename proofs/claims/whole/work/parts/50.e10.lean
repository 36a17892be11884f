/- a row in the middle of a tick: sizes alone, and its time -/
def Wm (B : Nat) (w : Nat → Nat) : Prop := Wz w ∧ Wb B w
set_option maxRecDepth 16384 in
theorem Wm.t {B : Nat} {w : Nat → Nat} (h : Wm B w) (h9 : B + 200 ≤ 1000000000) : Wt (B + 200) w := by
  obtain ⟨Z, hB⟩ := h
  refine ⟨h9, fun g hg => ?_, fun r hr => ?_, Z.2.2.1.2, by have := hB.2 554; omega⟩
  · have := Z.1 g hg; omega
  · have := Z.2.1.1 r hr
    have := hB.2 (96 + 6 * r + 1)
    omega
set_option maxRecDepth 16384 in
theorem Wm_want {B : Nat} {w : Nat → Nat} (F : Wm B w) {g : Nat} (hg : g < 12) (h9 : B + 500 ≤ 1000000000) : Wm (B + 500) (n_want w g) := by
  obtain ⟨Z, hB⟩ := F
  have hm := Z.2.2.1.2
  have zg := Z.1 g hg
  have e3 := n_post_no (w := w) (k := 2) (g := g) (r := w (8 * g + 1)) (a := 0) (t := 0) (by omega) hm
  have e4 := n_post_hi (w := w) (k := 2) (g := g) (r := w (8 * g + 1)) (a := 0) (t := 0) (by omega) hm (i := 554) (by omega) (by omega) (by omega)
  have b3 := hB.2 553
  have b4 := hB.2 554
  have hB2 := Wb_up hB (B' := B + 499) (by omega) (by omega)
  unfold n_want
  refine ⟨?_, ?_⟩
  · refine Wz_g (Wz_g (Wz_post Z (by omega) hg zg.2.1 (by omega) (by omega)) hg (by omega) (by rw [e3]; omega)) hg (by omega) ?_
    rw [nu_ne1 (by omega), e4]
    omega
  · exact Wb_nu (Wb_nu (Wb_post hB2 (by omega) hm (by omega) (by omega) (by omega) (by omega) (by omega)) (by omega)) (by omega)
set_option maxRecDepth 16384 in
theorem Wm_out {B : Nat} {w : Nat → Nat} (F : Wm B w) {g : Nat} (hg : g < 12) (h9 : B + 500 ≤ 1000000000) : Wm (B + 500) (nu (nu w (8 * g) 0) 561 (w 561 + 1)) := by
  have b := F.2.2 561
  exact ⟨Wz_c (Wz_g (j := 0) F.1 hg (by omega) (by omega)) (by omega), Wb_nu (Wb_nu (Wb_up F.2 (by omega) h9) (by omega)) (by omega)⟩
/- the guests' part of a tick: behind it no guest of the first ones has a lease that has run out -/
set_option maxRecDepth 16384 in
theorem n_guests_in : ∀ (d B : Nat) (w : Nat → Nat), Wm B w → d ≤ 12 → B + d * 500 ≤ 1000000000 → (∀ g, g < 12 - d → w (8 * g) = 3 → w 554 < w (8 * g + 2) + w (8 * g + 3)) → (∀ r, r < 16 → w (96 + 6 * r) ≠ 0 → w 554 < w (96 + 6 * r + 1)) → Wf (B + d * 500) (n_guests d w).2 ∧ (n_guests d w).2 554 = w 554 ∧ (n_guests d w).1 ≤ d := by
  intro d
  induction d with
  | zero => intro B w F hd h9 hx hr; exact ⟨⟨F.1, ⟨hx, hr⟩, by rw [Nat.zero_mul]; exact F.2⟩, rfl, Nat.le_refl _⟩
  | succ d ih =>
    intro B w F hd h9 hx hr
    rw [n_guests]
    have hm := F.1.2.2.1.2
    have hg : 11 - d < 12 := by omega
    have A : B + (d + 1) * 500 = B + 500 + d * 500 := by omega
    split
    · next c =>
      have I := ih (B + 500) _ (Wm_out F hg (by omega)) (by omega) (by omega) (fun g' hg' => ?_) (fun r' hr' => ?_)
      · refine ⟨by rw [A]; exact I.1, ?_, by have := I.2.2; show _ + 1 ≤ d + 1; omega⟩
        have := I.2.1
        rw [nu_ne1 (by omega), nu_ne1 (by omega)] at this
        exact this
      · by_cases e : g' = 11 - d
        · rw [nu_ne1 (show 8 * g' ≠ 561 by omega), nu_eq1 (show 8 * g' = 8 * (11 - d) by omega)]
          intro h3; omega
        · rw [nu_ne1 (by omega), nu_ne1 (by omega), nu_ne1 (by omega), nu_ne1 (by omega), nu_ne1 (by omega), nu_ne1 (by omega), nu_ne1 (by omega), nu_ne1 (by omega)]
          exact hx g' (by omega)
      · rw [nu_ne1 (by omega), nu_ne1 (by omega), nu_ne1 (by omega), nu_ne1 (by omega), nu_ne1 (by omega), nu_ne1 (by omega)]
        exact hr r' hr'
    · next c =>
      have hx' : ∀ g', g' < 12 - d → w (8 * g') = 3 → w 554 < w (8 * g' + 2) + w (8 * g' + 3) := by
        intro g' hg' h3
        by_cases e : g' = 11 - d
        · subst e
          have : ¬ (w (8 * (11 - d) + 2) + w (8 * (11 - d) + 3) ≤ w 554) := fun h => c ⟨h3, h⟩
          omega
        · exact hx g' (by omega) h3
      split
      · have W := fun i h h4 h5 => n_want_at (w := w) hg hm (i := i) h h4 h5
        have I := ih (B + 500) _ (Wm_want F hg (by omega)) (by omega) (by omega) (fun g' hg' => ?_) (fun r' hr' => ?_)
        · refine ⟨by rw [A]; exact I.1, ?_, by have := I.2.2; omega⟩
          rw [I.2.1, W _ (by omega) (by omega) (by omega)]
        · rw [W _ (by omega) (by omega) (by omega), W _ (by omega) (by omega) (by omega), W _ (by omega) (by omega) (by omega), W _ (by omega) (by omega) (by omega)]
          exact hx' g' hg'
        · rw [W _ (by omega) (by omega) (by omega), W _ (by omega) (by omega) (by omega), W _ (by omega) (by omega) (by omega)]
          exact hr r' hr'
      · have I := ih B w F (by omega) (by omega) hx' hr
        exact ⟨⟨I.1.1, I.1.2.1, Wb_up I.1.2.2 (by omega) (by omega)⟩, I.2.1, by have := I.2.2; omega⟩
set_option maxRecDepth 16384 in
theorem Wm_room {B : Nat} {w : Nat → Nat} (F : Wm B w) {r : Nat} (hr : r < 16) : Wm B (nu w (96 + 6 * r) 0) := by
  have h := Wz_settle (r := r) (s := 0) (u := w (96 + 6 * r + 1)) F.1 hr (by omega) (F.1.2.1.1 r hr).2.1 (by omega)
  unfold n_settle at h
  rw [nu_self (by rw [nu_ne1 (by omega)])] at h
  exact ⟨h, Wb_nu F.2 (by omega)⟩
set_option maxRecDepth 16384 in
theorem n_rooms_in : ∀ (d B : Nat) (w : Nat → Nat), Wm B w → d ≤ 16 → (∀ r, r < 16 - d → w (96 + 6 * r) ≠ 0 → w 554 < w (96 + 6 * r + 1)) → Wm B (n_rooms d w) ∧ (∀ r, r < 16 → n_rooms d w (96 + 6 * r) ≠ 0 → w 554 < n_rooms d w (96 + 6 * r + 1)) ∧ ∀ i, (i < 96 ∨ 192 ≤ i) → n_rooms d w i = w i := by
  intro d
  induction d with
  | zero => intro B w F hd hx; exact ⟨F, hx, fun _ _ => rfl⟩
  | succ d ih =>
    intro B w F hd hx
    rw [n_rooms]
    have hr : 15 - d < 16 := by omega
    split
    · next c =>
      have I := ih B _ (Wm_room F hr) (by omega) (fun r' hr' => ?_)
      · refine ⟨I.1, ?_, fun i hi => by rw [I.2.2 i hi, nu_ne1 (by omega)]⟩
        have := I.2.1
        rw [nu_ne1 (show (554 : Nat) ≠ 96 + 6 * (15 - d) by omega)] at this
        exact this
      · rw [nu_ne1 (show (554 : Nat) ≠ 96 + 6 * (15 - d) by omega), nu_ne1 (show 96 + 6 * r' + 1 ≠ 96 + 6 * (15 - d) by omega)]
        unfold nu
        split
        · intro h; exact absurd rfl h
        · exact hx r' (by omega)
    · next c =>
      refine ih B w F (by omega) (fun r' hr' h0 => ?_)
      by_cases e : r' = 15 - d
      · subst e
        have : ¬ (w (96 + 6 * (15 - d) + 1) ≤ w 554) := fun h => c ⟨h0, h⟩
        omega
      · exact hx r' (by omega) h0
set_option maxRecDepth 16384 in
theorem Wm_time {B : Nat} {w : Nat → Nat} (F : Wm B w) (h9 : B + 1 ≤ 1000000000) : Wm (B + 1) (nu w 554 (w 554 + 1)) := by
  obtain ⟨⟨zg, ⟨zr1, zr2, zr3⟩, ⟨zm1, hm⟩, zn⟩, hB⟩ := F
  have b := hB.2 554
  have E : ∀ i, i ≠ 554 → nu w 554 (w 554 + 1) i = w i := fun i hi => nu_ne1 hi
  have e4 : nu w 554 (w 554 + 1) 554 = w 554 + 1 := nu_eq1 rfl
  refine ⟨⟨fun g' hg' => ?_, ⟨fun r' hr' => ?_, fun r1 r2 h1 h2 => ?_, fun r1 r2 h1 h2 => ?_⟩, ⟨fun p hp => ?_, ?_⟩, ?_⟩, Wb_nu (Wb_up hB (by omega) h9) (by omega)⟩
  · rw [e4, E _ (by omega), E _ (by omega), E _ (by omega), E _ (by omega), E _ (by omega), E _ (by omega), E _ (by omega), E _ (by omega)]
    have := zg g' hg'
    omega
  · rw [e4, E _ (by omega), E _ (by omega), E _ (by omega), E _ (by omega), E _ (by omega), E _ (by omega), E _ (by omega)]
    have := zr1 r' hr'
    omega
  · rw [E _ (by omega), E _ (by omega)]
    exact zr2 r1 r2 h1 h2
  · rw [E _ (by omega), E _ (by omega), E _ (by omega), E _ (by omega)]
    exact zr3 r1 r2 h1 h2
  · rw [E 552 (by omega)] at hp
    rw [E _ (by omega), E _ (by omega), E _ (by omega), E _ (by omega), E _ (by omega), E _ (by omega), E _ (by omega)]
    exact zm1 p hp
  · rw [E _ (by omega)]; exact hm
  · unfold WzN
    rw [E _ (by omega), E _ (by omega), E _ (by omega)]
    exact zn
set_option maxRecDepth 16384 in
theorem Wf_tick {B : Nat} {w : Nat → Nat} (F : Wf B w) (h9 : B + 6001 ≤ 1000000000) : Wf (B + 6001) (n_tick w).2 ∧ (n_tick w).1 ≤ 12 := by
  have F1 := Wm_time (B := B) ⟨F.1, F.2.2⟩ (by omega)
  have F2 := n_rooms_in 16 (B + 1) _ F1 (by omega) (fun r hr => by omega)
  have e := F2.2.2 554 (by omega)
  have F3 := n_guests_in 12 (B + 1) _ F2.1 (by omega) (by omega) (fun g hg => by omega) (fun r hr h => by rw [e]; exact F2.2.1 r hr h)
  unfold n_tick
  exact ⟨⟨F3.1.1, F3.1.2.1, Wb_up F3.1.2.2 (by omega) (by omega)⟩, F3.2.2⟩
set_option maxRecDepth 16384 in
theorem v_go : ∀ (d n B : Nat) (v : x_V) (w : Nat → Nat) (c t k : Nat), Rv v w → Wf B w → k + d = t → t ≤ 100 → d < n → B + d * 6001 + 6001 ≤ 1000000000 → Ok (fX7_goTicks_b4 n v (nn t) (nn c) (nn k)) (fun q => q.1 = nn (c + (n_go d w).1) ∧ Rv q.2 (n_go d w).2) ∧ Wf (B + d * 6001) (n_go d w).2 ∧ (n_go d w).1 ≤ 12 * d := by
  intro d
  induction d with
  | zero =>
    intro n B v w c t k R F hk ht hn h9
    obtain ⟨n, rfl⟩ : ∃ m, n = m + 1 := ⟨n - 1, by omega⟩
    rw [fX7_goTicks_b4, n_go, if_pos ((nn_le (by omega) (by omega)).mpr (by omega))]
    exact ⟨Ok_some ⟨rfl, R⟩, by rw [Nat.zero_mul]; exact F, Nat.le_refl _⟩
  | succ d ih =>
    intro n B v w c t k R F hk ht hn h9
    obtain ⟨n, rfl⟩ : ∃ m, n = m + 1 := ⟨n - 1, by omega⟩
    rw [fX7_goTicks_b4, n_go, if_neg (fun h => by have := (nn_le (by omega) (by omega)).mp h; omega)]
    have F1 := Wf_tick F (by omega)
    obtain ⟨q, hq, hq1, R1⟩ := v_tick R (Wm.t ⟨F.1, F.2.2⟩ (by omega)) (by omega)
    rw [hq, xb_some, hq1, nn_add, x_let_n]
    have e1 : nn k + (1 : Int32) = nn (k + 1) := nn_add k 1
    rw [e1, x_let_n]
    have I := ih n (B + 6001) q.2 (n_tick w).2 (c + (n_tick w).1) t (k + 1) R1 F1.1 (by omega) ht (by omega) (by omega)
    refine ⟨Ok_mono I.1 (fun q' hq' => ⟨?_, hq'.2⟩), ?_, by have := I.2.2; have := F1.2; show (n_tick w).1 + (n_go d (n_tick w).2).1 ≤ _; omega⟩
    · rw [hq'.1, Nat.add_assoc]
    · rw [show B + (d + 1) * 6001 = B + 6001 + d * 6001 by omega]
      exact I.2.1
