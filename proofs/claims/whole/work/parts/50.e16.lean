set_option maxRecDepth 16384 in
theorem n_post_ext {w w2 : Nat → Nat} {k g r a t : Nat} (hk : k < 7) (hm : w 552 ≤ 60) (S : ∀ i, 192 ≤ i → i ≠ 560 → w2 i = w i) : ∀ i, 192 ≤ i → i ≠ 560 → n_post w2 k g r a t i = n_post w k g r a t i := by
  intro i hi h5
  unfold n_post
  rw [S 552 (by omega) (by omega), S 553 (by omega) (by omega), S (563 + k) (by omega) (by omega), S 558 (by omega) (by omega)]
  split
  · unfold nu
    rw [S i hi h5]
  · unfold nu
    rw [S i hi h5]
/- the inn leases a room: what the house is then -/
set_option maxRecDepth 16384 in
theorem u_lease {u : x_H} {w : Nat → Nat} {B : Nat} (R : Ru u w) (Z : Wz w) (hB : Wb B w) {r g y : Nat} (hr : r < 16) (hg : g < 12) (h : n_has w r 2 g ∨ n_has w r 1 g) : Ok (fX3_lease u (nn r) (nn g) (nn (w 554)) (mm y)) (fun u' => (∀ k, k = 0 → ∀ i, u' k i = u k i) ∧ ∀ w', w' (96 + 6 * r) = 2 → w' (96 + 6 * r + 1) = (if n_has w r 2 g ∧ w 554 + w 555 < w (96 + 6 * r + 1) then w (96 + 6 * r + 1) else w 554 + w 555) → w' (96 + 6 * r + 3) = y → w' (8 * g + 7) = r + 1 → (∀ i, i ≠ 96 + 6 * r → i ≠ 96 + 6 * r + 1 → i ≠ 96 + 6 * r + 3 → i ≠ 8 * g + 7 → w' i = w i) → Ru u' w') := by
  unfold fX3_lease
  have hm := Z.2.2.1.2
  obtain ⟨a1, a2, a3, a4, a5⟩ := R.2.1 r hr
  have zr := Z.2.1.1 r hr
  have b0 := hB.1
  have b1 := hB.2 (96 + 6 * r + 1)
  have b4 := hB.2 554
  have b5 := hB.2 555
  have hwho : w (96 + 6 * r + 2) = g := h.elim (fun h => h.2) (fun h => h.2)
  have hst : w (96 + 6 * r) = 1 ∨ w (96 + 6 * r) = 2 := h.elim (fun h => Or.inr h.1) (fun h => Or.inl h.1)
  obtain ⟨x, hx⟩ : ∃ x, x = (if n_has w r 2 g ∧ w 554 + w 555 < w (96 + 6 * r + 1) then w (96 + 6 * r + 1) else w 554 + w 555) := ⟨_, rfl⟩
  rw [← hx]
  have J : ∀ u0 : x_H, (∀ k i, k ≠ 18 → u0 k i = u k i) → (∀ w', w' (96 + 6 * r) = 2 → (∀ i, i ≠ 96 + 6 * r → i ≠ 96 + 6 * r + 1 → i ≠ 96 + 6 * r + 3 → i ≠ 8 * g + 7 → w' i = w i) → RuL u0 w') → Ok (fX3_lease_j58 u0 (nn r) (nn g) (mm y) (nn x)) (fun u' => (∀ k, k = 0 → ∀ i, u' k i = u k i) ∧ ∀ w', w' (96 + 6 * r) = 2 → w' (96 + 6 * r + 1) = x → w' (96 + 6 * r + 3) = y → w' (8 * g + 7) = r + 1 → (∀ i, i ≠ 96 + 6 * r → i ≠ 96 + 6 * r + 1 → i ≠ 96 + 6 * r + 3 → i ≠ 8 * g + 7 → w' i = w i) → Ru u' w') := by
    intro u0 d1 d2
    unfold fX3_lease_j58
    rw [if_pos (nn_in (by omega) hr), nn_clamp (by omega : r < 2147483648)]
    refine Ok_let (fun u1 e1 => ?_)
    refine Ok_let (fun u2 e2 => ?_)
    refine Ok_let (fun u3 e3 => ?_)
    refine Ok_let (fun u4 e4 => ?_)
    rw [if_pos (nn_in (by omega) hg), nn_clamp (by omega : g < 2147483648)]
    refine Ok_let (fun u5 e5 => Ok_some ⟨fun k hk i => ?_, fun w' h0 h1 h3 h7 hw => ?_⟩)
    · rw [e5, x_hu_ne (by omega), e4, x_hu_ne (by omega), e3, x_hu_ne (by omega), e2, x_hu_ne (by omega), e1, x_hu_ne (by omega), d1 _ _ (by omega)]
    · have D : ∀ k i, k ≠ 12 → k ≠ 13 → k ≠ 14 → k ≠ 15 → k ≠ 17 → k ≠ 18 → u5 k i = u k i := fun k i q1 q2 q3 q4 q5 q6 => by
        rw [e5, x_hu_ne q5, e4, x_hu_ne q4, e3, x_hu_ne q3, e2, x_hu_ne q2, e1, x_hu_ne q1, d1 _ _ q6]
      have Dr : ∀ k i, i ≠ r → k ≠ 17 → k ≠ 18 → u5 k i = u k i := fun k i q1 q5 q6 => by
        rw [e5, x_hu_ne q5, e4, x_hu_ni q1, e3, x_hu_ni q1, e2, x_hu_ni q1, e1, x_hu_ni q1, d1 _ _ q6]
      obtain ⟨RG, RI, RL, RH, RM, RN⟩ := R
      refine ⟨fun g' hg' => ?_, fun r' hr' => ?_, fun g' hg' => ?_, RuH_of RH (D 2 0 (by omega) (by omega) (by omega) (by omega) (by omega) (by omega)) (fun r' hr' => hw _ (by omega) (by omega) (by omega) (by omega)), RuM_of RM (fun k i hk => D k i (by omega) (by omega) (by omega) (by omega) (by omega) (by omega)) (fun i hi hi2 => hw i (by omega) (by omega) (by omega) (by omega)) hm, RuN_of RN (fun k i hk => D k i (by omega) (by omega) (by omega) (by omega) (by omega) (by omega)) (fun i hi => hw i (by omega) (by omega) (by omega) (by omega))⟩
      · rw [D 5 _ (by omega) (by omega) (by omega) (by omega) (by omega) (by omega), D 6 _ (by omega) (by omega) (by omega) (by omega) (by omega) (by omega), D 7 _ (by omega) (by omega) (by omega) (by omega) (by omega) (by omega), D 8 _ (by omega) (by omega) (by omega) (by omega) (by omega) (by omega), D 9 _ (by omega) (by omega) (by omega) (by omega) (by omega) (by omega), D 10 _ (by omega) (by omega) (by omega) (by omega) (by omega) (by omega), D 11 _ (by omega) (by omega) (by omega) (by omega) (by omega) (by omega)]
        have W : ∀ j, j < 7 → w' (8 * g' + j) = w (8 * g' + j) := fun j hj => hw _ (by omega) (by omega) (by omega) (by omega)
        have W0 : w' (8 * g') = w (8 * g') := W 0 (by omega)
        rw [W0, W 1 (by omega), W 2 (by omega), W 3 (by omega), W 4 (by omega), W 5 (by omega), W 6 (by omega)]
        obtain ⟨g1, g2, g3, g4, g5, g6, g7, g8⟩ := RG g' hg'
        refine ⟨g1, g2, g3, g4, g5, g6, g7, ?_⟩
        by_cases c : g' = g
        · rw [c, h7, e5, x_hu_eq rfl rfl, mm_succ]
        · rw [e5, x_hu_ni c, e4, x_hu_ne (by omega), e3, x_hu_ne (by omega), e2, x_hu_ne (by omega), e1, x_hu_ne (by omega), d1 _ _ (by omega), g8, hw _ (by omega) (by omega) (by omega) (by omega)]
      · by_cases c : r' = r
        · subst c
          have W2 : w' (96 + 6 * r' + 2) = g := by rw [hw _ (by omega) (by omega) (by omega) (by omega), hwho]
          have W4 : w' (96 + 6 * r' + 4) = w (96 + 6 * r' + 4) := hw _ (by omega) (by omega) (by omega) (by omega)
          rw [h0, h1, h3, W2, W4]
          refine ⟨?_, ?_, fun _ => ?_, fun _ => ?_, ?_⟩
          · rw [e5, x_hu_ne (by omega), e4, x_hu_ne (by omega), e3, x_hu_ne (by omega), e2, x_hu_ne (by omega), e1, x_hu_eq rfl rfl]; rfl
          · rw [e5, x_hu_ne (by omega), e4, x_hu_ne (by omega), e3, x_hu_ne (by omega), e2, x_hu_eq rfl rfl, if_pos (Or.inr rfl), mm_succ]
          · rw [e5, x_hu_ne (by omega), e4, x_hu_ne (by omega), e3, x_hu_eq rfl rfl]
          · rw [e5, x_hu_ne (by omega), e4, x_hu_eq rfl rfl]
          · rw [D 16 _ (by omega) (by omega) (by omega) (by omega) (by omega) (by omega)]; exact a5
        · rw [Dr 12 _ c (by omega) (by omega), Dr 13 _ c (by omega) (by omega), Dr 14 _ c (by omega) (by omega), Dr 15 _ c (by omega) (by omega), Dr 16 _ c (by omega) (by omega)]
          have W : ∀ j, j < 6 → w' (96 + 6 * r' + j) = w (96 + 6 * r' + j) := fun j hj => hw _ (by omega) (by omega) (by omega) (by omega)
          have W0 : w' (96 + 6 * r') = w (96 + 6 * r') := W 0 (by omega)
          rw [W0, W 1 (by omega), W 2 (by omega), W 3 (by omega), W 4 (by omega)]
          exact RI r' hr'
      · rw [e5, x_hu_ne (by omega), e4, x_hu_ne (by omega), e3, x_hu_ne (by omega), e2, x_hu_ne (by omega), e1, x_hu_ne (by omega)]
        exact d2 w' h0 hw g' hg'
  rw [u_isRoom hr, xb_some, if_neg nn_one, u_isGuest hg, xb_some, if_neg nn_one, R.2.2.2.2.2.2.1.1, nn_add, x_let_n, u_isLeasedTo R Z hr hg, xb_some]
  by_cases c : n_has w r 2 g
  · rw [if_pos c, if_neg (by decide), if_pos (nn_in (by omega) hr), nn_clamp (by omega : r < 2147483648), a3 (by rw [c.1]; omega)]
    have ex : (if nn (w 554 + w 555) < nn (w (96 + 6 * r + 1)) then nn (w (96 + 6 * r + 1)) else nn (w 554 + w 555)) = nn x := by
      by_cases c2 : w 554 + w 555 < w (96 + 6 * r + 1)
      · rw [if_pos ((nn_lt (by omega) (by omega)).mpr c2), hx, if_pos ⟨c, c2⟩]
      · rw [if_neg (fun h => c2 ((nn_lt (by omega) (by omega)).mp h)), hx, if_neg (fun h => c2 h.2)]
    rw [ex, x_let_n]
    refine J u (fun k i _ => rfl) (fun w' h0 hw g' hg' => ?_)
    rw [R.2.2.1 g' hg']
    have hls : n_ls w' g' 16 = n_ls w g' 16 := n_ls_of 16 (by omega) (fun r' hr' => by
      have W2 : w' (96 + 6 * r' + 2) = w (96 + 6 * r' + 2) := hw _ (by omega) (by omega) (by omega) (by omega)
      by_cases cr : r' = r
      · subst cr
        rw [h0, W2, c.1]
      · rw [W2, hw _ (by omega) (by omega) (by omega) (by omega)])
    rw [hls]
  · have h1 : n_has w r 1 g := h.resolve_left c
    rw [if_neg c, if_pos (by decide), if_pos (nn_in (by omega) hg), nn_clamp (by omega : g < 2147483648), R.2.2.1 g hg]
    refine Ok_let (fun u0 e0 => ?_)
    have ex : x = w 554 + w 555 := by rw [hx, if_neg (fun h => c h.1)]
    rw [← ex]
    refine J u0 (fun k i hk => by rw [e0, x_hu_ne hk]) (fun w' h0 hw g' hg' => ?_)
    have W2 : ∀ r', w' (96 + 6 * r' + 2) = w (96 + 6 * r' + 2) ∨ 16 ≤ r' := fun r' => by
      by_cases h : r' < 16
      · exact Or.inl (hw _ (by omega) (by omega) (by omega) (by omega))
      · exact Or.inr (by omega)
    have W2r : w' (96 + 6 * r + 2) = g := by rw [hw _ (by omega) (by omega) (by omega) (by omega), hwho]
    by_cases cg : g' = g
    · subst cg
      have S : n_ls w' g' 16 = n_ls w g' 16 + 1 := by
        obtain ⟨w2, hw2⟩ : ∃ w2 : Nat → Nat, w2 = fun i => if i < 96 then w i else w' i := ⟨_, rfl⟩
        have S := n_ls_set (w := w) (w' := w') (g := g') (r := r) (fun r' hr' => by
          by_cases hh : r' < 16
          · rw [hw _ (by omega) (by omega) (by omega) (by omega), hw _ (by omega) (by omega) (by omega) (by omega)]
          · rw [hw _ (by omega) (by omega) (by omega) (by omega), hw _ (by omega) (by omega) (by omega) (by omega)]) 16 (by omega)
        rw [if_neg (fun h => c h.2), if_pos ⟨hr, h0, W2r⟩] at S
        omega
      rw [e0, x_hu_eq rfl rfl, S]
      exact nn_add _ 1
    · rw [e0, x_hu_ni cg, R.2.2.1 g' hg']
      have hls : n_ls w' g' 16 = n_ls w g' 16 := n_ls_of 16 (by omega) (fun r' hr' => by
        by_cases cr : r' = r
        · subst cr
          exact ⟨fun h => absurd (h.2.symm.trans W2r) cg, fun h => absurd (h.2.symm.trans hwho) cg⟩
        · rw [hw _ (by omega) (by omega) (by omega) (by omega), hw _ (by omega) (by omega) (by omega) (by omega)])
      rw [hls]
set_option maxRecDepth 16384 in
theorem Ru_w {u : x_H} {w w' : Nat → Nat} (R : Ru u w) (hm : w 552 ≤ 60) (h : ∀ i, w' i = w i) : Ru u w' := Ru_lo R hm (fun _ _ => rfl) h
set_option maxRecDepth 16384 in
theorem u_answerWant {u : x_H} {w : Nat → Nat} {B : Nat} (R : Ru u w) (Z : Wz w) (hB : Wb B w) (h9 : B + 1000 ≤ 1000000000) {g r m : Nat} (hg : g < 12) (hr : r < 16) (hmm : m ≤ w 553) : Ok (fX2_answerWant u (nn g) (nn r) (mm m)) (fun u' => Ru u' (n_innWants w g r m)) := by
  unfold fX2_answerWant
  have hm := Z.2.2.1.2
  have hn := Z.2.2.2
  unfold WzN at hn
  rw [u_isHeldFor R Z hr hg, xb_some]
  by_cases c : n_has w r 2 g ∨ n_has w r 1 g
  · rw [if_pos c, if_neg (by decide), R.2.2.2.2.2.2.1.1]
    have hR : n_innWants w g r m = nu (n_post (nu (nu (n_settle w r 2 (if n_has w r 2 g ∧ w 554 + w 555 < w (96 + 6 * r + 1) then w (96 + 6 * r + 1) else w 554 + w 555)) (8 * g + 7) (r + 1)) 560 (w 560 + 1)) 3 g r m (w 555)) (96 + 6 * r + 3) (w 553 + 1) := if_neg (fun h => c.elim h.1 h.2)
    rw [hR]
    obtain ⟨x, hx⟩ : ∃ x, x = (if n_has w r 2 g ∧ w 554 + w 555 < w (96 + 6 * r + 1) then w (96 + 6 * r + 1) else w 554 + w 555) := ⟨_, rfl⟩
    rw [← hx]
    obtain ⟨w2, hw2⟩ : ∃ z, z = nu (nu (n_settle w r 2 x) (8 * g + 7) (r + 1)) 560 (w 560 + 1) := ⟨_, rfl⟩
    rw [← hw2]
    have S : ∀ i, 192 ≤ i → i ≠ 560 → w2 i = w i := fun i hi h5 => by rw [hw2, nu_ne1 h5, nu_ne1 (by omega), n_settle_at (by omega) (by omega)]
    have S5 : w2 560 = w 560 + 1 := by rw [hw2, nu_eq1 rfl]
    have hm2 : w2 552 ≤ 60 := by rw [S _ (by omega) (by omega)]; exact hm
    have E := n_post_ext (k := 3) (g := g) (r := r) (a := m) (t := w 555) (by omega) hm S
    refine Ok_bind (u_send (k := 3) (g := g) (r := r) (a := m) (t := w 555) R hB hm (by omega) (mm_succ r).symm) (fun q hq => ?_)
    obtain ⟨q1, R1⟩ := hq
    obtain ⟨w1, hw1⟩ : ∃ z, z = n_post w 3 g r m (w 555) := ⟨_, rfl⟩
    rw [← hw1] at R1
    have L1 : ∀ i, i < 192 → w1 i = w i := fun i hi => by rw [hw1, n_post_lo (by omega) hm hi]
    have Z1 : Wz w1 := by rw [hw1]; exact Wz_post Z (by omega) hg hr (by omega) (by omega)
    have B1 : Wb (B + 301) w1 := by rw [hw1]; exact Wb_post (Wb_up hB (B' := B + 300) (by omega) (by omega)) (by omega) hm (by omega) (by omega) (by omega) (by have := hB.2 553; omega) (by omega)
    have e4 : w1 554 = w 554 := by rw [hw1, n_post_554 (by omega) hm]
    have e5 : w1 555 = w 555 := by rw [hw1, n_post_hi (by omega) hm (by omega) (by omega) (by omega)]
    have c1 : n_has w1 r 2 g ∨ n_has w1 r 1 g := by
      unfold n_has
      rw [L1 _ (by omega), L1 _ (by omega)]
      exact c
    rw [q1, R1.2.2.2.2.2.1.1]
    refine Ok_bind (u_lease (y := w 553 + 1) R1 Z1 B1 hr hg c1) (fun u1 h1 => ?_)
    obtain ⟨k0, K⟩ := h1
    have hm1 : w1 552 ≤ 60 := Z1.2.2.1.2
    -- the row behind the lease, without the count
    obtain ⟨w3, hw3⟩ : ∃ z : Nat → Nat, z = fun i => if i = 560 then w 560 else nu (n_post w2 3 g r m (w 555)) (96 + 6 * r + 3) (w 553 + 1) i := ⟨_, rfl⟩
    have R3 : Ru u1 w3 := by
      refine K w3 ?_ ?_ ?_ ?_ (fun i h1 h2 h3 h7 => ?_)
      · rw [hw3]; show (if 96 + 6 * r = 560 then _ else _) = 2
        rw [if_neg (by omega), nu_ne1 (by omega), n_post_lo (by omega) hm2 (by omega), hw2, nu_ne1 (by omega), nu_ne1 (by omega)]; unfold n_settle; rw [nu_ne1 (by omega), nu_eq1 rfl]
      · rw [hw3]; show (if 96 + 6 * r + 1 = 560 then _ else _) = _
        rw [if_neg (by omega), nu_ne1 (by omega), n_post_lo (by omega) hm2 (by omega), hw2, nu_ne1 (by omega), nu_ne1 (by omega)]; unfold n_settle; rw [nu_eq1 rfl, hx]
        unfold n_has
        rw [e4, e5, L1 (96 + 6 * r) (by omega), L1 (96 + 6 * r + 1) (by omega), L1 (96 + 6 * r + 2) (by omega)]
      · rw [hw3]; show (if 96 + 6 * r + 3 = 560 then _ else _) = _
        rw [if_neg (by omega), nu_eq1 rfl]
      · rw [hw3]; show (if 8 * g + 7 = 560 then _ else _) = _
        rw [if_neg (by omega), nu_ne1 (by omega), n_post_lo (by omega) hm2 (by omega), hw2, nu_ne1 (by omega), nu_eq1 rfl]
      · rw [hw3]; show (if i = 560 then _ else _) = _
        by_cases ci : i = 560
        · rw [if_pos ci, ci, hw1, n_post_hi (by omega) hm (by omega) (by omega) (by omega)]
        · rw [if_neg ci, nu_ne1 h3]
          by_cases cl : i < 192
          · rw [n_post_lo (by omega) hm2 cl, hw2, nu_ne1 ci, nu_ne1 h7, n_settle_at h1 h2, L1 _ cl]
          · rw [E i (by omega) ci, hw1]
    have e6 : u1 0 4 = nn (w 560) := by rw [R3.2.2.2.2.2.1.2.2.2.2.1, hw3]; rfl
    rw [e6, show nn (w 560) + (1 : Int32) = nn (w 560 + 1) from nn_add _ 1]
    refine Ok_let (fun u2 e2 => Ok_some ?_)
    rw [e2]
    have hm3 : w3 552 ≤ 60 := by
      rw [hw3]; show (if (552 : Nat) = 560 then _ else _) ≤ 60
      rw [if_neg (by omega), nu_ne1 (by omega), n_post_many (by omega) hm2]
      split <;> omega
    refine Ru_w (Ru_c (i := 4) (k := 560) (x := w 560 + 1) R3 hm3 (by omega)) (by rw [nu_ne1 (by omega)]; exact hm3) (fun i => ?_)
    by_cases ci : i = 560
    · rw [ci, nu_eq1 rfl, nu_ne1 (by omega), n_post_hi (by omega) hm2 (by omega) (by omega) (by omega), S5]
    · rw [nu_ne1 (w := w3) ci, hw3]
      show _ = (if i = 560 then _ else _)
      rw [if_neg ci]
  · have hR : n_innWants w g r m = n_post w 4 g r m 0 := if_pos ⟨fun h => c (Or.inl h), fun h => c (Or.inr h)⟩
    rw [hR, if_neg c, if_pos (by decide)]
    exact Ok_bind (u_send (k := 4) (g := g) (r := r) (a := m) (t := 0) R hB hm (by omega) (mm_succ r).symm) (fun q hq => Ok_some hq.2)
