set_option maxRecDepth 16384 in
theorem n_ls_other {w w' : Nat → Nat} {g r : Nat} (h : ∀ i, i < 96 + 6 * r ∨ 96 + 6 * r + 6 ≤ i → w' i = w i) (h1 : ¬ n_has w r 2 g) (h2 : ¬ n_has w' r 2 g) : n_ls w' g 16 = n_ls w g 16 := by
  refine n_ls_of 16 (by omega) (fun r' hr' => ?_)
  by_cases c : r' = r
  · subst c; exact ⟨fun h => absurd h h2, fun h => absurd h h1⟩
  · rw [h _ (by omega), h _ (by omega)]
set_option maxRecDepth 16384 in
theorem u_drop {u : x_H} {w : Nat → Nat} (R : Ru u w) (Z : Wz w) {r : Nat} (hr : r < 16) : Ok (fX3_dropLease u (nn r)) (fun u' => (∀ k i, k ≠ 18 → u' k i = u k i) ∧ ∀ w', (∀ i, i < 96 + 6 * r ∨ 96 + 6 * r + 6 ≤ i → w' i = w i) → w' (96 + 6 * r) ≠ 2 → RuL u' w') := by
  unfold fX3_dropLease
  obtain ⟨a1, a2, a3, a4, a5⟩ := R.2.1 r hr
  have zr := Z.2.1.1 r hr
  rw [if_pos (nn_in (by omega) hr), nn_clamp (by omega), a1, a2]
  by_cases c1 : w (96 + 6 * r) = 2
  · rw [if_pos (show nn (w (96 + 6 * r)) = (2 : Int32) by rw [c1]; rfl), if_pos (Or.inr c1), mm_succ]
    unfold fX3_dropLease_j20
    have hg := zr.2.2.1
    rw [if_neg (fun h => (nn_neg (by omega)).mp h), if_neg (fun h => by have := (nn_le (a := 12) (by omega) (by omega)).mp h; omega), if_pos (nn_in (by omega) hg), nn_clamp (by omega), R.2.2.1 _ hg]
    refine Ok_let (fun u1 e1 => Ok_some ⟨fun k i hk => by rw [e1, x_hu_ne hk], fun w' hw h2 g hg' => ?_⟩)
    have S := n_ls_set (w := w) (w' := w') (g := g) (r := r) (fun r' hr' => by rw [hw _ (by omega), hw _ (by omega)]) 16 (by omega)
    have n2 : ¬ (r < 16 ∧ n_has w' r 2 g) := fun h => h2 h.2.1
    rw [if_neg n2] at S
    by_cases cg : g = w (96 + 6 * r + 2)
    · rw [if_pos ⟨hr, c1, cg.symm⟩] at S
      have : 1 ≤ n_ls w g 16 := by omega
      rw [e1, x_hu_eq rfl cg, show nn (n_ls w (w (96 + 6 * r + 2)) 16) - (1 : Int32) = nn (n_ls w (w (96 + 6 * r + 2)) 16 - 1) from nn_sub (by rw [← cg]; exact this), ← cg]
      congr 1
      omega
    · rw [if_neg (fun h => cg h.2.2.symm)] at S
      rw [e1, x_hu_ni cg, R.2.2.1 g hg']
      congr 1
      omega
  · rw [if_neg (show ¬ nn (w (96 + 6 * r)) = (2 : Int32) from fun h => c1 ((nn_inj (b := 2) (by omega) (by omega)).mp h))]
    unfold fX3_dropLease_j20
    rw [if_pos (by decide)]
    refine Ok_some ⟨fun k i _ => rfl, fun w' hw h2 g hg' => ?_⟩
    rw [R.2.2.1 g hg', n_ls_other hw (fun h => c1 h.1) (fun h => h2 h.1)]
set_option maxRecDepth 16384 in
theorem u_free {u : x_H} {w : Nat → Nat} (R : Ru u w) (Z : Wz w) {r : Nat} (hr : r < 16) : Ok (fX3_free u (nn r)) (fun u' => ∀ w', w' (96 + 6 * r) = 0 → (∀ i, i ≠ 96 + 6 * r → i ≠ 96 + 6 * r + 1 → w' i = w i) → Ru u' w') := by
  unfold fX3_free
  rw [u_isRoom hr, xb_some, if_neg nn_one]
  refine Ok_bind (u_drop R Z hr) (fun u0 h0 => ?_)
  obtain ⟨d1, d2⟩ := h0
  rw [if_pos (nn_in (by omega) hr), nn_clamp (by omega)]
  refine Ok_let (fun u1 e1 => ?_)
  refine Ok_let (fun u2 e2 => ?_)
  refine Ok_let (fun u3 e3 => Ok_some (fun w' hw0 hw => ?_))
  refine Ru_r R Z.2.2.1.2 hr (fun k i h1 h2 => ?_) (fun k i h1 h2 => ?_) (fun i hi => hw i (by omega) (by omega)) (fun g' hg' => ?_) ⟨?_, ?_, ?_, ?_⟩
  · rw [e3, x_hu_ne (by omega), e2, x_hu_ne (by omega), e1, x_hu_ne (by omega), d1 _ _ h2]
  · rw [e3, x_hu_ni h2, e2, x_hu_ni h2, e1, x_hu_ni h2, d1 _ _ h1]
  · rw [e3, x_hu_ne (by omega), e2, x_hu_ne (by omega), e1, x_hu_ne (by omega)]
    exact d2 w' (fun i hi => hw i (by omega) (by omega)) (by omega) g' hg'
  · rw [e3, x_hu_ne (by omega), e2, x_hu_ne (by omega), e1, x_hu_eq rfl rfl, hw0]; rfl
  · rw [e3, x_hu_ne (by omega), e2, x_hu_eq rfl rfl, hw0, if_neg (by omega)]; rfl
  · rw [hw0]; intro h; exact absurd rfl h
  · rw [hw0]; intro h; omega
set_option maxRecDepth 16384 in
theorem u_shut {u : x_H} {w : Nat → Nat} (R : Ru u w) (Z : Wz w) {r t : Nat} (hr : r < 16) : Ok (fX3_shut u (nn r) (nn t)) (fun u' => ∀ w', w' (96 + 6 * r) = 3 → w' (96 + 6 * r + 1) = t + w 557 → (∀ i, i ≠ 96 + 6 * r → i ≠ 96 + 6 * r + 1 → w' i = w i) → Ru u' w') := by
  unfold fX3_shut
  rw [u_isRoom hr, xb_some, if_neg nn_one]
  refine Ok_bind (u_drop R Z hr) (fun u0 h0 => ?_)
  obtain ⟨d1, d2⟩ := h0
  rw [if_pos (nn_in (by omega) hr), nn_clamp (by omega)]
  refine Ok_let (fun u1 e1 => ?_)
  refine Ok_let (fun u2 e2 => ?_)
  have e22 : u2 2 3 = nn (w 557) := by rw [e2, x_hu_ne (by omega), e1, x_hu_ne (by omega), d1 _ _ (by omega)]; exact R.2.2.2.2.2.2.1.2.2
  rw [e22, nn_add]
  refine Ok_let (fun u3 e3 => Ok_some (fun w' hw0 hw1 hw => ?_))
  refine Ru_r R Z.2.2.1.2 hr (fun k i h1 h2 => ?_) (fun k i h1 h2 => ?_) (fun i hi => hw i (by omega) (by omega)) (fun g' hg' => ?_) ⟨?_, ?_, ?_, ?_⟩
  · rw [e3, x_hu_ne (by omega), e2, x_hu_ne (by omega), e1, x_hu_ne (by omega), d1 _ _ h2]
  · rw [e3, x_hu_ni h2, e2, x_hu_ni h2, e1, x_hu_ni h2, d1 _ _ h1]
  · rw [e3, x_hu_ne (by omega), e2, x_hu_ne (by omega), e1, x_hu_ne (by omega)]
    exact d2 w' (fun i hi => hw i (by omega) (by omega)) (by omega) g' hg'
  · rw [e3, x_hu_ne (by omega), e2, x_hu_ne (by omega), e1, x_hu_eq rfl rfl, hw0]; rfl
  · rw [e3, x_hu_ne (by omega), e2, x_hu_eq rfl rfl, hw0, if_neg (by omega)]; rfl
  · intro _; rw [e3, x_hu_eq rfl rfl, hw1]
  · rw [hw0]; intro h; omega
set_option maxRecDepth 16384 in
theorem u_mayEnd {u : x_H} {w : Nat → Nat} {B : Nat} (R : Ru u w) (Z : Wz w) (hB : Wb B w) {r g m : Nat} (hr : r < 16) (hg : g < 12) (hm : m < 2147483648) : fX3_mayEnd u (nn r) (nn g) (mm m) = some (nn (if n_has w r 2 g ∧ w (96 + 6 * r + 3) < m then 1 else 0)) := by
  unfold fX3_mayEnd
  obtain ⟨a1, a2, a3, a4, a5⟩ := R.2.1 r hr
  have b0 := hB.1
  have b3 := hB.2 (96 + 6 * r + 3)
  rw [u_isLeasedTo R Z hr hg, xb_some]
  by_cases c : n_has w r 2 g
  · rw [if_pos c, if_neg (by decide), if_pos (nn_in (by omega) hr), nn_clamp (by omega), a4 c.1]
    have e : (mm m ≤ mm (w (96 + 6 * r + 3))) ↔ m ≤ w (96 + 6 * r + 3) := by
      rw [Int32.le_iff_toInt_le, mm_toInt hm, mm_toInt (by omega)]; omega
    by_cases c2 : w (96 + 6 * r + 3) < m
    · rw [if_neg (fun h => by have := e.mp h; omega), if_pos ⟨c, c2⟩]; rfl
    · rw [if_pos (e.mpr (by omega)), if_neg (fun h => c2 h.2)]; rfl
  · rw [if_neg c, if_pos (by decide), if_neg (fun h => c h.1)]; rfl
/- a count of the house changes -/
set_option maxRecDepth 16384 in
theorem Ru_c {u : x_H} {w : Nat → Nat} (R : Ru u w) (hm : w 552 ≤ 60) {i k x : Nat} (h : (i = 2 ∧ k = 558) ∨ (i = 3 ∧ k = 559) ∨ (i = 4 ∧ k = 560) ∨ (i = 5 ∧ k = 561) ∨ (i = 6 ∧ k = 562)) : Ru (x_hu u 0 i (nn x)) (nu w k x) := by
  obtain ⟨RG, RI, RL, RH, RM, ⟨⟨n0, n1, n2, n3, n4, n5, n6⟩, RN2, RN3⟩⟩ := R
  refine ⟨RuG_of RG (fun k' i' hk => x_hu_ne (by omega)) (fun i' hi => nu_ne1 (by omega)), RuI_of RI (fun k' i' hk => x_hu_ne (by omega)) (fun i' hi hi2 => nu_ne1 (by omega)), RuL_of RL (fun i' => x_hu_ne (by omega)) (fun i' hi hi2 => nu_ne1 (by omega)), RuH_of RH (x_hu_ne (by omega)) (fun r hr => nu_ne1 (by omega)), RuM_of RM (fun k' i' hk => x_hu_ne (by omega)) (fun i' hi hi2 => nu_ne1 (by omega)) hm, ?_, ?_, ?_⟩
  · rcases h with ⟨rfl, rfl⟩ | ⟨rfl, rfl⟩ | ⟨rfl, rfl⟩ | ⟨rfl, rfl⟩ | ⟨rfl, rfl⟩ <;> refine ⟨?_, ?_, ?_, ?_, ?_, ?_, ?_⟩ <;> first | (rw [x_hu_eq rfl rfl, nu_eq1 rfl]) | (rw [x_hu_ni (by omega), nu_ne1 (by omega)]; assumption)
  · rw [x_hu_ne (by omega), x_hu_ne (by omega), x_hu_ne (by omega), nu_ne1 (by omega), nu_ne1 (by omega), nu_ne1 (by omega)]; exact RN2
  · intro k' hk'
    rw [x_hu_ne (by omega), nu_ne1 (by omega)]; exact RN3 k' hk'
set_option maxRecDepth 16384 in
theorem u_hearRefusal {u : x_H} {w : Nat → Nat} {B : Nat} (R : Ru u w) (Z : Wz w) (hB : Wb B w) {g r m : Nat} (hg : g < 12) (hr : r < 16) (hm : m < 2147483648) : Ok (fX2_hearRefusal u (nn g) (nn r) (mm m)) (fun u' => Ru u' (n_innEnds w 5 g r m)) := by
  unfold fX2_hearRefusal
  have hm5 := Z.2.2.1.2
  rw [u_mayEnd R Z hB hr hg hm, xb_some]
  by_cases c : n_has w r 2 g ∧ w (96 + 6 * r + 3) < m
  · have hR : n_innEnds w 5 g r m = nu (n_settle w r 3 (w 554 + w 557)) 562 (w 562 + 1) := if_neg (fun h => h.elim (fun h => h c.1) (fun h => by omega))
    rw [hR, if_pos c, if_neg (by decide), R.2.2.2.2.2.1.1]
    refine Ok_bind (u_shut R Z hr) (fun u1 h1 => ?_)
    have R1 : Ru u1 (n_settle w r 3 (w 554 + w 557)) := h1 _ (by unfold n_settle; rw [nu_ne1 (by omega), nu_eq1 rfl]) (by unfold n_settle; rw [nu_eq1 rfl]) (fun i h1 h2 => n_settle_at h1 h2)
    have e6 : u1 0 6 = nn (w 562) := by rw [R1.2.2.2.2.2.1.2.2.2.2.2.2, n_settle_at (by omega) (by omega)]
    rw [e6, show nn (w 562) + (1 : Int32) = nn (w 562 + 1) from nn_add _ 1]
    refine Ok_let (fun u2 e2 => Ok_some ?_)
    rw [e2]
    exact Ru_c R1 (by rw [n_settle_at (by omega) (by omega)]; exact hm5) (by omega)
  · have hR : n_innEnds w 5 g r m = w := if_pos (by
      by_cases c1 : n_has w r 2 g
      · right
        have : ¬ w (96 + 6 * r + 3) < m := fun h => c ⟨c1, h⟩
        omega
      · exact Or.inl c1)
    rw [hR, if_neg c, if_pos (by decide)]
    exact Ok_some R
set_option maxRecDepth 16384 in
theorem u_hearLeaving {u : x_H} {w : Nat → Nat} {B : Nat} (R : Ru u w) (Z : Wz w) (hB : Wb B w) {g r m : Nat} (hg : g < 12) (hr : r < 16) (hm : m < 2147483648) : Ok (fX2_hearLeaving u (nn g) (nn r) (mm m)) (fun u' => Ru u' (n_innEnds w 6 g r m)) := by
  unfold fX2_hearLeaving
  rw [u_mayEnd R Z hB hr hg hm, xb_some]
  by_cases c : n_has w r 2 g ∧ w (96 + 6 * r + 3) < m
  · have hR : n_innEnds w 6 g r m = nu (n_settle w r 0 (w 554 + w 557)) 562 (w 562 + 0) := if_neg (fun h => h.elim (fun h => h c.1) (fun h => by omega))
    rw [hR, if_pos c, if_neg (by decide), Nat.add_zero, nu_self (n_settle_at (by omega) (by omega))]
    refine Ok_bind (u_free R Z hr) (fun u1 h1 => Ok_some ?_)
    exact h1 _ (by unfold n_settle; rw [nu_ne1 (by omega), nu_eq1 rfl]) (fun i h1 h2 => n_settle_at h1 h2)
  · have hR : n_innEnds w 6 g r m = w := if_pos (by
      by_cases c1 : n_has w r 2 g
      · right
        have : ¬ w (96 + 6 * r + 3) < m := fun h => c ⟨c1, h⟩
        omega
      · exact Or.inl c1)
    rw [hR, if_neg c, if_pos (by decide)]
    exact Ok_some R
set_option maxRecDepth 16384 in
theorem u_hearNo {u : x_H} {w : Nat → Nat} {B : Nat} (R : Ru u w) (Z : Wz w) (hB : Wb B w) {g r a : Nat} (hg : g < 12) (hr : r < 16) (ha : a < 2147483648) : Ok (fX2_hearNo u (nn g) (nn r) (mm a)) (fun u' => Ru u' (if n_heeds w g r a then nu w (8 * g) 0 else w)) := by
  unfold fX2_hearNo
  rw [u_heeds R Z hB hg hr ha, xb_some]
  by_cases c : n_heeds w g r a
  · rw [if_pos c, if_pos c, if_neg (by decide)]
    exact Ok_bind (u_rest R Z.2.2.1.2 hg) (fun u1 h1 => Ok_some h1)
  · rw [if_neg c, if_neg c, if_pos (by decide)]
    exact Ok_some R
set_option maxRecDepth 16384 in
theorem u_hearYes {u : x_H} {w : Nat → Nat} {B : Nat} (R : Ru u w) (Z : Wz w) (hB : Wb B w) {g r a t : Nat} (hg : g < 12) (hr : r < 16) (ha : a < 2147483648) (ht : t ≤ 200) : Ok (fX2_hearYes u (nn g) (nn r) (mm a) (nn t)) (fun u' => Ru u' (if n_heeds w g r a then n_guestYes w g r t else w)) := by
  unfold fX2_hearYes
  have hm := Z.2.2.1.2
  have b0 := hB.1
  have b5 := hB.2 (8 * g + 5)
  have b4 := hB.2 554
  have zg := Z.1 g hg
  obtain ⟨a1, a2, a3, a4, a5, a6, a7, -⟩ := R.1 g hg
  rw [u_isGuest hg, xb_some, if_neg nn_one, u_heeds R Z hB hg hr ha, xb_some]
  by_cases c : n_heeds w g r a
  · rw [if_pos c, if_pos c, if_neg (by decide), if_pos (nn_in (by omega) hg), nn_clamp (by omega), a1, a4, R.2.2.2.2.2.1.1, nn_add]
    by_cases c1 : w (8 * g + 5) + t ≤ w 554
    · have hR : n_guestYes w g r t = nu w (8 * g) 0 := if_pos c1
      rw [hR, if_neg (fun h => by have := (nn_lt (by omega) (by omega)).mp h; omega)]
      exact Ok_bind (u_rest R hm hg) (fun u1 h1 => Ok_some h1)
    · rw [if_pos ((nn_lt (by omega) (by omega)).mpr (by omega))]
      by_cases c2 : w (8 * g) = 2
      · rw [if_pos (show nn (w (8 * g)) = (2 : Int32) by rw [c2]; rfl), u_ghostIn R hr, xb_some]
        by_cases c3 : w (96 + 6 * r + 5) = 1
        · have hR : n_guestYes w g r t = nu (n_post w 5 g r 0 0) (8 * g) 0 := by unfold n_guestYes; rw [if_neg c1, if_pos ⟨c2, c3⟩]
          rw [hR, if_pos c3, if_neg (by decide)]
          refine Ok_bind (u_send (k := 5) (g := g) (r := r) (a := 0) (t := 0) R hB hm (by omega) (mm_succ r).symm) (fun q hq => ?_)
          have hm2 : n_post w 5 g r 0 0 552 ≤ 60 := by rw [n_post_many (by omega) hm]; split <;> omega
          exact Ok_bind (u_rest hq.2 hm2 hg) (fun u1 h1 => Ok_some h1)
        · have hR : n_guestYes w g r t = nu (nu (nu (nu w (8 * g + 6) (w (8 * g + 6) + if w (8 * g) = 2 then 1 else 0)) (8 * g) 3) (8 * g + 2) (w (8 * g + 5))) (8 * g + 3) t := by unfold n_guestYes; rw [if_neg c1, if_neg (fun h => c3 h.2)]
          rw [hR, if_neg c3, if_pos (by decide)]
          exact Ok_bind (u_take R hm hg (Or.inl c2)) (fun u1 h1 => Ok_some h1)
      · have hR : n_guestYes w g r t = nu (nu (nu (nu w (8 * g + 6) (w (8 * g + 6) + if w (8 * g) = 2 then 1 else 0)) (8 * g) 3) (8 * g + 2) (w (8 * g + 5))) (8 * g + 3) t := by unfold n_guestYes; rw [if_neg c1, if_neg (fun h => c2 h.1)]
        rw [hR, if_neg (show ¬ nn (w (8 * g)) = (2 : Int32) from fun h => c2 ((nn_inj (b := 2) (by omega) (by omega)).mp h))]
        exact Ok_bind (u_take R hm hg (Or.inr (by have := c.1; omega))) (fun u1 h1 => Ok_some h1)
  · rw [if_neg c, if_neg c, if_pos (by decide)]
    exact Ok_some R
