/- one guest has changed -/
set_option maxRecDepth 16384 in
theorem Ru_g {u u' : x_H} {w w' : Nat → Nat} (R : Ru u w) (hm : w 552 ≤ 60) {g : Nat} (hg : g < 12) (h1 : ∀ k i, ¬ (5 ≤ k ∧ k ≤ 11) → u' k i = u k i) (h2 : ∀ k i, i ≠ g → u' k i = u k i) (h3 : ∀ i, (i < 8 * g ∨ 8 * g + 7 ≤ i) → w' i = w i)
    (h : u' 5 g = nn (w' (8 * g)) ∧ u' 6 g = mm (if 2 ≤ w' (8 * g) then w' (8 * g + 1) + 1 else 0) ∧ u' 7 g = mm (w' (8 * g + 4)) ∧ u' 8 g = nn (w' (8 * g + 5)) ∧ u' 9 g = nn (w' (8 * g + 2)) ∧ u' 10 g = nn (w' (8 * g + 3)) ∧ u' 11 g = nn (w' (8 * g + 6))) : Ru u' w' := by
  obtain ⟨RG, RI, RL, RH, RM, RN⟩ := R
  refine ⟨fun g' hg' => ?_, RuI_of RI (fun k i hk => h1 k i (by omega)) (fun i hi hi2 => h3 i (by omega)), RuL_of RL (fun i => h1 18 i (by omega)) (fun i hi hi2 => h3 i (by omega)), RuH_of RH (h1 2 0 (by omega)) (fun r hr => h3 _ (by omega)), RuM_of RM (fun k i hk => h1 k i (by omega)) (fun i hi hi2 => h3 i (by omega)) hm, RuN_of RN (fun k i hk => h1 k i (by omega)) (fun i hi => h3 i (by omega))⟩
  by_cases c : g' = g
  · subst c
    obtain ⟨a1, a2, a3, a4, a5, a6, a7⟩ := h
    refine ⟨a1, a2, a3, a4, a5, a6, a7, ?_⟩
    rw [h1 17 g' (by omega), h3 _ (by omega)]
    exact (RG g' hg').2.2.2.2.2.2.2
  · rw [h2 _ _ c, h2 _ _ c, h2 _ _ c, h2 _ _ c, h2 _ _ c, h2 _ _ c, h2 _ _ c, h2 _ _ c]
    rw [h3 _ (by omega), h3 _ (by omega), h3 _ (by omega), h3 _ (by omega), h3 _ (by omega), h3 _ (by omega), h3 _ (by omega), h3 _ (by omega)]
    exact RG g' hg'
set_option maxRecDepth 16384 in
theorem u_rest {u : x_H} {w : Nat → Nat} (R : Ru u w) (hm : w 552 ≤ 60) {g : Nat} (hg : g < 12) : Ok (fX1_rest u (nn g)) (fun u' => Ru u' (nu w (8 * g) 0)) := by
  unfold fX1_rest
  rw [u_isGuest hg, xb_some, if_neg nn_one, if_pos (nn_in (by omega) hg), nn_clamp (by omega)]
  refine Ok_let (fun u1 e1 => ?_)
  refine Ok_let (fun u2 e2 => Ok_some ?_)
  obtain ⟨a1, a2, a3, a4, a5, a6, a7, -⟩ := R.1 g hg
  refine Ru_g R hm hg (fun k i hk => ?_) (fun k i hi => ?_) (fun i hi => nu_ne1 (by omega)) ⟨?_, ?_, ?_, ?_, ?_, ?_, ?_⟩
  · rw [e2, x_hu_ne (by omega), e1, x_hu_ne (by omega)]
  · rw [e2, x_hu_ni hi, e1, x_hu_ni hi]
  · rw [e2, x_hu_ne (by omega), e1, x_hu_eq rfl rfl, nu_eq1 rfl]; rfl
  · rw [e2, x_hu_eq rfl rfl, nu_eq1 rfl, if_neg (by omega)]; rfl
  · rw [e2, x_hu_ne (by omega), e1, x_hu_ne (by omega), nu_ne1 (by omega)]; exact a3
  · rw [e2, x_hu_ne (by omega), e1, x_hu_ne (by omega), nu_ne1 (by omega)]; exact a4
  · rw [e2, x_hu_ne (by omega), e1, x_hu_ne (by omega), nu_ne1 (by omega)]; exact a5
  · rw [e2, x_hu_ne (by omega), e1, x_hu_ne (by omega), nu_ne1 (by omega)]; exact a6
  · rw [e2, x_hu_ne (by omega), e1, x_hu_ne (by omega), nu_ne1 (by omega)]; exact a7
set_option maxRecDepth 16384 in
theorem u_beginSeeking {u : x_H} {w : Nat → Nat} {B : Nat} (R : Ru u w) (hB : Wb B w) (hm : w 552 ≤ 60) (h1 : 1 ≤ B) {g : Nat} (hg : g < 12) (h0 : w (8 * g) = 0) : Ok (fX2_beginSeeking u (nn g)) (fun u' => Ru u' (n_seek w g)) := by
  unfold fX2_beginSeeking n_seek
  rw [u_isGuest hg, xb_some, if_neg nn_one, if_pos (nn_in (by omega) hg), nn_clamp (by omega)]
  refine Ok_let (fun u1 e1 => ?_)
  obtain ⟨a1, a2, a3, a4, a5, a6, a7, -⟩ := R.1 g hg
  have R1 : Ru u1 (nu w (8 * g) 1) := by
    refine Ru_g R hm hg (fun k i hk => ?_) (fun k i hi => ?_) (fun i hi => nu_ne1 (by omega)) ⟨?_, ?_, ?_, ?_, ?_, ?_, ?_⟩
    · rw [e1, x_hu_ne (by omega)]
    · rw [e1, x_hu_ni hi]
    · rw [e1, x_hu_eq rfl rfl, nu_eq1 rfl]; rfl
    · rw [e1, x_hu_ne (by omega), nu_eq1 rfl, if_neg (by omega), a2, if_neg (by omega)]
    · rw [e1, x_hu_ne (by omega), nu_ne1 (by omega)]; exact a3
    · rw [e1, x_hu_ne (by omega), nu_ne1 (by omega)]; exact a4
    · rw [e1, x_hu_ne (by omega), nu_ne1 (by omega)]; exact a5
    · rw [e1, x_hu_ne (by omega), nu_ne1 (by omega)]; exact a6
    · rw [e1, x_hu_ne (by omega), nu_ne1 (by omega)]; exact a7
  refine Ok_bind (u_send (k := 0) (g := g) (r := 0) (a := 0) (t := 0) R1 (Wb_nu hB h1) (by rw [nu_ne1 (by omega)]; exact hm) (by omega) rfl) (fun q hq => Ok_some hq.2)
set_option maxRecDepth 16384 in
theorem Ru_lo {u u' : x_H} {w w' : Nat → Nat} (R : Ru u w) (hm : w 552 ≤ 60) (h1 : ∀ k i, u' k i = u k i) (h3 : ∀ i, w' i = w i) : Ru u' w' := ⟨RuG_of R.1 (fun k i _ => h1 k i) (fun i _ => h3 i), RuI_of R.2.1 (fun k i _ => h1 k i) (fun i _ _ => h3 i), RuL_of R.2.2.1 (fun i => h1 18 i) (fun i _ _ => h3 i), RuH_of R.2.2.2.1 (h1 2 0) (fun r _ => h3 _), RuM_of R.2.2.2.2.1 (fun k i _ => h1 k i) (fun i _ _ => h3 i) hm, RuN_of R.2.2.2.2.2 (fun k i _ => h1 k i) (fun i _ => h3 i)⟩
set_option maxRecDepth 16384 in
theorem u_sendWant {u : x_H} {w : Nat → Nat} {B : Nat} (R : Ru u w) (hB : Wb B w) (hm : w 552 ≤ 60) {g : Nat} (hg : g < 12) (h2 : 2 ≤ w (8 * g)) : Ok (fX2_sendWant u (nn g)) (fun u' => Ru u' (n_want w g)) := by
  unfold fX2_sendWant n_want
  rw [u_isGuest hg, xb_some, if_neg nn_one, if_pos (nn_in (by omega) hg), nn_clamp (by omega)]
  obtain ⟨a1, a2, a3, a4, a5, a6, a7, -⟩ := R.1 g hg
  rw [a2, if_pos h2]
  refine Ok_bind (u_send (k := 2) (g := g) (r := w (8 * g + 1)) (a := 0) (t := 0) R hB hm (by omega) rfl) (fun q hq => ?_)
  obtain ⟨q1, R1⟩ := hq
  have hm2 : n_post w 2 g (w (8 * g + 1)) 0 0 552 ≤ 60 := by rw [n_post_many (by omega) hm]; split <;> omega
  obtain ⟨b1, b2, b3, b4, b5, b6, b7, -⟩ := R1.1 g hg
  rw [q1]
  refine Ok_let (fun u1 e1 => ?_)
  have e0 : u1 0 0 = nn (w 554) := by rw [e1, x_hu_ne (by omega), R1.2.2.2.2.2.1.1, n_post_554 (by omega) hm]
  rw [e0]
  refine Ok_let (fun u2 e2 => Ok_some ?_)
  refine Ru_g R1 hm2 hg (fun k i hk => ?_) (fun k i hi => ?_) (fun i hi => by rw [nu_ne1 (by omega), nu_ne1 (by omega)]) ⟨?_, ?_, ?_, ?_, ?_, ?_, ?_⟩
  · rw [e2, x_hu_ne (by omega), e1, x_hu_ne (by omega)]
  · rw [e2, x_hu_ni hi, e1, x_hu_ni hi]
  · rw [e2, x_hu_ne (by omega), e1, x_hu_ne (by omega), nu_ne1 (by omega), nu_ne1 (by omega)]; exact b1
  · rw [e2, x_hu_ne (by omega), e1, x_hu_ne (by omega), nu_ne1 (by omega), nu_ne1 (by omega), nu_ne1 (by omega), nu_ne1 (by omega)]; exact b2
  · rw [e2, x_hu_ne (by omega), e1, x_hu_eq rfl rfl, nu_ne1 (by omega), nu_eq1 rfl]
  · rw [e2, x_hu_eq rfl rfl, nu_eq1 rfl]
  · rw [e2, x_hu_ne (by omega), e1, x_hu_ne (by omega), nu_ne1 (by omega), nu_ne1 (by omega)]; exact b5
  · rw [e2, x_hu_ne (by omega), e1, x_hu_ne (by omega), nu_ne1 (by omega), nu_ne1 (by omega)]; exact b6
  · rw [e2, x_hu_ne (by omega), e1, x_hu_ne (by omega), nu_ne1 (by omega), nu_ne1 (by omega)]; exact b7
set_option maxRecDepth 16384 in
theorem u_leaveRoom {u : x_H} {w : Nat → Nat} {B : Nat} (R : Ru u w) (hB : Wb B w) (hm : w 552 ≤ 60) {g : Nat} (hg : g < 12) (h2 : 2 ≤ w (8 * g)) : Ok (fX2_leaveRoom u (nn g)) (fun u' => Ru u' (n_leave w g)) := by
  unfold fX2_leaveRoom n_leave
  rw [u_isGuest hg, xb_some, if_neg nn_one, if_pos (nn_in (by omega) hg), nn_clamp (by omega)]
  obtain ⟨a1, a2, a3, a4, a5, a6, a7, -⟩ := R.1 g hg
  rw [a2, if_pos h2]
  refine Ok_bind (u_send (k := 6) (g := g) (r := w (8 * g + 1)) (a := 0) (t := 0) R hB hm (by omega) rfl) (fun q hq => ?_)
  have hm2 : n_post w 6 g (w (8 * g + 1)) 0 0 552 ≤ 60 := by rw [n_post_many (by omega) hm]; split <;> omega
  exact Ok_bind (u_rest hq.2 hm2 hg) (fun q2 hq2 => Ok_some hq2)
set_option maxRecDepth 16384 in
theorem u_hearOffer {u : x_H} {w : Nat → Nat} {B : Nat} (R : Ru u w) (hB : Wb B w) (h9 : B + 16 ≤ 1000000000) (hm : w 552 ≤ 60) {g r : Nat} (hg : g < 12) (hr : r < 16) (h3 : w (8 * g) ≤ 3) : Ok (fX2_hearOffer u (nn g) (nn r)) (fun u' => Ru u' (if w (8 * g) = 1 then n_want (nu (nu w (8 * g) 2) (8 * g + 1) r) g else w)) := by
  unfold fX2_hearOffer
  rw [u_isGuest hg, xb_some, if_neg nn_one, if_pos (nn_in (by omega) hg), nn_clamp (by omega)]
  obtain ⟨a1, a2, a3, a4, a5, a6, a7, -⟩ := R.1 g hg
  rw [a1]
  by_cases c : w (8 * g) = 1
  · rw [if_pos c, if_pos (show nn (w (8 * g)) = (1 : Int32) by rw [c]; rfl)]
    refine Ok_let (fun u1 e1 => ?_)
    refine Ok_let (fun u2 e2 => ?_)
    have R2 : Ru u2 (nu (nu w (8 * g) 2) (8 * g + 1) r) := by
      refine Ru_g R hm hg (fun k i hk => ?_) (fun k i hi => ?_) (fun i hi => by rw [nu_ne1 (by omega), nu_ne1 (by omega)]) ⟨?_, ?_, ?_, ?_, ?_, ?_, ?_⟩
      · rw [e2, x_hu_ne (by omega), e1, x_hu_ne (by omega)]
      · rw [e2, x_hu_ni hi, e1, x_hu_ni hi]
      · rw [e2, x_hu_ne (by omega), e1, x_hu_eq rfl rfl, nu_ne1 (by omega), nu_eq1 rfl]; rfl
      · rw [e2, x_hu_eq rfl rfl, nu_ne1 (by omega), nu_eq1 rfl, nu_eq1 rfl, if_pos (by omega), mm_succ]
      · rw [e2, x_hu_ne (by omega), e1, x_hu_ne (by omega), nu_ne1 (by omega), nu_ne1 (by omega)]; exact a3
      · rw [e2, x_hu_ne (by omega), e1, x_hu_ne (by omega), nu_ne1 (by omega), nu_ne1 (by omega)]; exact a4
      · rw [e2, x_hu_ne (by omega), e1, x_hu_ne (by omega), nu_ne1 (by omega), nu_ne1 (by omega)]; exact a5
      · rw [e2, x_hu_ne (by omega), e1, x_hu_ne (by omega), nu_ne1 (by omega), nu_ne1 (by omega)]; exact a6
      · rw [e2, x_hu_ne (by omega), e1, x_hu_ne (by omega), nu_ne1 (by omega), nu_ne1 (by omega)]; exact a7
    have B2 : Wb (B + 16) (nu (nu w (8 * g) 2) (8 * g + 1) r) := Wb_nu (Wb_nu (Wb_up hB (by omega) h9) (by omega)) (by omega)
    exact Ok_bind (u_sendWant R2 B2 (by rw [nu_ne1 (by omega), nu_ne1 (by omega)]; exact hm) hg (by rw [nu_ne1 (by omega), nu_eq1 rfl]; omega)) (fun q hq => Ok_some hq)
  · rw [if_neg c, if_neg (show ¬ nn (w (8 * g)) = (1 : Int32) from fun h => c ((nn_inj (b := 1) (by omega) (by omega)).mp h))]
    exact Ok_some R
set_option maxRecDepth 16384 in
theorem u_heeds {u : x_H} {w : Nat → Nat} {B : Nat} (R : Ru u w) (Z : Wz w) (hB : Wb B w) {g r a : Nat} (hg : g < 12) (hr : r < 16) (ha : a < 2147483648) : fX1_heeds u (nn g) (nn r) (mm a) = some (nn (if n_heeds w g r a then 1 else 0)) := by
  unfold fX1_heeds
  obtain ⟨a1, a2, a3, a4, a5, a6, a7, -⟩ := R.1 g hg
  have zg := Z.1 g hg
  have b0 := hB.1
  have b4 := hB.2 (8 * g + 4)
  rw [u_isGuest hg, xb_some, if_neg nn_one, if_pos (nn_in (by omega) hg), nn_clamp (by omega), a1, a2, a3, ← mm_succ r]
  by_cases c1 : a = w (8 * g + 4)
  · rw [if_pos (by rw [c1])]
    by_cases c2 : 2 ≤ w (8 * g)
    · rw [if_pos c2]
      by_cases c3 : w (8 * g + 1) = r
      · rw [if_pos (by rw [c3]), if_pos (show n_heeds w g r a from ⟨by omega, c3, c1.symm⟩)]
        rcases (show w (8 * g) = 2 ∨ w (8 * g) = 3 by omega) with h | h <;> rw [h]
        · rfl
        · rfl
      · rw [if_neg (fun h => c3 (by have := (mm_inj (by omega) (by omega)).mp h; omega)), if_neg (fun h : n_heeds w g r a => c3 h.2.1)]
        rfl
    · rw [if_neg c2, if_neg (fun h => by have := (mm_inj (by omega) (by omega)).mp h; omega), if_neg (fun h : n_heeds w g r a => c2 h.1)]
      rfl
  · rw [if_neg (fun h => c1 ((mm_inj (by omega) (by omega)).mp h)), if_neg (fun h : n_heeds w g r a => c1 h.2.2.symm)]
    rfl
set_option maxRecDepth 16384 in
theorem u_take {u : x_H} {w : Nat → Nat} (R : Ru u w) (hm : w 552 ≤ 60) {g t : Nat} (hg : g < 12) (h2 : w (8 * g) = 2 ∨ w (8 * g) = 3) : Ok (fX1_take u (nn g) (nn t)) (fun u' => Ru u' (nu (nu (nu (nu w (8 * g + 6) (w (8 * g + 6) + if w (8 * g) = 2 then 1 else 0)) (8 * g) 3) (8 * g + 2) (w (8 * g + 5))) (8 * g + 3) t)) := by
  unfold fX1_take fX1_take_j28
  rw [u_isGuest hg, xb_some, if_neg nn_one, if_pos (nn_in (by omega) hg)]
  have eg : (nn g).toNatClampNeg = g := nn_clamp (by omega)
  obtain ⟨a1, a2, a3, a4, a5, a6, a7, -⟩ := R.1 g hg
  have J : ∀ u6 : x_H, (∀ k i, ¬ (k = 11 ∧ i = g) → u6 k i = u k i) → u6 11 g = nn (w (8 * g + 6) + if w (8 * g) = 2 then 1 else 0) → Ok (if x_in (nn g) 12 then x_let (x_hu u6 5 (Int32.toNatClampNeg (nn g)) (3 : Int32)) fun u8 => x_let (x_hu u8 9 (Int32.toNatClampNeg (nn g)) (u8 8 (Int32.toNatClampNeg (nn g)))) fun u11 => x_let (x_hu u11 10 (Int32.toNatClampNeg (nn g)) (nn t)) fun u13 => some (u13) else none) (fun u' => Ru u' (nu (nu (nu (nu w (8 * g + 6) (w (8 * g + 6) + if w (8 * g) = 2 then 1 else 0)) (8 * g) 3) (8 * g + 2) (w (8 * g + 5))) (8 * g + 3) t)) := by
    intro u6 h6 h7
    rw [if_pos (nn_in (by omega) hg), eg]
    refine Ok_let (fun u1 e1 => ?_)
    refine Ok_let (fun u2 e2 => ?_)
    refine Ok_let (fun u3 e3 => Ok_some ?_)
    refine Ru_g R hm hg (fun k i hk => ?_) (fun k i hi => ?_) (fun i hi => by rw [nu_ne1 (by omega), nu_ne1 (by omega), nu_ne1 (by omega), nu_ne1 (by omega)]) ⟨?_, ?_, ?_, ?_, ?_, ?_, ?_⟩
    · rw [e3, x_hu_ne (by omega), e2, x_hu_ne (by omega), e1, x_hu_ne (by omega), h6 _ _ (by omega)]
    · rw [e3, x_hu_ni hi, e2, x_hu_ni hi, e1, x_hu_ni hi, h6 _ _ (by omega)]
    · rw [e3, x_hu_ne (by omega), e2, x_hu_ne (by omega), e1, x_hu_eq rfl rfl, nu_ne1 (by omega), nu_ne1 (by omega), nu_eq1 rfl]; rfl
    · rw [e3, x_hu_ne (by omega), e2, x_hu_ne (by omega), e1, x_hu_ne (by omega), h6 _ _ (by omega), nu_ne1 (by omega), nu_ne1 (by omega), nu_eq1 rfl, if_pos (by omega), nu_ne1 (by omega), nu_ne1 (by omega), nu_ne1 (by omega), nu_ne1 (by omega), a2, if_pos (by omega)]
    · rw [e3, x_hu_ne (by omega), e2, x_hu_ne (by omega), e1, x_hu_ne (by omega), h6 _ _ (by omega), nu_ne1 (by omega), nu_ne1 (by omega), nu_ne1 (by omega), nu_ne1 (by omega)]; exact a3
    · rw [e3, x_hu_ne (by omega), e2, x_hu_ne (by omega), e1, x_hu_ne (by omega), h6 _ _ (by omega), nu_ne1 (by omega), nu_ne1 (by omega), nu_ne1 (by omega), nu_ne1 (by omega)]; exact a4
    · rw [e3, x_hu_ne (by omega), e2, x_hu_eq rfl rfl, e1, x_hu_ne (by omega), h6 _ _ (by omega), nu_ne1 (by omega), nu_eq1 rfl]; exact a4
    · rw [e3, x_hu_eq rfl rfl, nu_eq1 rfl]
    · rw [e3, x_hu_ne (by omega), e2, x_hu_ne (by omega), e1, x_hu_ne (by omega), h7, nu_ne1 (by omega), nu_ne1 (by omega), nu_ne1 (by omega), nu_eq1 rfl]
  rw [show u 5 (nn g).toNatClampNeg = nn (w (8 * g)) by rw [eg]; exact a1]
  by_cases c : w (8 * g) = 2
  · rw [if_pos (show nn (w (8 * g)) = (2 : Int32) by rw [c]; rfl)]
    refine Ok_let (fun u6 e6 => ?_)
    rw [eg, a7, show nn (w (8 * g + 6)) + 1 = nn (w (8 * g + 6) + 1) from nn_add _ 1] at e6
    refine J u6 (fun k i h => ?_) ?_
    · by_cases ck : k = 11
      · rw [e6, x_hu_ni (fun hi => h ⟨ck, hi⟩)]
      · rw [e6, x_hu_ne ck]
    · rw [e6, x_hu_eq rfl rfl, if_pos c]
  · rw [if_neg (show ¬ nn (w (8 * g)) = (2 : Int32) from fun h => c ((nn_inj (b := 2) (by omega) (by omega)).mp h))]
    exact J u (fun k i _ => rfl) (by rw [if_neg c]; exact a7)
