/- the first loop: a room that is offered to the guest -/
def n_offd (w : Nat → Nat) (g : Nat) : Nat → Nat
  | 0 => 0
  | d + 1 => if n_has w (15 - d) 1 g then 15 - d + 1 else n_offd w g d
set_option maxRecDepth 16384 in
theorem n_offd_is {w : Nat → Nat} {g : Nat} : ∀ d, d ≤ 16 → (n_offd w g d = 0 ∧ ∀ r, 16 - d ≤ r → r < 16 → ¬ n_has w r 1 g) ∨ (∃ r, n_offd w g d = r + 1 ∧ r < 16 ∧ n_has w r 1 g) := by
  intro d
  induction d with
  | zero => intro _; exact Or.inl ⟨rfl, fun r h1 h2 => by omega⟩
  | succ d ih =>
    intro hd
    rw [n_offd]
    by_cases c : n_has w (15 - d) 1 g
    · rw [if_pos c]; exact Or.inr ⟨15 - d, rfl, by omega, c⟩
    · rw [if_neg c]
      rcases ih (by omega) with h | h
      · refine Or.inl ⟨h.1, fun r h1 h2 => ?_⟩
        by_cases e : r = 15 - d
        · rw [e]; exact c
        · exact h.2 r (by omega) h2
      · exact Or.inr h
set_option maxRecDepth 16384 in
theorem u_roomTail {u : x_H} {w : Nat → Nat} (R : Ru u w) (Z : Wz w) {g : Nat} (hg : g < 12) : (Option.bind (fX3_reservedRoom u (nn g)) fun r2 => (Option.bind (fX3_canBeOffered u r2 (nn g)) fun r4 => (if r4 = 0 then (Option.bind (fX6_isGuest (nn g)) fun r7 => (if r7 = 0 then fX3_roomToOffer_j70 u (nn g) (-1 : Int32) else (if x_in (nn g) 12 then fX3_roomToOffer_j70 u (nn g) (u 17 (Int32.toNatClampNeg (nn g))) else none))) else some (r2)))) = some (mm (n_pick w g)) := by
  have zg := Z.1 g hg
  rw [u_reservedRoom R Z hg, xb_some]
  have T : (Option.bind (fX6_isGuest (nn g)) fun r7 => (if r7 = 0 then fX3_roomToOffer_j70 u (nn g) (-1 : Int32) else (if x_in (nn g) 12 then fX3_roomToOffer_j70 u (nn g) (u 17 (Int32.toNatClampNeg (nn g))) else none))) = some (mm (if w (8 * g + 7) ≠ 0 ∧ n_can w (w (8 * g + 7) - 1) g then w (8 * g + 7) else n_first w g 16)) := by
    rw [u_isGuest hg, xb_some, if_neg nn_one, if_pos (nn_in (by omega) hg), nn_clamp (by omega), (R.1 g hg).2.2.2.2.2.2.2]
    unfold fX3_roomToOffer_j70
    have F := u_first R Z hg 16 400 (by omega) (by omega)
    have F' : fX3_roomToOffer_b85 400 u (nn g) 0 = some (mm (n_first w g 16)) := F
    by_cases c : w (8 * g + 7) = 0
    · rw [c, u_canBe0, xb_some, if_pos (by decide), if_neg (fun h => h.1 rfl)]
      exact F'
    · obtain ⟨d, hd⟩ : ∃ d, w (8 * g + 7) = d + 1 := ⟨w (8 * g + 7) - 1, by omega⟩
      rw [hd, mm_succ, Nat.add_sub_cancel, u_canBeOffered R Z (by omega) hg, xb_some]
      by_cases c2 : n_can w d g
      · rw [if_pos c2, if_neg (by decide), if_pos ⟨by omega, c2⟩, mm_succ]
      · rw [if_neg c2, if_pos (by decide), if_neg (fun h => c2 h.2)]
        exact F'
  unfold n_pick
  rcases n_res_is (w := w) (g := g) 16 (by omega) with ⟨f1, f2⟩ | ⟨r, f1, f2, f3⟩
  · rw [f1, u_canBe0, xb_some, if_pos (by decide), T, if_neg (show ¬ ((0 : Nat) ≠ 0 ∧ n_can w (0 - 1) g) from fun h => h.1 rfl)]
  · rw [f1, mm_succ, u_canBeOffered R Z f2 hg, xb_some, Nat.add_sub_cancel]
    by_cases c2 : n_can w r g
    · rw [if_pos c2, if_neg (by decide), if_pos ⟨by omega, c2⟩, mm_succ]
    · rw [if_neg c2, if_pos (by decide), T, if_neg (show ¬ (r + 1 ≠ 0 ∧ n_can w r g) from fun h => c2 h.2)]
set_option maxRecDepth 16384 in
theorem u_offd {u : x_H} {w : Nat → Nat} (R : Ru u w) (Z : Wz w) {g : Nat} (hg : g < 12) : ∀ (d n : Nat), d ≤ 16 → d < n → fX3_roomToOffer_b2 n u (nn g) (nn (16 - d)) = some (mm (if n_offd w g d ≠ 0 then n_offd w g d else n_pick w g)) := by
  intro d
  induction d with
  | zero =>
    intro n hd hn
    obtain ⟨n, rfl⟩ : ∃ m, n = m + 1 := ⟨n - 1, by omega⟩
    rw [fX3_roomToOffer_b2, if_pos (by decide), u_roomTail R Z hg]
    rfl
  | succ d ih =>
    intro n hd hn
    obtain ⟨n, rfl⟩ : ∃ m, n = m + 1 := ⟨n - 1, by omega⟩
    have e1 : 16 - (d + 1) = 15 - d := by omega
    have e2 : 16 - d = 15 - d + 1 := by omega
    have I := ih n (by omega) (by omega)
    rw [e2] at I
    obtain ⟨a1, a2, -⟩ := R.2.1 (15 - d) (by omega)
    have zr := Z.2.1.1 (15 - d) (by omega)
    have e3 : nn (15 - d) + (1 : Int32) = nn (15 - d + 1) := nn_add _ 1
    rw [fX3_roomToOffer_b2, n_offd, e1, if_neg (fun h => by have := (nn_le (a := 16) (by omega) (by omega)).mp h; omega), if_pos (nn_in (by omega) (by omega)), nn_clamp (by omega), a1, a2, e3, x_let_n]
    by_cases c1 : w (96 + 6 * (15 - d)) = 1
    · rw [if_pos (show nn (w (96 + 6 * (15 - d))) = (1 : Int32) by rw [c1]; rfl), if_pos (Or.inl c1), mm_succ]
      by_cases c2 : w (96 + 6 * (15 - d) + 2) = g
      · rw [if_pos (by rw [c2]), if_pos (show n_has w (15 - d) 1 g from ⟨c1, c2⟩), if_pos (by omega), mm_succ]
      · rw [if_neg (fun h => c2 ((nn_inj (by omega) (by omega)).mp h)), if_neg (fun h : n_has w (15 - d) 1 g => c2 h.2)]
        exact I
    · rw [if_neg (show ¬ nn (w (96 + 6 * (15 - d))) = (1 : Int32) from fun h => c1 ((nn_inj (b := 1) (by omega) (by omega)).mp h)), if_neg (fun h : n_has w (15 - d) 1 g => c1 h.1)]
      exact I
set_option maxRecDepth 16384 in
theorem u_roomToOffer {u : x_H} {w : Nat → Nat} (R : Ru u w) (Z : Wz w) {g : Nat} (hg : g < 12) : fX3_roomToOffer u (nn g) = some (mm (n_choice w g)) := by
  have h := u_offd R Z hg 16 400 (by omega) (by omega)
  have h' : fX3_roomToOffer u (nn g) = some (mm (if n_offd w g 16 ≠ 0 then n_offd w g 16 else n_pick w g)) := h
  rw [h']
  rcases n_offd_is (w := w) (g := g) 16 (by omega) with ⟨f1, f2⟩ | ⟨r, f1, f2, f3⟩
  · rw [if_neg (by omega), n_choice_pick Z (fun r hr => f2 r (by omega) hr)]
  · rw [f1, if_pos (by omega), n_choice_off Z f2 f3]
set_option maxRecDepth 16384 in
theorem u_isLeasedTo {u : x_H} {w : Nat → Nat} (R : Ru u w) (Z : Wz w) {r g : Nat} (hr : r < 16) (hg : g < 12) : fX3_isLeasedTo u (nn r) (nn g) = some (nn (if n_has w r 2 g then 1 else 0)) := by
  unfold fX3_isLeasedTo
  obtain ⟨a1, a2, a3, a4, a5⟩ := R.2.1 r hr
  have zr := Z.2.1.1 r hr
  rw [if_neg (fun h => (nn_neg (by omega)).mp h), if_neg (fun h => by have := (nn_le (a := 16) (by omega) (by omega)).mp h; omega), if_pos (nn_in (by omega) hr), nn_clamp (by omega), a1, a2]
  by_cases c1 : w (96 + 6 * r) = 2
  · rw [if_pos (show nn (w (96 + 6 * r)) = (2 : Int32) by rw [c1]; rfl), if_pos (Or.inr c1), mm_succ]
    by_cases c2 : w (96 + 6 * r + 2) = g
    · rw [if_pos (by rw [c2]), if_pos (show n_has w r 2 g from ⟨c1, c2⟩)]; rfl
    · rw [if_neg (fun h => c2 ((nn_inj (by omega) (by omega)).mp h)), if_neg (fun h : n_has w r 2 g => c2 h.2)]; rfl
  · rw [if_neg (show ¬ nn (w (96 + 6 * r)) = (2 : Int32) from fun h => c1 ((nn_inj (b := 2) (by omega) (by omega)).mp h)), if_neg (fun h : n_has w r 2 g => c1 h.1)]; rfl
set_option maxRecDepth 16384 in
theorem u_isHeldFor {u : x_H} {w : Nat → Nat} (R : Ru u w) (Z : Wz w) {r g : Nat} (hr : r < 16) (hg : g < 12) : fX3_isHeldFor u (nn r) (nn g) = some (nn (if n_has w r 2 g ∨ n_has w r 1 g then 1 else 0)) := by
  unfold fX3_isHeldFor
  obtain ⟨a1, a2, a3, a4, a5⟩ := R.2.1 r hr
  have zr := Z.2.1.1 r hr
  rw [u_isRoom hr, xb_some, if_neg nn_one, if_pos (nn_in (by omega) hr), nn_clamp (by omega), a1, a2, ← mm_succ g]
  by_cases c0 : w (96 + 6 * r) = 1 ∨ w (96 + 6 * r) = 2
  · rw [if_pos c0]
    by_cases c2 : w (96 + 6 * r + 2) = g
    · rw [if_pos (by rw [c2])]
      by_cases c1 : w (96 + 6 * r) = 1
      · rw [if_pos (show nn (w (96 + 6 * r)) = (1 : Int32) by rw [c1]; rfl), if_pos (show n_has w r 2 g ∨ n_has w r 1 g from Or.inr ⟨c1, c2⟩)]; rfl
      · have c3 : w (96 + 6 * r) = 2 := c0.resolve_left c1
        rw [if_neg (show ¬ nn (w (96 + 6 * r)) = (1 : Int32) from fun h => c1 ((nn_inj (b := 1) (by omega) (by omega)).mp h)), if_pos (show nn (w (96 + 6 * r)) = (2 : Int32) by rw [c3]; rfl), if_pos (show n_has w r 2 g ∨ n_has w r 1 g from Or.inl ⟨c3, c2⟩)]; rfl
    · rw [if_neg (fun h => c2 (by have := (mm_inj (by omega) (by omega)).mp h; omega)), if_neg (fun h : n_has w r 2 g ∨ n_has w r 1 g => h.elim (fun h => c2 h.2) (fun h => c2 h.2))]; rfl
  · rw [if_neg c0, if_neg (fun h => by have := (mm_inj (by omega) (by omega)).mp h; omega), if_neg (fun h : n_has w r 2 g ∨ n_has w r 1 g => h.elim (fun h => c0 (Or.inr h.1)) (fun h => c0 (Or.inl h.1)))]; rfl
set_option maxRecDepth 16384 in
theorem u_offer {u : x_H} {w : Nat → Nat} (R : Ru u w) (hm : w 552 ≤ 60) {r g t : Nat} (hr : r < 16) (hs : w (96 + 6 * r) ≠ 2) : Ok (fX3_offer u (nn r) (nn g) (nn t)) (fun u' => Ru u' (nu (n_settle w r 1 (t + w 556)) (96 + 6 * r + 2) g)) := by
  unfold fX3_offer
  rw [u_isRoom hr, xb_some, if_neg nn_one, if_pos (nn_in (by omega) hr), nn_clamp (by omega)]
  refine Ok_let (fun u1 e1 => ?_)
  refine Ok_let (fun u2 e2 => ?_)
  have e22 : u2 2 2 = nn (w 556) := by rw [e2, x_hu_ne (by omega), e1, x_hu_ne (by omega)]; exact R.2.2.2.2.2.2.1.2.1
  rw [e22, nn_add]
  refine Ok_let (fun u3 e3 => Ok_some ?_)
  obtain ⟨w', hw'⟩ : ∃ z, z = nu (n_settle w r 1 (t + w 556)) (96 + 6 * r + 2) g := ⟨_, rfl⟩
  rw [← hw']
  have W : ∀ i, i ≠ 96 + 6 * r → i ≠ 96 + 6 * r + 1 → i ≠ 96 + 6 * r + 2 → w' i = w i := fun i h1 h2 h3 => by rw [hw', nu_ne1 h3, n_settle_at h1 h2]
  have W0 : w' (96 + 6 * r) = 1 := by rw [hw', nu_ne1 (by omega)]; unfold n_settle; rw [nu_ne1 (by omega), nu_eq1 rfl]
  have W1 : w' (96 + 6 * r + 1) = t + w 556 := by rw [hw', nu_ne1 (by omega)]; unfold n_settle; rw [nu_eq1 rfl]
  have W2 : w' (96 + 6 * r + 2) = g := by rw [hw']; exact nu_eq1 rfl
  refine Ru_r R hm hr (fun k i h1 h2 => ?_) (fun k i h1 h2 => ?_) (fun i hi => W i (by omega) (by omega) (by omega)) (fun g' hg' => ?_) ⟨?_, ?_, ?_, ?_⟩
  · rw [e3, x_hu_ne (by omega), e2, x_hu_ne (by omega), e1, x_hu_ne (by omega)]
  · rw [e3, x_hu_ni h2, e2, x_hu_ni h2, e1, x_hu_ni h2]
  · rw [e3, x_hu_ne (by omega), e2, x_hu_ne (by omega), e1, x_hu_ne (by omega), R.2.2.1 g' hg']
    have hls : n_ls w' g' 16 = n_ls w g' 16 := n_ls_of 16 (by omega) (fun r' hr' => by
      by_cases c : r' = r
      · subst c
        rw [W0]
        exact ⟨fun h => absurd h.1 (by omega), fun h => absurd h.1 hs⟩
      · rw [W _ (by omega) (by omega) (by omega), W _ (by omega) (by omega) (by omega)])
    rw [hls]
  · rw [e3, x_hu_ne (by omega), e2, x_hu_ne (by omega), e1, x_hu_eq rfl rfl, W0]; rfl
  · rw [e3, x_hu_ne (by omega), e2, x_hu_eq rfl rfl, W0, if_pos (Or.inl rfl), W2, mm_succ]
  · intro _; rw [e3, x_hu_eq rfl rfl, W1]
  · rw [W0]; intro h; omega
set_option maxRecDepth 16384 in
theorem u_answerSeek {u : x_H} {w : Nat → Nat} {B : Nat} (R : Ru u w) (Z : Wz w) (hB : Wb B w) (h9 : B + 300 ≤ 1000000000) {g : Nat} (hg : g < 12) : Ok (fX2_answerSeek u (nn g)) (fun u' => Ru u' (n_innSeeks w g)) := by
  unfold fX2_answerSeek n_innSeeks
  have hc := n_choice_le Z hg
  have hm := Z.2.2.1.2
  have hn := Z.2.2.2
  unfold WzN at hn
  have b4 := hB.2 554
  rw [u_roomToOffer R Z hg, xb_some]
  by_cases c : n_choice w g = 0
  · rw [if_pos c, if_pos (show mm (n_choice w g) = (-1 : Int32) by rw [c]; rfl)]; exact Ok_some R
  · rw [if_neg c, if_neg (show ¬ mm (n_choice w g) = (-1 : Int32) from fun h => c ((mm_inj (b := 0) (by omega) (by omega)).mp h))]
    obtain ⟨d, hd⟩ : ∃ d, n_choice w g = d + 1 := ⟨n_choice w g - 1, by omega⟩
    rw [hd, mm_succ, Nat.add_sub_cancel, R.2.2.2.2.2.1.1]
    have hs : w (96 + 6 * d) ≠ 2 := by
      rcases n_choice_is hd with h | h
      · rw [h.1]; omega
      · omega
    refine Ok_bind (u_offer R hm (by omega) hs) (fun u1 R1 => ?_)
    have hB2 : Wb (B + 200) (nu (n_settle w d 1 (w 554 + w 556)) (96 + 6 * d + 2) g) := Wb_nu (Wb_settle (Wb_up hB (by omega) (by omega)) (by omega) (by omega)) (by omega)
    have m2 : nu (n_settle w d 1 (w 554 + w 556)) (96 + 6 * d + 2) g 552 = w 552 := by rw [nu_ne1 (by omega), n_settle_at (by omega) (by omega)]
    exact Ok_bind (u_send (k := 1) (g := g) (r := d) (a := 0) (t := 0) R1 hB2 (by rw [m2]; exact hm) (by omega) (mm_succ d).symm) (fun q hq => Ok_some hq.2)
