def n_offd (w : Nat → Nat) (g : Nat) : Nat → Nat
  | 0 => 0
  | d + 1 => if n_has w (15 - d) 1 g then 15 - d + 1 else n_offd w g d
set_option maxRecDepth 16384 in
theorem n_offd_is {w : Nat → Nat} {g : Nat} : ∀ d, d ≤ 16 → (n_offd w g d = 0 ∧ ∀ r, 16 - d ≤ r → r < 16 → ¬ n_has w r 1 g) ∨ (∃ r, n_offd w g d = r + 1 ∧ r < 16 ∧ n_has w r 1 g) := by
  intro d
  induction d with
  | zero => intro _; exact Or.inl ⟨rfl, fun r h1 h2 => by omega⟩
  | succ d ih =>
    intro hd
    rw [n_offd]
    by_cases c : n_has w (15 - d) 1 g
    · rw [if_pos c]; exact Or.inr ⟨15 - d, rfl, by omega, c⟩
    · rw [if_neg c]
      rcases ih (by omega) with h | h
      · refine Or.inl ⟨h.1, fun r h1 h2 => ?_⟩
        by_cases e : r = 15 - d
        · rw [e]; exact c
        · exact h.2 r (by omega) h2
      · exact Or.inr h
set_option maxRecDepth 16384 in
theorem u_roomTail {u : x_H} {w : Nat → Nat} (R : Ru u w) (Z : Wz w) {g : Nat} (hg : g < 12) : (Option.bind (fX3_reservedRoom u (nn g)) fun r2 => (Option.bind (fX3_canBeOffered u r2 (nn g)) fun r4 => (if r4 = 0 then (Option.bind (fX6_isGuest (nn g)) fun r7 => (if r7 = 0 then fX3_roomToOffer_j70 u (nn g) (-1 : Int32) else (if x_in (nn g) 12 then fX3_roomToOffer_j70 u (nn g) (u 17 (Int32.toNatClampNeg (nn g))) else none))) else some (r2)))) = some (mm (n_pick w g)) := by
  have zg := Z.1 g hg
  rw [u_reservedRoom R Z hg, xb_some]
  have T : (Option.bind (fX6_isGuest (nn g)) fun r7 => (if r7 = 0 then fX3_roomToOffer_j70 u (nn g) (-1 : Int32) else (if x_in (nn g) 12 then fX3_roomToOffer_j70 u (nn g) (u 17 (Int32.toNatClampNeg (nn g))) else none))) = some (mm (if w (8 * g + 7) ≠ 0 ∧ n_can w (w (8 * g + 7) - 1) g then w (8 * g + 7) else n_first w g 16)) := by
    rw [u_isGuest hg, xb_some, if_neg nn_one, if_pos (nn_in (by omega) hg), nn_clamp (by omega), (R.1 g hg).2.2.2.2.2.2.2]
    unfold fX3_roomToOffer_j70
    have F := u_first R Z hg 16 400 (by omega) (by omega)
    have F' : fX3_roomToOffer_b85 400 u (nn g) 0 = some (mm (n_first w g 16)) := F
    by_cases c : w (8 * g + 7) = 0
    · rw [c, u_canBe0, xb_some, if_pos (by decide), if_neg (fun h => h.1 rfl)]
      exact F'
    · obtain ⟨d, hd⟩ : ∃ d, w (8 * g + 7) = d + 1 := ⟨w (8 * g + 7) - 1, by omega⟩
      rw [hd, mm_succ, Nat.add_sub_cancel, u_canBeOffered R Z (by omega) hg, xb_some]
      by_cases c2 : n_can w d g
      · rw [if_pos c2, if_neg (by decide), if_pos ⟨by omega, c2⟩, mm_succ]
      · rw [if_neg c2, if_pos (by decide), if_neg (fun h => c2 h.2)]
        exact F'
  unfold n_pick
  rcases n_res_is (w := w) (g := g) 16 (by omega) with ⟨f1, f2⟩ | ⟨r, f1, f2, f3⟩
  · rw [f1, u_canBe0, xb_some, if_pos (by decide), T, if_neg (show ¬ ((0 : Nat) ≠ 0 ∧ n_can w (0 - 1) g) from fun h => h.1 rfl)]
  · rw [f1, mm_succ, u_canBeOffered R Z f2 hg, xb_some, Nat.add_sub_cancel]
    by_cases c2 : n_can w r g
    · rw [if_pos c2, if_neg (by decide), if_pos ⟨by omega, c2⟩, mm_succ]
    · rw [if_neg c2, if_pos (by decide), T, if_neg (show ¬ (r + 1 ≠ 0 ∧ n_can w r g) from fun h => c2 h.2)]
set_option maxRecDepth 16384 in
theorem u_offd {u : x_H} {w : Nat → Nat} (R : Ru u w) (Z : Wz w) {g : Nat} (hg : g < 12) : ∀ (d n : Nat), d ≤ 16 → d < n → fX3_roomToOffer_b2 n u (nn g) (nn (16 - d)) = some (mm (if n_offd w g d ≠ 0 then n_offd w g d else n_pick w g)) := by
  intro d
  induction d with
  | zero =>
    intro n hd hn
    obtain ⟨n, rfl⟩ : ∃ m, n = m + 1 := ⟨n - 1, by omega⟩
    rw [fX3_roomToOffer_b2, if_pos (by decide), u_roomTail R Z hg]
    rfl
  | succ d ih =>
    intro n hd hn
    obtain ⟨n, rfl⟩ : ∃ m, n = m + 1 := ⟨n - 1, by omega⟩
    have e1 : 16 - (d + 1) = 15 - d := by omega
    have e2 : 16 - d = 15 - d + 1 := by omega
    have I := ih n (by omega) (by omega)
    rw [e2] at I
    obtain ⟨a1, a2, -⟩ := R.2.1 (15 - d) (by omega)
    have zr := Z.2.1.1 (15 - d) (by omega)
    have e3 : nn (15 - d) + (1 : Int32) = nn (15 - d + 1) := nn_add _ 1
    rw [fX3_roomToOffer_b2, n_offd, e1, if_neg (fun h => by have := (nn_le (a := 16) (by omega) (by omega)).mp h; omega), if_pos (nn_in (by omega) (by omega)), nn_clamp (by omega), a1, a2, e3, x_let_n]
    by_cases c1 : w (96 + 6 * (15 - d)) = 1
    · rw [if_pos (show nn (w (96 + 6 * (15 - d))) = (1 : Int32) by rw [c1]; rfl), if_pos (Or.inl c1), mm_succ]
      by_cases c2 : w (96 + 6 * (15 - d) + 2) = g
      · rw [if_pos (by rw [c2]), if_pos (show n_has w (15 - d) 1 g from ⟨c1, c2⟩), if_pos (by omega), mm_succ]
      · rw [if_neg (fun h => c2 ((nn_inj (by omega) (by omega)).mp h)), if_neg (fun h : n_has w (15 - d) 1 g => c2 h.2)]
        exact I
    · rw [if_neg (show ¬ nn (w (96 + 6 * (15 - d))) = (1 : Int32) from fun h => c1 ((nn_inj (b := 1) (by omega) (by omega)).mp h)), if_neg (fun h : n_has w (15 - d) 1 g => c1 h.1)]
      exact I
set_option maxRecDepth 16384 in
theorem u_roomToOffer {u : x_H} {w : Nat → Nat} (R : Ru u w) (Z : Wz w) {g : Nat} (hg : g < 12) : fX3_roomToOffer u (nn g) = some (mm (n_choice w g)) := by
  have h := u_offd R Z hg 16 400 (by omega) (by omega)
  have h' : fX3_roomToOffer u (nn g) = some (mm (if n_offd w g 16 ≠ 0 then n_offd w g 16 else n_pick w g)) := h
  rw [h']
  rcases n_offd_is (w := w) (g := g) 16 (by omega) with ⟨f1, f2⟩ | ⟨r, f1, f2, f3⟩
  · rw [if_neg (by omega), n_choice_pick Z (fun r hr => f2 r (by omega) hr)]
  · rw [f1, if_pos (by omega), n_choice_off Z f2 f3]
set_option maxRecDepth 16384 in
theorem u_isLeasedTo {u : x_H} {w : Nat → Nat} (R : Ru u w) (Z : Wz w) {r g : Nat} (hr : r < 16) (hg : g < 12) : fX3_isLeasedTo u (nn r) (nn g) = some (nn (if n_has w r 2 g then 1 else 0)) := by
  unfold fX3_isLeasedTo
  obtain ⟨a1, a2, a3, a4, a5⟩ := R.2.1 r hr
  have zr := Z.2.1.1 r hr
  rw [if_neg (fun h => (nn_neg (by omega)).mp h), if_neg (fun h => by have := (nn_le (a := 16) (by omega) (by omega)).mp h; omega), if_pos (nn_in (by omega) hr), nn_clamp (by omega), a1, a2]
  by_cases c1 : w (96 + 6 * r) = 2
  · rw [if_pos (show nn (w (96 + 6 * r)) = (2 : Int32) by rw [c1]; rfl), if_pos (Or.inr c1), mm_succ]
    by_cases c2 : w (96 + 6 * r + 2) = g
    · rw [if_pos (by rw [c2]), if_pos (show n_has w r 2 g from ⟨c1, c2⟩)]; rfl
    · rw [if_neg (fun h => c2 ((nn_inj (by omega) (by omega)).mp h)), if_neg (fun h : n_has w r 2 g => c2 h.2)]; rfl
  · rw [if_neg (show ¬ nn (w (96 + 6 * r)) = (2 : Int32) from fun h => c1 ((nn_inj (b := 2) (by omega) (by omega)).mp h)), if_neg (fun h : n_has w r 2 g => c1 h.1)]; rfl
set_option maxRecDepth 16384 in
theorem u_isHeldFor {u : x_H} {w : Nat → Nat} (R : Ru u w) (Z : Wz w) {r g : Nat} (hr : r < 16) (hg : g < 12) : fX3_isHeldFor u (nn r) (nn g) = some (nn (if n_has w r 2 g ∨ n_has w r 1 g then 1 else 0)) := by
  unfold fX3_isHeldFor
  obtain ⟨a1, a2, a3, a4, a5⟩ := R.2.1 r hr
  have zr := Z.2.1.1 r hr
  rw [u_isRoom hr, xb_some, if_neg nn_one, if_pos (nn_in (by omega) hr), nn_clamp (by omega), a1, a2, ← mm_succ g]
  by_cases c0 : w (96 + 6 * r) = 1 ∨ w (96 + 6 * r) = 2
  · rw [if_pos c0]
    by_cases c2 : w (96 + 6 * r + 2) = g
    · rw [if_pos (by rw [c2])]
      by_cases c1 : w (96 + 6 * r) = 1
      · rw [if_pos (show nn (w (96 + 6 * r)) = (1 : Int32) by rw [c1]; rfl), if_pos (show n_has w r 2 g ∨ n_has w r 1 g from Or.inr ⟨c1, c2⟩)]; rfl
      · have c3 : w (96 + 6 * r) = 2 := c0.resolve_left c1
        rw [if_neg (show ¬ nn (w (96 + 6 * r)) = (1 : Int32) from fun h => c1 ((nn_inj (b := 1) (by omega) (by omega)).mp h)), if_pos (show nn (w (96 + 6 * r)) = (2 : Int32) by rw [c3]; rfl), if_pos (show n_has w r 2 g ∨ n_has w r 1 g from Or.inl ⟨c3, c2⟩)]; rfl
    · rw [if_neg (fun h => c2 (by have := (mm_inj (by omega) (by omega)).mp h; omega)), if_neg (fun h : n_has w r 2 g ∨ n_has w r 1 g => h.elim (fun h => c2 h.2) (fun h => c2 h.2))]; rfl
  · rw [if_neg c0, if_neg (fun h => by have := (mm_inj (by omega) (by omega)).mp h; omega), if_neg (fun h : n_has w r 2 g ∨ n_has w r 1 g => h.elim (fun h => c0 (Or.inr h.1)) (fun h => c0 (Or.inl h.1)))]; rfl
set_option maxRecDepth 16384 in
theorem u_offer {u : x_H} {w : Nat → Nat} (R : Ru u w) (hm : w 552 ≤ 60) {r g t : Nat} (hr : r < 16) (hs : w (96 + 6 * r) ≠ 2) : Ok (fX3_offer u (nn r) (nn g) (nn t)) (fun u' => Ru u' (nu (n_settle w r 1 (t + w 556)) (96 + 6 * r + 2) g)) := by
  unfold fX3_offer
  rw [u_isRoom hr, xb_some, if_neg nn_one, if_pos (nn_in (by omega) hr), nn_clamp (by omega)]
  refine Ok_let (fun u1 e1 => ?_)
  refine Ok_let (fun u2 e2 => ?_)
  have e22 : u2 2 2 = nn (w 556) := by rw [e2, x_hu_ne (by omega), e1, x_hu_ne (by omega)]; exact R.2.2.2.2.2.2.1.2.1
  rw [e22, nn_add]
  refine Ok_let (fun u3 e3 => Ok_some ?_)
  obtain ⟨w', hw'⟩ : ∃ z, z = nu (n_settle w r 1 (t + w 556)) (96 + 6 * r + 2) g := ⟨_, rfl⟩
  rw [← hw']
  have W : ∀ i, i ≠ 96 + 6 * r → i ≠ 96 + 6 * r + 1 → i ≠ 96 + 6 * r + 2 → w' i = w i := fun i h1 h2 h3 => by rw [hw', nu_ne1 h3, n_settle_at h1 h2]
  have W0 : w' (96 + 6 * r) = 1 := by rw [hw', nu_ne1 (by omega)]; unfold n_settle; rw [nu_ne1 (by omega), nu_eq1 rfl]
  have W1 : w' (96 + 6 * r + 1) = t + w 556 := by rw [hw', nu_ne1 (by omega)]; unfold n_settle; rw [nu_eq1 rfl]
  have W2 : w' (96 + 6 * r + 2) = g := by rw [hw']; exact nu_eq1 rfl
  refine Ru_r R hm hr (fun k i h1 h2 => ?_) (fun k i h1 h2 => ?_) (fun i hi => W i (by omega) (by omega) (by omega)) (fun g' hg' => ?_) ⟨?_, ?_, ?_, ?_⟩
  · rw [e3, x_hu_ne (by omega), e2, x_hu_ne (by omega), e1, x_hu_ne (by omega)]
  · rw [e3, x_hu_ni h2, e2, x_hu_ni h2, e1, x_hu_ni h2]
  · rw [e3, x_hu_ne (by omega), e2, x_hu_ne (by omega), e1, x_hu_ne (by omega), R.2.2.1 g' hg']
    have hls : n_ls w' g' 16 = n_ls w g' 16 := n_ls_of 16 (by omega) (fun r' hr' => by
      by_cases c : r' = r
      · subst c
        rw [W0]
        exact ⟨fun h => absurd h.1 (by omega), fun h => absurd h.1 hs⟩
      · rw [W _ (by omega) (by omega) (by omega), W _ (by omega) (by omega) (by omega)])
    rw [hls]
  · rw [e3, x_hu_ne (by omega), e2, x_hu_ne (by omega), e1, x_hu_eq rfl rfl, W0]; rfl
  · rw [e3, x_hu_ne (by omega), e2, x_hu_eq rfl rfl, W0, if_pos (Or.inl rfl), W2, mm_succ]
  · intro _; rw [e3, x_hu_eq rfl rfl, W1]
  · rw [W0]; intro h; omega
set_option maxRecDepth 16384 in
theorem u_answerSeek {u : x_H} {w : Nat → Nat} {B : Nat} (R : Ru u w) (Z : Wz w) (hB : Wb B w) (h9 : B + 300 ≤ 1000000000) {g : Nat} (hg : g < 12) : Ok (fX2_answerSeek u (nn g)) (fun u' => Ru u' (n_innSeeks w g)) := by
  unfold fX2_answerSeek n_innSeeks
  have hc := n_choice_le Z hg
  have hm := Z.2.2.1.2
  have hn := Z.2.2.2
  unfold WzN at hn
  have b4 := hB.2 554
  rw [u_roomToOffer R Z hg, xb_some]
  by_cases c : n_choice w g = 0
  · rw [if_pos c, if_pos (show mm (n_choice w g) = (-1 : Int32) by rw [c]; rfl)]; exact Ok_some R
  · rw [if_neg c, if_neg (show ¬ mm (n_choice w g) = (-1 : Int32) from fun h => c ((mm_inj (b := 0) (by omega) (by omega)).mp h))]
    obtain ⟨d, hd⟩ : ∃ d, n_choice w g = d + 1 := ⟨n_choice w g - 1, by omega⟩
    rw [hd, mm_succ, Nat.add_sub_cancel, R.2.2.2.2.2.1.1]
    have hs : w (96 + 6 * d) ≠ 2 := by
      rcases n_choice_is hd with h | h
      · rw [h.1]; omega
      · omega
    refine Ok_bind (u_offer R hm (by omega) hs) (fun u1 R1 => ?_)
    have hB2 : Wb (B + 200) (nu (n_settle w d 1 (w 554 + w 556)) (96 + 6 * d + 2) g) := Wb_nu (Wb_settle (Wb_up hB (by omega) (by omega)) (by omega) (by omega)) (by omega)
    have m2 : nu (n_settle w d 1 (w 554 + w 556)) (96 + 6 * d + 2) g 552 = w 552 := by rw [nu_ne1 (by omega), n_settle_at (by omega) (by omega)]
    exact Ok_bind (u_send (k := 1) (g := g) (r := d) (a := 0) (t := 0) R1 hB2 (by rw [m2]; exact hm) (by omega) (mm_succ d).symm) (fun q hq => Ok_some hq.2)

set_option maxRecDepth 16384 in
theorem n_ls_other {w w' : Nat → Nat} {g r : Nat} (h : ∀ i, i < 96 + 6 * r ∨ 96 + 6 * r + 6 ≤ i → w' i = w i) (h1 : ¬ n_has w r 2 g) (h2 : ¬ n_has w' r 2 g) : n_ls w' g 16 = n_ls w g 16 := by
  refine n_ls_of 16 (by omega) (fun r' hr' => ?_)
  by_cases c : r' = r
  · subst c; exact ⟨fun h => absurd h h2, fun h => absurd h h1⟩
  · rw [h _ (by omega), h _ (by omega)]
set_option maxRecDepth 16384 in
theorem u_drop {u : x_H} {w : Nat → Nat} (R : Ru u w) (Z : Wz w) {r : Nat} (hr : r < 16) : Ok (fX3_dropLease u (nn r)) (fun u' => (∀ k i, k ≠ 18 → u' k i = u k i) ∧ ∀ w', (∀ i, i < 96 + 6 * r ∨ 96 + 6 * r + 6 ≤ i → w' i = w i) → w' (96 + 6 * r) ≠ 2 → RuL u' w') := by
  unfold fX3_dropLease
  obtain ⟨a1, a2, a3, a4, a5⟩ := R.2.1 r hr
  have zr := Z.2.1.1 r hr
  rw [if_pos (nn_in (by omega) hr), nn_clamp (by omega), a1, a2]
  by_cases c1 : w (96 + 6 * r) = 2
  · rw [if_pos (show nn (w (96 + 6 * r)) = (2 : Int32) by rw [c1]; rfl), if_pos (Or.inr c1), mm_succ]
    unfold fX3_dropLease_j20
    have hg := zr.2.2.1
    rw [if_neg (fun h => (nn_neg (by omega)).mp h), if_neg (fun h => by have := (nn_le (a := 12) (by omega) (by omega)).mp h; omega), if_pos (nn_in (by omega) hg), nn_clamp (by omega), R.2.2.1 _ hg]
    refine Ok_let (fun u1 e1 => Ok_some ⟨fun k i hk => by rw [e1, x_hu_ne hk], fun w' hw h2 g hg' => ?_⟩)
    have S := n_ls_set (w := w) (w' := w') (g := g) (r := r) (fun r' hr' => by rw [hw _ (by omega), hw _ (by omega)]) 16 (by omega)
    have n2 : ¬ (r < 16 ∧ n_has w' r 2 g) := fun h => h2 h.2.1
    rw [if_neg n2] at S
    by_cases cg : g = w (96 + 6 * r + 2)
    · rw [if_pos ⟨hr, c1, cg.symm⟩] at S
      have : 1 ≤ n_ls w g 16 := by omega
      rw [e1, x_hu_eq rfl cg, show nn (n_ls w (w (96 + 6 * r + 2)) 16) - (1 : Int32) = nn (n_ls w (w (96 + 6 * r + 2)) 16 - 1) from nn_sub (by rw [← cg]; exact this), ← cg]
      congr 1
      omega
    · rw [if_neg (fun h => cg h.2.2.symm)] at S
      rw [e1, x_hu_ni cg, R.2.2.1 g hg']
      congr 1
      omega
  · rw [if_neg (show ¬ nn (w (96 + 6 * r)) = (2 : Int32) from fun h => c1 ((nn_inj (b := 2) (by omega) (by omega)).mp h))]
    unfold fX3_dropLease_j20
    rw [if_pos (by decide)]
    refine Ok_some ⟨fun k i _ => rfl, fun w' hw h2 g hg' => ?_⟩
    rw [R.2.2.1 g hg', n_ls_other hw (fun h => c1 h.1) (fun h => h2 h.1)]
set_option maxRecDepth 16384 in
theorem u_free {u : x_H} {w : Nat → Nat} (R : Ru u w) (Z : Wz w) {r : Nat} (hr : r < 16) : Ok (fX3_free u (nn r)) (fun u' => ∀ w', w' (96 + 6 * r) = 0 → (∀ i, i ≠ 96 + 6 * r → i ≠ 96 + 6 * r + 1 → w' i = w i) → Ru u' w') := by
  unfold fX3_free
  rw [u_isRoom hr, xb_some, if_neg nn_one]
  refine Ok_bind (u_drop R Z hr) (fun u0 h0 => ?_)
  obtain ⟨d1, d2⟩ := h0
  rw [if_pos (nn_in (by omega) hr), nn_clamp (by omega)]
  refine Ok_let (fun u1 e1 => ?_)
  refine Ok_let (fun u2 e2 => ?_)
  refine Ok_let (fun u3 e3 => Ok_some (fun w' hw0 hw => ?_))
  refine Ru_r R Z.2.2.1.2 hr (fun k i h1 h2 => ?_) (fun k i h1 h2 => ?_) (fun i hi => hw i (by omega) (by omega)) (fun g' hg' => ?_) ⟨?_, ?_, ?_, ?_⟩
  · rw [e3, x_hu_ne (by omega), e2, x_hu_ne (by omega), e1, x_hu_ne (by omega), d1 _ _ h2]
  · rw [e3, x_hu_ni h2, e2, x_hu_ni h2, e1, x_hu_ni h2, d1 _ _ h1]
  · rw [e3, x_hu_ne (by omega), e2, x_hu_ne (by omega), e1, x_hu_ne (by omega)]
    exact d2 w' (fun i hi => hw i (by omega) (by omega)) (by omega) g' hg'
  · rw [e3, x_hu_ne (by omega), e2, x_hu_ne (by omega), e1, x_hu_eq rfl rfl, hw0]; rfl
  · rw [e3, x_hu_ne (by omega), e2, x_hu_eq rfl rfl, hw0, if_neg (by omega)]; rfl
  · rw [hw0]; intro h; exact absurd rfl h
  · rw [hw0]; intro h; omega
set_option maxRecDepth 16384 in
theorem u_shut {u : x_H} {w : Nat → Nat} (R : Ru u w) (Z : Wz w) {r t : Nat} (hr : r < 16) : Ok (fX3_shut u (nn r) (nn t)) (fun u' => ∀ w', w' (96 + 6 * r) = 3 → w' (96 + 6 * r + 1) = t + w 557 → (∀ i, i ≠ 96 + 6 * r → i ≠ 96 + 6 * r + 1 → w' i = w i) → Ru u' w') := by
  unfold fX3_shut
  rw [u_isRoom hr, xb_some, if_neg nn_one]
  refine Ok_bind (u_drop R Z hr) (fun u0 h0 => ?_)
  obtain ⟨d1, d2⟩ := h0
  rw [if_pos (nn_in (by omega) hr), nn_clamp (by omega)]
  refine Ok_let (fun u1 e1 => ?_)
  refine Ok_let (fun u2 e2 => ?_)
  have e22 : u2 2 3 = nn (w 557) := by rw [e2, x_hu_ne (by omega), e1, x_hu_ne (by omega), d1 _ _ (by omega)]; exact R.2.2.2.2.2.2.1.2.2
  rw [e22, nn_add]
  refine Ok_let (fun u3 e3 => Ok_some (fun w' hw0 hw1 hw => ?_))
  refine Ru_r R Z.2.2.1.2 hr (fun k i h1 h2 => ?_) (fun k i h1 h2 => ?_) (fun i hi => hw i (by omega) (by omega)) (fun g' hg' => ?_) ⟨?_, ?_, ?_, ?_⟩
  · rw [e3, x_hu_ne (by omega), e2, x_hu_ne (by omega), e1, x_hu_ne (by omega), d1 _ _ h2]
  · rw [e3, x_hu_ni h2, e2, x_hu_ni h2, e1, x_hu_ni h2, d1 _ _ h1]
  · rw [e3, x_hu_ne (by omega), e2, x_hu_ne (by omega), e1, x_hu_ne (by omega)]
    exact d2 w' (fun i hi => hw i (by omega) (by omega)) (by omega) g' hg'
  · rw [e3, x_hu_ne (by omega), e2, x_hu_ne (by omega), e1, x_hu_eq rfl rfl, hw0]; rfl
  · rw [e3, x_hu_ne (by omega), e2, x_hu_eq rfl rfl, hw0, if_neg (by omega)]; rfl
  · intro _; rw [e3, x_hu_eq rfl rfl, hw1]
  · rw [hw0]; intro h; omega
set_option maxRecDepth 16384 in
theorem u_mayEnd {u : x_H} {w : Nat → Nat} {B : Nat} (R : Ru u w) (Z : Wz w) (hB : Wb B w) {r g m : Nat} (hr : r < 16) (hg : g < 12) (hm : m < 2147483648) : fX3_mayEnd u (nn r) (nn g) (mm m) = some (nn (if n_has w r 2 g ∧ w (96 + 6 * r + 3) < m then 1 else 0)) := by
  unfold fX3_mayEnd
  obtain ⟨a1, a2, a3, a4, a5⟩ := R.2.1 r hr
  have b0 := hB.1
  have b3 := hB.2 (96 + 6 * r + 3)
  rw [u_isLeasedTo R Z hr hg, xb_some]
  by_cases c : n_has w r 2 g
  · rw [if_pos c, if_neg (by decide), if_pos (nn_in (by omega) hr), nn_clamp (by omega), a4 c.1]
    have e : (mm m ≤ mm (w (96 + 6 * r + 3))) ↔ m ≤ w (96 + 6 * r + 3) := by
      rw [Int32.le_iff_toInt_le, mm_toInt hm, mm_toInt (by omega)]; omega
    by_cases c2 : w (96 + 6 * r + 3) < m
    · rw [if_neg (fun h => by have := e.mp h; omega), if_pos ⟨c, c2⟩]; rfl
    · rw [if_pos (e.mpr (by omega)), if_neg (fun h => c2 h.2)]; rfl
  · rw [if_neg c, if_pos (by decide), if_neg (fun h => c h.1)]; rfl
set_option maxRecDepth 16384 in
theorem Ru_c {u : x_H} {w : Nat → Nat} (R : Ru u w) (hm : w 552 ≤ 60) {i k x : Nat} (h : (i = 2 ∧ k = 558) ∨ (i = 3 ∧ k = 559) ∨ (i = 4 ∧ k = 560) ∨ (i = 5 ∧ k = 561) ∨ (i = 6 ∧ k = 562)) : Ru (x_hu u 0 i (nn x)) (nu w k x) := by
  obtain ⟨RG, RI, RL, RH, RM, ⟨⟨n0, n1, n2, n3, n4, n5, n6⟩, RN2, RN3⟩⟩ := R
  refine ⟨RuG_of RG (fun k' i' hk => x_hu_ne (by omega)) (fun i' hi => nu_ne1 (by omega)), RuI_of RI (fun k' i' hk => x_hu_ne (by omega)) (fun i' hi hi2 => nu_ne1 (by omega)), RuL_of RL (fun i' => x_hu_ne (by omega)) (fun i' hi hi2 => nu_ne1 (by omega)), RuH_of RH (x_hu_ne (by omega)) (fun r hr => nu_ne1 (by omega)), RuM_of RM (fun k' i' hk => x_hu_ne (by omega)) (fun i' hi hi2 => nu_ne1 (by omega)) hm, ?_, ?_, ?_⟩
  · rcases h with ⟨rfl, rfl⟩ | ⟨rfl, rfl⟩ | ⟨rfl, rfl⟩ | ⟨rfl, rfl⟩ | ⟨rfl, rfl⟩ <;> refine ⟨?_, ?_, ?_, ?_, ?_, ?_, ?_⟩ <;> first | (rw [x_hu_eq rfl rfl, nu_eq1 rfl]) | (rw [x_hu_ni (by omega), nu_ne1 (by omega)]; assumption)
  · rw [x_hu_ne (by omega), x_hu_ne (by omega), x_hu_ne (by omega), nu_ne1 (by omega), nu_ne1 (by omega), nu_ne1 (by omega)]; exact RN2
  · intro k' hk'
    rw [x_hu_ne (by omega), nu_ne1 (by omega)]; exact RN3 k' hk'
set_option maxRecDepth 16384 in
theorem u_hearRefusal {u : x_H} {w : Nat → Nat} {B : Nat} (R : Ru u w) (Z : Wz w) (hB : Wb B w) {g r m : Nat} (hg : g < 12) (hr : r < 16) (hm : m < 2147483648) : Ok (fX2_hearRefusal u (nn g) (nn r) (mm m)) (fun u' => Ru u' (n_innEnds w 5 g r m)) := by
  unfold fX2_hearRefusal
  have hm5 := Z.2.2.1.2
  rw [u_mayEnd R Z hB hr hg hm, xb_some]
  by_cases c : n_has w r 2 g ∧ w (96 + 6 * r + 3) < m
  · have hR : n_innEnds w 5 g r m = nu (n_settle w r 3 (w 554 + w 557)) 562 (w 562 + 1) := if_neg (fun h => h.elim (fun h => h c.1) (fun h => by omega))
    rw [hR, if_pos c, if_neg (by decide), R.2.2.2.2.2.1.1]
    refine Ok_bind (u_shut R Z hr) (fun u1 h1 => ?_)
    have R1 : Ru u1 (n_settle w r 3 (w 554 + w 557)) := h1 _ (by unfold n_settle; rw [nu_ne1 (by omega), nu_eq1 rfl]) (by unfold n_settle; rw [nu_eq1 rfl]) (fun i h1 h2 => n_settle_at h1 h2)
    have e6 : u1 0 6 = nn (w 562) := by rw [R1.2.2.2.2.2.1.2.2.2.2.2.2, n_settle_at (by omega) (by omega)]
    rw [e6, show nn (w 562) + (1 : Int32) = nn (w 562 + 1) from nn_add _ 1]
    refine Ok_let (fun u2 e2 => Ok_some ?_)
    rw [e2]
    exact Ru_c R1 (by rw [n_settle_at (by omega) (by omega)]; exact hm5) (by omega)
  · have hR : n_innEnds w 5 g r m = w := if_pos (by
      by_cases c1 : n_has w r 2 g
      · right
        have : ¬ w (96 + 6 * r + 3) < m := fun h => c ⟨c1, h⟩
        omega
      · exact Or.inl c1)
    rw [hR, if_neg c, if_pos (by decide)]
    exact Ok_some R
set_option maxRecDepth 16384 in
theorem u_hearLeaving {u : x_H} {w : Nat → Nat} {B : Nat} (R : Ru u w) (Z : Wz w) (hB : Wb B w) {g r m : Nat} (hg : g < 12) (hr : r < 16) (hm : m < 2147483648) : Ok (fX2_hearLeaving u (nn g) (nn r) (mm m)) (fun u' => Ru u' (n_innEnds w 6 g r m)) := by
  unfold fX2_hearLeaving
  rw [u_mayEnd R Z hB hr hg hm, xb_some]
  by_cases c : n_has w r 2 g ∧ w (96 + 6 * r + 3) < m
  · have hR : n_innEnds w 6 g r m = nu (n_settle w r 0 (w 554 + w 557)) 562 (w 562 + 0) := if_neg (fun h => h.elim (fun h => h c.1) (fun h => by omega))
    rw [hR, if_pos c, if_neg (by decide), Nat.add_zero, nu_self (n_settle_at (by omega) (by omega))]
    refine Ok_bind (u_free R Z hr) (fun u1 h1 => Ok_some ?_)
    exact h1 _ (by unfold n_settle; rw [nu_ne1 (by omega), nu_eq1 rfl]) (fun i h1 h2 => n_settle_at h1 h2)
  · have hR : n_innEnds w 6 g r m = w := if_pos (by
      by_cases c1 : n_has w r 2 g
      · right
        have : ¬ w (96 + 6 * r + 3) < m := fun h => c ⟨c1, h⟩
        omega
      · exact Or.inl c1)
    rw [hR, if_neg c, if_pos (by decide)]
    exact Ok_some R
set_option maxRecDepth 16384 in
theorem u_hearNo {u : x_H} {w : Nat → Nat} {B : Nat} (R : Ru u w) (Z : Wz w) (hB : Wb B w) {g r a : Nat} (hg : g < 12) (hr : r < 16) (ha : a < 2147483648) : Ok (fX2_hearNo u (nn g) (nn r) (mm a)) (fun u' => Ru u' (if n_heeds w g r a then nu w (8 * g) 0 else w)) := by
  unfold fX2_hearNo
  rw [u_heeds R Z hB hg hr ha, xb_some]
  by_cases c : n_heeds w g r a
  · rw [if_pos c, if_pos c, if_neg (by decide)]
    exact Ok_bind (u_rest R Z.2.2.1.2 hg) (fun u1 h1 => Ok_some h1)
  · rw [if_neg c, if_neg c, if_pos (by decide)]
    exact Ok_some R
set_option maxRecDepth 16384 in
theorem u_hearYes {u : x_H} {w : Nat → Nat} {B : Nat} (R : Ru u w) (Z : Wz w) (hB : Wb B w) {g r a t : Nat} (hg : g < 12) (hr : r < 16) (ha : a < 2147483648) (ht : t ≤ 200) : Ok (fX2_hearYes u (nn g) (nn r) (mm a) (nn t)) (fun u' => Ru u' (if n_heeds w g r a then n_guestYes w g r t else w)) := by
  unfold fX2_hearYes
  have hm := Z.2.2.1.2
  have b0 := hB.1
  have b5 := hB.2 (8 * g + 5)
  have b4 := hB.2 554
  have zg := Z.1 g hg
  obtain ⟨a1, a2, a3, a4, a5, a6, a7, -⟩ := R.1 g hg
  rw [u_isGuest hg, xb_some, if_neg nn_one, u_heeds R Z hB hg hr ha, xb_some]
  by_cases c : n_heeds w g r a
  · rw [if_pos c, if_pos c, if_neg (by decide), if_pos (nn_in (by omega) hg), nn_clamp (by omega), a1, a4, R.2.2.2.2.2.1.1, nn_add]
    by_cases c1 : w (8 * g + 5) + t ≤ w 554
    · have hR : n_guestYes w g r t = nu w (8 * g) 0 := if_pos c1
      rw [hR, if_neg (fun h => by have := (nn_lt (by omega) (by omega)).mp h; omega)]
      exact Ok_bind (u_rest R hm hg) (fun u1 h1 => Ok_some h1)
    · rw [if_pos ((nn_lt (by omega) (by omega)).mpr (by omega))]
      by_cases c2 : w (8 * g) = 2
      · rw [if_pos (show nn (w (8 * g)) = (2 : Int32) by rw [c2]; rfl), u_ghostIn R hr, xb_some]
        by_cases c3 : w (96 + 6 * r + 5) = 1
        · have hR : n_guestYes w g r t = nu (n_post w 5 g r 0 0) (8 * g) 0 := by unfold n_guestYes; rw [if_neg c1, if_pos ⟨c2, c3⟩]
          rw [hR, if_pos c3, if_neg (by decide)]
          refine Ok_bind (u_send (k := 5) (g := g) (r := r) (a := 0) (t := 0) R hB hm (by omega) (mm_succ r).symm) (fun q hq => ?_)
          have hm2 : n_post w 5 g r 0 0 552 ≤ 60 := by rw [n_post_many (by omega) hm]; split <;> omega
          exact Ok_bind (u_rest hq.2 hm2 hg) (fun u1 h1 => Ok_some h1)
        · have hR : n_guestYes w g r t = nu (nu (nu (nu w (8 * g + 6) (w (8 * g + 6) + if w (8 * g) = 2 then 1 else 0)) (8 * g) 3) (8 * g + 2) (w (8 * g + 5))) (8 * g + 3) t := by unfold n_guestYes; rw [if_neg c1, if_neg (fun h => c3 h.2)]
          rw [hR, if_neg c3, if_pos (by decide)]
          exact Ok_bind (u_take R hm hg (Or.inl c2)) (fun u1 h1 => Ok_some h1)
      · have hR : n_guestYes w g r t = nu (nu (nu (nu w (8 * g + 6) (w (8 * g + 6) + if w (8 * g) = 2 then 1 else 0)) (8 * g) 3) (8 * g + 2) (w (8 * g + 5))) (8 * g + 3) t := by unfold n_guestYes; rw [if_neg c1, if_neg (fun h => c2 h.1)]
        rw [hR, if_neg (show ¬ nn (w (8 * g)) = (2 : Int32) from fun h => c2 ((nn_inj (b := 2) (by omega) (by omega)).mp h))]
        exact Ok_bind (u_take R hm hg (Or.inr (by have := c.1; omega))) (fun u1 h1 => Ok_some h1)
  · rw [if_neg c, if_neg c, if_pos (by decide)]
    exact Ok_some R

set_option maxRecDepth 16384 in
theorem n_post_ext {w w2 : Nat → Nat} {k g r a t : Nat} (hk : k < 7) (hm : w 552 ≤ 60) (S : ∀ i, 192 ≤ i → i ≠ 560 → w2 i = w i) : ∀ i, 192 ≤ i → i ≠ 560 → n_post w2 k g r a t i = n_post w k g r a t i := by
  intro i hi h5
  unfold n_post
  rw [S 552 (by omega) (by omega), S 553 (by omega) (by omega), S (563 + k) (by omega) (by omega), S 558 (by omega) (by omega)]
  split
  · unfold nu
    rw [S i hi h5]
  · unfold nu
    rw [S i hi h5]
set_option maxRecDepth 16384 in
theorem u_lease {u : x_H} {w : Nat → Nat} {B : Nat} (R : Ru u w) (Z : Wz w) (hB : Wb B w) {r g y : Nat} (hr : r < 16) (hg : g < 12) (h : n_has w r 2 g ∨ n_has w r 1 g) : Ok (fX3_lease u (nn r) (nn g) (nn (w 554)) (mm y)) (fun u' => (∀ k, k = 0 → ∀ i, u' k i = u k i) ∧ ∀ w', w' (96 + 6 * r) = 2 → w' (96 + 6 * r + 1) = (if n_has w r 2 g ∧ w 554 + w 555 < w (96 + 6 * r + 1) then w (96 + 6 * r + 1) else w 554 + w 555) → w' (96 + 6 * r + 3) = y → w' (8 * g + 7) = r + 1 → (∀ i, i ≠ 96 + 6 * r → i ≠ 96 + 6 * r + 1 → i ≠ 96 + 6 * r + 3 → i ≠ 8 * g + 7 → w' i = w i) → Ru u' w') := by
  unfold fX3_lease
  have hm := Z.2.2.1.2
  obtain ⟨a1, a2, a3, a4, a5⟩ := R.2.1 r hr
  have zr := Z.2.1.1 r hr
  have b0 := hB.1
  have b1 := hB.2 (96 + 6 * r + 1)
  have b4 := hB.2 554
  have b5 := hB.2 555
  have hwho : w (96 + 6 * r + 2) = g := h.elim (fun h => h.2) (fun h => h.2)
  have hst : w (96 + 6 * r) = 1 ∨ w (96 + 6 * r) = 2 := h.elim (fun h => Or.inr h.1) (fun h => Or.inl h.1)
  obtain ⟨x, hx⟩ : ∃ x, x = (if n_has w r 2 g ∧ w 554 + w 555 < w (96 + 6 * r + 1) then w (96 + 6 * r + 1) else w 554 + w 555) := ⟨_, rfl⟩
  rw [← hx]
  have J : ∀ u0 : x_H, (∀ k i, k ≠ 18 → u0 k i = u k i) → (∀ w', w' (96 + 6 * r) = 2 → (∀ i, i ≠ 96 + 6 * r → i ≠ 96 + 6 * r + 1 → i ≠ 96 + 6 * r + 3 → i ≠ 8 * g + 7 → w' i = w i) → RuL u0 w') → Ok (fX3_lease_j58 u0 (nn r) (nn g) (mm y) (nn x)) (fun u' => (∀ k, k = 0 → ∀ i, u' k i = u k i) ∧ ∀ w', w' (96 + 6 * r) = 2 → w' (96 + 6 * r + 1) = x → w' (96 + 6 * r + 3) = y → w' (8 * g + 7) = r + 1 → (∀ i, i ≠ 96 + 6 * r → i ≠ 96 + 6 * r + 1 → i ≠ 96 + 6 * r + 3 → i ≠ 8 * g + 7 → w' i = w i) → Ru u' w') := by
    intro u0 d1 d2
    unfold fX3_lease_j58
    rw [if_pos (nn_in (by omega) hr), nn_clamp (by omega : r < 2147483648)]
    refine Ok_let (fun u1 e1 => ?_)
    refine Ok_let (fun u2 e2 => ?_)
    refine Ok_let (fun u3 e3 => ?_)
    refine Ok_let (fun u4 e4 => ?_)
    rw [if_pos (nn_in (by omega) hg), nn_clamp (by omega : g < 2147483648)]
    refine Ok_let (fun u5 e5 => Ok_some ⟨fun k hk i => ?_, fun w' h0 h1 h3 h7 hw => ?_⟩)
    · rw [e5, x_hu_ne (by omega), e4, x_hu_ne (by omega), e3, x_hu_ne (by omega), e2, x_hu_ne (by omega), e1, x_hu_ne (by omega), d1 _ _ (by omega)]
    · have D : ∀ k i, k ≠ 12 → k ≠ 13 → k ≠ 14 → k ≠ 15 → k ≠ 17 → k ≠ 18 → u5 k i = u k i := fun k i q1 q2 q3 q4 q5 q6 => by
        rw [e5, x_hu_ne q5, e4, x_hu_ne q4, e3, x_hu_ne q3, e2, x_hu_ne q2, e1, x_hu_ne q1, d1 _ _ q6]
      have Dr : ∀ k i, i ≠ r → k ≠ 17 → k ≠ 18 → u5 k i = u k i := fun k i q1 q5 q6 => by
        rw [e5, x_hu_ne q5, e4, x_hu_ni q1, e3, x_hu_ni q1, e2, x_hu_ni q1, e1, x_hu_ni q1, d1 _ _ q6]
      obtain ⟨RG, RI, RL, RH, RM, RN⟩ := R
      refine ⟨fun g' hg' => ?_, fun r' hr' => ?_, fun g' hg' => ?_, RuH_of RH (D 2 0 (by omega) (by omega) (by omega) (by omega) (by omega) (by omega)) (fun r' hr' => hw _ (by omega) (by omega) (by omega) (by omega)), RuM_of RM (fun k i hk => D k i (by omega) (by omega) (by omega) (by omega) (by omega) (by omega)) (fun i hi hi2 => hw i (by omega) (by omega) (by omega) (by omega)) hm, RuN_of RN (fun k i hk => D k i (by omega) (by omega) (by omega) (by omega) (by omega) (by omega)) (fun i hi => hw i (by omega) (by omega) (by omega) (by omega))⟩
      · rw [D 5 _ (by omega) (by omega) (by omega) (by omega) (by omega) (by omega), D 6 _ (by omega) (by omega) (by omega) (by omega) (by omega) (by omega), D 7 _ (by omega) (by omega) (by omega) (by omega) (by omega) (by omega), D 8 _ (by omega) (by omega) (by omega) (by omega) (by omega) (by omega), D 9 _ (by omega) (by omega) (by omega) (by omega) (by omega) (by omega), D 10 _ (by omega) (by omega) (by omega) (by omega) (by omega) (by omega), D 11 _ (by omega) (by omega) (by omega) (by omega) (by omega) (by omega)]
        have W : ∀ j, j < 7 → w' (8 * g' + j) = w (8 * g' + j) := fun j hj => hw _ (by omega) (by omega) (by omega) (by omega)
        have W0 : w' (8 * g') = w (8 * g') := W 0 (by omega)
        rw [W0, W 1 (by omega), W 2 (by omega), W 3 (by omega), W 4 (by omega), W 5 (by omega), W 6 (by omega)]
        obtain ⟨g1, g2, g3, g4, g5, g6, g7, g8⟩ := RG g' hg'
        refine ⟨g1, g2, g3, g4, g5, g6, g7, ?_⟩
        by_cases c : g' = g
        · rw [c, h7, e5, x_hu_eq rfl rfl, mm_succ]
        · rw [e5, x_hu_ni c, e4, x_hu_ne (by omega), e3, x_hu_ne (by omega), e2, x_hu_ne (by omega), e1, x_hu_ne (by omega), d1 _ _ (by omega), g8, hw _ (by omega) (by omega) (by omega) (by omega)]
      · by_cases c : r' = r
        · subst c
          have W2 : w' (96 + 6 * r' + 2) = g := by rw [hw _ (by omega) (by omega) (by omega) (by omega), hwho]
          have W4 : w' (96 + 6 * r' + 4) = w (96 + 6 * r' + 4) := hw _ (by omega) (by omega) (by omega) (by omega)
          rw [h0, h1, h3, W2, W4]
          refine ⟨?_, ?_, fun _ => ?_, fun _ => ?_, ?_⟩
          · rw [e5, x_hu_ne (by omega), e4, x_hu_ne (by omega), e3, x_hu_ne (by omega), e2, x_hu_ne (by omega), e1, x_hu_eq rfl rfl]; rfl
          · rw [e5, x_hu_ne (by omega), e4, x_hu_ne (by omega), e3, x_hu_ne (by omega), e2, x_hu_eq rfl rfl, if_pos (Or.inr rfl), mm_succ]
          · rw [e5, x_hu_ne (by omega), e4, x_hu_ne (by omega), e3, x_hu_eq rfl rfl]
          · rw [e5, x_hu_ne (by omega), e4, x_hu_eq rfl rfl]
          · rw [D 16 _ (by omega) (by omega) (by omega) (by omega) (by omega) (by omega)]; exact a5
        · rw [Dr 12 _ c (by omega) (by omega), Dr 13 _ c (by omega) (by omega), Dr 14 _ c (by omega) (by omega), Dr 15 _ c (by omega) (by omega), Dr 16 _ c (by omega) (by omega)]
          have W : ∀ j, j < 6 → w' (96 + 6 * r' + j) = w (96 + 6 * r' + j) := fun j hj => hw _ (by omega) (by omega) (by omega) (by omega)
          have W0 : w' (96 + 6 * r') = w (96 + 6 * r') := W 0 (by omega)
          rw [W0, W 1 (by omega), W 2 (by omega), W 3 (by omega), W 4 (by omega)]
          exact RI r' hr'
      · rw [e5, x_hu_ne (by omega), e4, x_hu_ne (by omega), e3, x_hu_ne (by omega), e2, x_hu_ne (by omega), e1, x_hu_ne (by omega)]
        exact d2 w' h0 hw g' hg'
  rw [u_isRoom hr, xb_some, if_neg nn_one, u_isGuest hg, xb_some, if_neg nn_one, R.2.2.2.2.2.2.1.1, nn_add, x_let_n, u_isLeasedTo R Z hr hg, xb_some]
  by_cases c : n_has w r 2 g
  · rw [if_pos c, if_neg (by decide), if_pos (nn_in (by omega) hr), nn_clamp (by omega : r < 2147483648), a3 (by rw [c.1]; omega)]
    have ex : (if nn (w 554 + w 555) < nn (w (96 + 6 * r + 1)) then nn (w (96 + 6 * r + 1)) else nn (w 554 + w 555)) = nn x := by
      by_cases c2 : w 554 + w 555 < w (96 + 6 * r + 1)
      · rw [if_pos ((nn_lt (by omega) (by omega)).mpr c2), hx, if_pos ⟨c, c2⟩]
      · rw [if_neg (fun h => c2 ((nn_lt (by omega) (by omega)).mp h)), hx, if_neg (fun h => c2 h.2)]
    rw [ex, x_let_n]
    refine J u (fun k i _ => rfl) (fun w' h0 hw g' hg' => ?_)
    rw [R.2.2.1 g' hg']
    have hls : n_ls w' g' 16 = n_ls w g' 16 := n_ls_of 16 (by omega) (fun r' hr' => by
      have W2 : w' (96 + 6 * r' + 2) = w (96 + 6 * r' + 2) := hw _ (by omega) (by omega) (by omega) (by omega)
      by_cases cr : r' = r
      · subst cr
        rw [h0, W2, c.1]
      · rw [W2, hw _ (by omega) (by omega) (by omega) (by omega)])
    rw [hls]
  · have h1 : n_has w r 1 g := h.resolve_left c
    rw [if_neg c, if_pos (by decide), if_pos (nn_in (by omega) hg), nn_clamp (by omega : g < 2147483648), R.2.2.1 g hg]
    refine Ok_let (fun u0 e0 => ?_)
    have ex : x = w 554 + w 555 := by rw [hx, if_neg (fun h => c h.1)]
    rw [← ex]
    refine J u0 (fun k i hk => by rw [e0, x_hu_ne hk]) (fun w' h0 hw g' hg' => ?_)
    have W2 : ∀ r', w' (96 + 6 * r' + 2) = w (96 + 6 * r' + 2) ∨ 16 ≤ r' := fun r' => by
      by_cases h : r' < 16
      · exact Or.inl (hw _ (by omega) (by omega) (by omega) (by omega))
      · exact Or.inr (by omega)
    have W2r : w' (96 + 6 * r + 2) = g := by rw [hw _ (by omega) (by omega) (by omega) (by omega), hwho]
    by_cases cg : g' = g
    · subst cg
      have S : n_ls w' g' 16 = n_ls w g' 16 + 1 := by
        obtain ⟨w2, hw2⟩ : ∃ w2 : Nat → Nat, w2 = fun i => if i < 96 then w i else w' i := ⟨_, rfl⟩
        have S := n_ls_set (w := w) (w' := w') (g := g') (r := r) (fun r' hr' => by
          by_cases hh : r' < 16
          · rw [hw _ (by omega) (by omega) (by omega) (by omega), hw _ (by omega) (by omega) (by omega) (by omega)]
          · rw [hw _ (by omega) (by omega) (by omega) (by omega), hw _ (by omega) (by omega) (by omega) (by omega)]) 16 (by omega)
        rw [if_neg (fun h => c h.2), if_pos ⟨hr, h0, W2r⟩] at S
        omega
      rw [e0, x_hu_eq rfl rfl, S]
      exact nn_add _ 1
    · rw [e0, x_hu_ni cg, R.2.2.1 g' hg']
      have hls : n_ls w' g' 16 = n_ls w g' 16 := n_ls_of 16 (by omega) (fun r' hr' => by
        by_cases cr : r' = r
        · subst cr
          exact ⟨fun h => absurd (h.2.symm.trans W2r) cg, fun h => absurd (h.2.symm.trans hwho) cg⟩
        · rw [hw _ (by omega) (by omega) (by omega) (by omega), hw _ (by omega) (by omega) (by omega) (by omega)])
      rw [hls]
set_option maxRecDepth 16384 in
theorem Ru_w {u : x_H} {w w' : Nat → Nat} (R : Ru u w) (hm : w 552 ≤ 60) (h : ∀ i, w' i = w i) : Ru u w' := Ru_lo R hm (fun _ _ => rfl) h
set_option maxRecDepth 16384 in
theorem u_answerWant {u : x_H} {w : Nat → Nat} {B : Nat} (R : Ru u w) (Z : Wz w) (hB : Wb B w) (h9 : B + 1000 ≤ 1000000000) {g r m : Nat} (hg : g < 12) (hr : r < 16) (hmm : m ≤ w 553) : Ok (fX2_answerWant u (nn g) (nn r) (mm m)) (fun u' => Ru u' (n_innWants w g r m)) := by
  unfold fX2_answerWant
  have hm := Z.2.2.1.2
  have hn := Z.2.2.2
  unfold WzN at hn
  rw [u_isHeldFor R Z hr hg, xb_some]
  by_cases c : n_has w r 2 g ∨ n_has w r 1 g
  · rw [if_pos c, if_neg (by decide), R.2.2.2.2.2.2.1.1]
    have hR : n_innWants w g r m = nu (n_post (nu (nu (n_settle w r 2 (if n_has w r 2 g ∧ w 554 + w 555 < w (96 + 6 * r + 1) then w (96 + 6 * r + 1) else w 554 + w 555)) (8 * g + 7) (r + 1)) 560 (w 560 + 1)) 3 g r m (w 555)) (96 + 6 * r + 3) (w 553 + 1) := if_neg (fun h => c.elim h.1 h.2)
    rw [hR]
    obtain ⟨x, hx⟩ : ∃ x, x = (if n_has w r 2 g ∧ w 554 + w 555 < w (96 + 6 * r + 1) then w (96 + 6 * r + 1) else w 554 + w 555) := ⟨_, rfl⟩
    rw [← hx]
    obtain ⟨w2, hw2⟩ : ∃ z, z = nu (nu (n_settle w r 2 x) (8 * g + 7) (r + 1)) 560 (w 560 + 1) := ⟨_, rfl⟩
    rw [← hw2]
    have S : ∀ i, 192 ≤ i → i ≠ 560 → w2 i = w i := fun i hi h5 => by rw [hw2, nu_ne1 h5, nu_ne1 (by omega), n_settle_at (by omega) (by omega)]
    have S5 : w2 560 = w 560 + 1 := by rw [hw2, nu_eq1 rfl]
    have hm2 : w2 552 ≤ 60 := by rw [S _ (by omega) (by omega)]; exact hm
    have E := n_post_ext (k := 3) (g := g) (r := r) (a := m) (t := w 555) (by omega) hm S
    refine Ok_bind (u_send (k := 3) (g := g) (r := r) (a := m) (t := w 555) R hB hm (by omega) (mm_succ r).symm) (fun q hq => ?_)
    obtain ⟨q1, R1⟩ := hq
    obtain ⟨w1, hw1⟩ : ∃ z, z = n_post w 3 g r m (w 555) := ⟨_, rfl⟩
    rw [← hw1] at R1
    have L1 : ∀ i, i < 192 → w1 i = w i := fun i hi => by rw [hw1, n_post_lo (by omega) hm hi]
    have Z1 : Wz w1 := by rw [hw1]; exact Wz_post Z (by omega) hg hr (by omega) (by omega)
    have B1 : Wb (B + 301) w1 := by rw [hw1]; exact Wb_post (Wb_up hB (B' := B + 300) (by omega) (by omega)) (by omega) hm (by omega) (by omega) (by omega) (by have := hB.2 553; omega) (by omega)
    have e4 : w1 554 = w 554 := by rw [hw1, n_post_554 (by omega) hm]
    have e5 : w1 555 = w 555 := by rw [hw1, n_post_hi (by omega) hm (by omega) (by omega) (by omega)]
    have c1 : n_has w1 r 2 g ∨ n_has w1 r 1 g := by
      unfold n_has
      rw [L1 _ (by omega), L1 _ (by omega)]
      exact c
    rw [q1, R1.2.2.2.2.2.1.1]
    refine Ok_bind (u_lease (y := w 553 + 1) R1 Z1 B1 hr hg c1) (fun u1 h1 => ?_)
    obtain ⟨k0, K⟩ := h1
    have hm1 : w1 552 ≤ 60 := Z1.2.2.1.2
    -- the row behind the lease, without the count
    obtain ⟨w3, hw3⟩ : ∃ z : Nat → Nat, z = fun i => if i = 560 then w 560 else nu (n_post w2 3 g r m (w 555)) (96 + 6 * r + 3) (w 553 + 1) i := ⟨_, rfl⟩
    have R3 : Ru u1 w3 := by
      refine K w3 ?_ ?_ ?_ ?_ (fun i h1 h2 h3 h7 => ?_)
      · rw [hw3]; show (if 96 + 6 * r = 560 then _ else _) = 2
        rw [if_neg (by omega), nu_ne1 (by omega), n_post_lo (by omega) hm2 (by omega), hw2, nu_ne1 (by omega), nu_ne1 (by omega)]; unfold n_settle; rw [nu_ne1 (by omega), nu_eq1 rfl]
      · rw [hw3]; show (if 96 + 6 * r + 1 = 560 then _ else _) = _
        rw [if_neg (by omega), nu_ne1 (by omega), n_post_lo (by omega) hm2 (by omega), hw2, nu_ne1 (by omega), nu_ne1 (by omega)]; unfold n_settle; rw [nu_eq1 rfl, hx]
        unfold n_has
        rw [e4, e5, L1 (96 + 6 * r) (by omega), L1 (96 + 6 * r + 1) (by omega), L1 (96 + 6 * r + 2) (by omega)]
      · rw [hw3]; show (if 96 + 6 * r + 3 = 560 then _ else _) = _
        rw [if_neg (by omega), nu_eq1 rfl]
      · rw [hw3]; show (if 8 * g + 7 = 560 then _ else _) = _
        rw [if_neg (by omega), nu_ne1 (by omega), n_post_lo (by omega) hm2 (by omega), hw2, nu_ne1 (by omega), nu_eq1 rfl]
      · rw [hw3]; show (if i = 560 then _ else _) = _
        by_cases ci : i = 560
        · rw [if_pos ci, ci, hw1, n_post_hi (by omega) hm (by omega) (by omega) (by omega)]
        · rw [if_neg ci, nu_ne1 h3]
          by_cases cl : i < 192
          · rw [n_post_lo (by omega) hm2 cl, hw2, nu_ne1 ci, nu_ne1 h7, n_settle_at h1 h2, L1 _ cl]
          · rw [E i (by omega) ci, hw1]
    have e6 : u1 0 4 = nn (w 560) := by rw [R3.2.2.2.2.2.1.2.2.2.2.1, hw3]; rfl
    rw [e6, show nn (w 560) + (1 : Int32) = nn (w 560 + 1) from nn_add _ 1]
    refine Ok_let (fun u2 e2 => Ok_some ?_)
    rw [e2]
    have hm3 : w3 552 ≤ 60 := by
      rw [hw3]; show (if (552 : Nat) = 560 then _ else _) ≤ 60
      rw [if_neg (by omega), nu_ne1 (by omega), n_post_many (by omega) hm2]
      split <;> omega
    refine Ru_w (Ru_c (i := 4) (k := 560) (x := w 560 + 1) R3 hm3 (by omega)) (by rw [nu_ne1 (by omega)]; exact hm3) (fun i => ?_)
    by_cases ci : i = 560
    · rw [ci, nu_eq1 rfl, nu_ne1 (by omega), n_post_hi (by omega) hm2 (by omega) (by omega) (by omega), S5]
    · rw [nu_ne1 (w := w3) ci, hw3]
      show _ = (if i = 560 then _ else _)
      rw [if_neg ci]
  · have hR : n_innWants w g r m = n_post w 4 g r m 0 := if_pos ⟨fun h => c (Or.inl h), fun h => c (Or.inr h)⟩
    rw [hR, if_neg c, if_pos (by decide)]
    exact Ok_bind (u_send (k := 4) (g := g) (r := r) (a := m) (t := 0) R hB hm (by omega) (mm_succ r).symm) (fun q hq => Ok_some hq.2)

