set_option maxRecDepth 16384 in
theorem xb_shr (x : Int32) {r : Nat} (h : r < 16) : (x >>> (nn r &&& 31)).toBitVec = x.toBitVec.sshiftRight r := by
  have h1 : ∀ r, r < 16 → ((nn r &&& 31).toBitVec.smod 32).toNat = r := by decide
  show x.toBitVec.sshiftRight' ((nn r &&& 31).toBitVec.smod 32) = _
  unfold BitVec.sshiftRight'
  rw [h1 r h]
set_option maxRecDepth 16384 in
theorem xb_one (y : Int32) : (y &&& 1 = 1) ↔ y.toBitVec.getLsbD 0 = true := by
  have e : (y &&& 1).toBitVec = y.toBitVec &&& 1#32 := rfl
  have e1 : (1 : Int32).toBitVec = 1#32 := rfl
  constructor
  · intro h
    have h2 := congrArg Int32.toBitVec h
    rw [e, e1] at h2
    have h3 := congrArg (fun z => BitVec.getLsbD z 0) h2
    simpa using h3
  · intro h
    apply Int32.toBitVec_inj.mp
    rw [e, e1]
    apply BitVec.eq_of_toNat_eq
    have h4 : y.toBitVec.toNat % 2 = 1 := by
      simpa [BitVec.getLsbD, Nat.testBit_zero] using h
    simp [BitVec.toNat_and, Nat.and_one_is_mod, h4]
set_option maxRecDepth 16384 in
theorem xb_bit (x : Int32) {r : Nat} (h : r < 16) : ((x >>> (nn r &&& 31)) &&& 1 = 1) ↔ x.toBitVec.getLsbD r = true := by
  rw [xb_one, xb_shr x h, BitVec.getLsbD_sshiftRight]
  have h2 : r < 32 := by omega
  simp [h2]
set_option maxRecDepth 16384 in
theorem xb_tog (x : Int32) {r r' : Nat} (h : r < 16) (h' : r' < 16) : (x ^^^ ((1 : Int32) <<< (nn r &&& 31))).toBitVec.getLsbD r' = (x.toBitVec.getLsbD r' ^^ decide (r' = r)) := by
  have h1 : ∀ r, r < 16 → ∀ r', r' < 16 → ((1 : Int32) <<< (nn r &&& 31)).toBitVec.getLsbD r' = decide (r' = r) := by decide
  show (x.toBitVec ^^^ ((1 : Int32) <<< (nn r &&& 31)).toBitVec).getLsbD r' = _
  rw [BitVec.getLsbD_xor, h1 r h r' h']
set_option maxRecDepth 16384 in
theorem u_ghostIn {u : x_H} {w : Nat → Nat} (R : Ru u w) {r : Nat} (hr : r < 16) : fX3_ghostIn u (nn r) = some (nn (if w (96 + 6 * r + 5) = 1 then 1 else 0)) := by
  unfold fX3_ghostIn
  rw [u_isRoom hr, xb_some, if_neg nn_one]
  have h := R.2.2.2.1 r hr
  by_cases c : w (96 + 6 * r + 5) = 1
  · rw [if_pos ((xb_bit _ hr).mpr (by rw [h]; exact decide_eq_true c)), if_pos c]; rfl
  · rw [if_neg (fun h2 => c (by have := (xb_bit _ hr).mp h2; rw [h] at this; exact of_decide_eq_true this)), if_neg c]; rfl
/- one room has changed -/
set_option maxRecDepth 16384 in
theorem Ru_r {u u' : x_H} {w w' : Nat → Nat} (R : Ru u w) (hm : w 552 ≤ 60) {r : Nat} (hr : r < 16) (h1 : ∀ k i, ¬ (12 ≤ k ∧ k ≤ 15) → k ≠ 18 → u' k i = u k i) (h2 : ∀ k i, k ≠ 18 → i ≠ r → u' k i = u k i) (h3 : ∀ i, (i < 96 + 6 * r ∨ 96 + 6 * r + 4 ≤ i) → w' i = w i) (hL : RuL u' w')
    (h : u' 12 r = nn (w' (96 + 6 * r)) ∧ u' 13 r = mm (if w' (96 + 6 * r) = 1 ∨ w' (96 + 6 * r) = 2 then w' (96 + 6 * r + 2) + 1 else 0) ∧ (w' (96 + 6 * r) ≠ 0 → u' 14 r = nn (w' (96 + 6 * r + 1))) ∧ (w' (96 + 6 * r) = 2 → u' 15 r = mm (w' (96 + 6 * r + 3)))) : Ru u' w' := by
  obtain ⟨RG, RI, RL, RH, RM, RN⟩ := R
  refine ⟨RuG_of RG (fun k i hk => h1 k i (by omega) (by omega)) (fun i hi => h3 i (by omega)), fun r' hr' => ?_, hL, RuH_of RH (h1 2 0 (by omega) (by omega)) (fun r' hr' => h3 _ (by omega)), RuM_of RM (fun k i hk => h1 k i (by omega) (by omega)) (fun i hi hi2 => h3 i (by omega)) hm, RuN_of RN (fun k i hk => h1 k i (by omega) (by omega)) (fun i hi => h3 i (by omega))⟩
  by_cases c : r' = r
  · subst c
    obtain ⟨a1, a2, a3, a4⟩ := h
    refine ⟨a1, a2, a3, a4, ?_⟩
    rw [h1 16 r' (by omega) (by omega), h3 _ (by omega)]
    exact (RI r' hr').2.2.2.2
  · rw [h2 12 _ (by omega) c, h2 13 _ (by omega) c, h2 14 _ (by omega) c, h2 15 _ (by omega) c, h2 16 _ (by omega) c]
    rw [h3 _ (by omega), h3 _ (by omega), h3 _ (by omega), h3 _ (by omega), h3 _ (by omega)]
    exact RI r' hr'
/- how the counts of leases change with one room -/
set_option maxRecDepth 16384 in
theorem n_ls_le (w : Nat → Nat) (g d : Nat) : n_ls w g d ≤ d := by
  induction d with
  | zero => exact Nat.le_refl _
  | succ d ih => unfold n_ls; split <;> omega
set_option maxRecDepth 16384 in
theorem n_ls_set {w w' : Nat → Nat} {g r : Nat} (h : ∀ r', r' ≠ r → (w' (96 + 6 * r') = 2 ∧ w' (96 + 6 * r' + 2) = g ↔ w (96 + 6 * r') = 2 ∧ w (96 + 6 * r' + 2) = g)) : ∀ d, d ≤ 16 → n_ls w' g d + (if r < d ∧ n_has w r 2 g then 1 else 0) = n_ls w g d + (if r < d ∧ n_has w' r 2 g then 1 else 0) := by
  intro d
  induction d with
  | zero => intro _; simp [n_ls]
  | succ d ih =>
    intro hd
    have I := ih (by omega)
    show n_ls w' g d + _ + _ = n_ls w g d + _ + _
    by_cases c : d = r
    · subst c
      rw [if_neg (by omega), if_neg (by omega)] at I
      by_cases c1 : n_has w d 2 g <;> by_cases c2 : n_has w' d 2 g <;> simp only [n_has] at c1 c2 <;> simp [n_has, c1, c2] <;> omega
    · have e := h d c
      by_cases c1 : w (96 + 6 * d) = 2 ∧ w (96 + 6 * d + 2) = g
      · have c2 := e.mpr c1
        rw [if_pos c1, if_pos c2]
        by_cases c3 : r < d
        · simp only [c3, show r < d + 1 by omega, true_and] at I ⊢
          omega
        · simp only [c3, show ¬ r < d + 1 by omega, false_and, if_false] at I ⊢
          omega
      · have c2 : ¬ (w' (96 + 6 * d) = 2 ∧ w' (96 + 6 * d + 2) = g) := fun h => c1 (e.mp h)
        rw [if_neg c1, if_neg c2]
        by_cases c3 : r < d
        · simp only [c3, show r < d + 1 by omega, true_and] at I ⊢
          omega
        · simp only [c3, show ¬ r < d + 1 by omega, false_and, if_false] at I ⊢
          omega
set_option maxRecDepth 16384 in
theorem u_canBeOffered {u : x_H} {w : Nat → Nat} (R : Ru u w) (Z : Wz w) {r g : Nat} (hr : r < 16) (hg : g < 12) : fX3_canBeOffered u (nn r) (nn g) = some (nn (if n_can w r g then 1 else 0)) := by
  unfold fX3_canBeOffered
  obtain ⟨a1, a2, a3, a4, a5⟩ := R.2.1 r hr
  have zr := Z.2.1.1 r hr
  rw [if_neg (fun h => (nn_neg (by omega)).mp h), if_neg (fun h => by have := (nn_le (a := 16) (by omega) (by omega)).mp h; omega), if_pos (nn_in (by omega) hr), nn_clamp (by omega), a1, a5, ← mm_succ g]
  by_cases c1 : w (96 + 6 * r) = 0
  · rw [if_pos (show nn (w (96 + 6 * r)) = (0 : Int32) by rw [c1]; rfl)]
    by_cases c2 : w (96 + 6 * r + 4) = 0
    · rw [if_pos (show mm (w (96 + 6 * r + 4)) = (-1 : Int32) by rw [c2]; rfl), if_pos (show n_can w r g from ⟨c1, Or.inl c2⟩)]; rfl
    · rw [if_neg (show ¬ mm (w (96 + 6 * r + 4)) = (-1 : Int32) from fun h => c2 ((mm_inj (b := 0) (by omega) (by omega)).mp h))]
      by_cases c3 : w (96 + 6 * r + 4) = g + 1
      · rw [if_pos (by rw [c3]), if_pos (show n_can w r g from ⟨c1, Or.inr c3⟩)]; rfl
      · rw [if_neg (fun h => c3 ((mm_inj (by omega) (by omega)).mp h)), if_neg (fun h : n_can w r g => h.2.elim c2 c3)]; rfl
  · rw [if_neg (show ¬ nn (w (96 + 6 * r)) = (0 : Int32) from fun h => c1 ((nn_inj (b := 0) (by omega) (by omega)).mp h)), if_neg (fun h : n_can w r g => c1 h.1)]; rfl
set_option maxRecDepth 16384 in
theorem u_canBe0 {u : x_H} {g : Int32} : fX3_canBeOffered u (mm 0) g = some (nn 0) := by
  unfold fX3_canBeOffered
  rw [if_pos (by decide)]
  rfl
/- the room that is reserved for a guest -/
def n_res (w : Nat → Nat) (g : Nat) : Nat → Nat
  | 0 => 0
  | d + 1 => if w (96 + 6 * (15 - d) + 4) = g + 1 then 15 - d + 1 else n_res w g d
set_option maxRecDepth 16384 in
theorem u_reserved {u : x_H} {w : Nat → Nat} (R : Ru u w) (Z : Wz w) {g : Nat} (hg : g < 12) : ∀ (d n : Nat), d ≤ 16 → d < n → fX3_reservedRoom_b2 n u (nn g) (nn (16 - d)) = some (mm (n_res w g d)) := by
  intro d
  induction d with
  | zero =>
    intro n hd hn
    obtain ⟨n, rfl⟩ : ∃ m, n = m + 1 := ⟨n - 1, by omega⟩
    rw [fX3_reservedRoom_b2, n_res, if_pos (by decide)]
    rfl
  | succ d ih =>
    intro n hd hn
    obtain ⟨n, rfl⟩ : ∃ m, n = m + 1 := ⟨n - 1, by omega⟩
    have e1 : 16 - (d + 1) = 15 - d := by omega
    have e2 : 16 - d = 15 - d + 1 := by omega
    have I := ih n (by omega) (by omega)
    rw [e2] at I
    have zr := Z.2.1.1 (15 - d) (by omega)
    rw [fX3_reservedRoom_b2, n_res, e1, if_neg (fun h => by have := (nn_le (a := 16) (by omega) (by omega)).mp h; omega), if_pos (nn_in (by omega) (by omega)), nn_clamp (by omega), (R.2.1 (15 - d) (by omega)).2.2.2.2, ← mm_succ g]
    by_cases c : w (96 + 6 * (15 - d) + 4) = g + 1
    · rw [if_pos c, if_pos (by rw [c]), mm_succ]
    · rw [if_neg c, if_neg (fun h => c ((mm_inj (by omega) (by omega)).mp h)), mm_succ]
      rw [show nn (15 - d) + (1 : Int32) = nn (15 - d + 1) from nn_add _ 1, x_let_n]
      exact I
set_option maxRecDepth 16384 in
theorem u_reservedRoom {u : x_H} {w : Nat → Nat} (R : Ru u w) (Z : Wz w) {g : Nat} (hg : g < 12) : fX3_reservedRoom u (nn g) = some (mm (n_res w g 16)) := u_reserved R Z hg 16 400 (by omega) (by omega)
set_option maxRecDepth 16384 in
theorem n_res_is {w : Nat → Nat} {g : Nat} : ∀ d, d ≤ 16 → (n_res w g d = 0 ∧ ∀ r, 16 - d ≤ r → r < 16 → w (96 + 6 * r + 4) ≠ g + 1) ∨ (∃ r, n_res w g d = r + 1 ∧ r < 16 ∧ w (96 + 6 * r + 4) = g + 1) := by
  intro d
  induction d with
  | zero => intro _; exact Or.inl ⟨rfl, fun r h1 h2 => by omega⟩
  | succ d ih =>
    intro hd
    rw [n_res]
    by_cases c : w (96 + 6 * (15 - d) + 4) = g + 1
    · rw [if_pos c]; exact Or.inr ⟨15 - d, rfl, by omega, c⟩
    · rw [if_neg c]
      rcases ih (by omega) with h | h
      · refine Or.inl ⟨h.1, fun r h1 h2 => ?_⟩
        by_cases e : r = 15 - d
        · rw [e]; exact c
        · exact h.2 r (by omega) h2
      · exact Or.inr h
/- the first free room that a guest can have -/
def n_first (w : Nat → Nat) (g : Nat) : Nat → Nat
  | 0 => 0
  | d + 1 => if n_can w (15 - d) g then 15 - d + 1 else n_first w g d
set_option maxRecDepth 16384 in
theorem u_first {u : x_H} {w : Nat → Nat} (R : Ru u w) (Z : Wz w) {g : Nat} (hg : g < 12) : ∀ (d n : Nat), d ≤ 16 → d < n → fX3_roomToOffer_b85 n u (nn g) (nn (16 - d)) = some (mm (n_first w g d)) := by
  intro d
  induction d with
  | zero =>
    intro n hd hn
    obtain ⟨n, rfl⟩ : ∃ m, n = m + 1 := ⟨n - 1, by omega⟩
    rw [fX3_roomToOffer_b85, n_first, if_pos (by decide)]
    rfl
  | succ d ih =>
    intro n hd hn
    obtain ⟨n, rfl⟩ : ∃ m, n = m + 1 := ⟨n - 1, by omega⟩
    have e1 : 16 - (d + 1) = 15 - d := by omega
    have e2 : 16 - d = 15 - d + 1 := by omega
    have I := ih n (by omega) (by omega)
    rw [e2] at I
    rw [fX3_roomToOffer_b85, n_first, e1, if_neg (fun h => by have := (nn_le (a := 16) (by omega) (by omega)).mp h; omega), u_canBeOffered R Z (by omega) hg, xb_some]
    by_cases c : n_can w (15 - d) g
    · rw [if_pos c, if_pos c, if_neg (by decide), mm_succ]
    · rw [if_neg c, if_neg c, if_pos (by decide), show nn (15 - d) + (1 : Int32) = nn (15 - d + 1) from nn_add _ 1, x_let_n]
      exact I
/- the model's choice in the class's order -/
def n_pick (w : Nat → Nat) (g : Nat) : Nat := if n_res w g 16 ≠ 0 ∧ n_can w (n_res w g 16 - 1) g then n_res w g 16 else if w (8 * g + 7) ≠ 0 ∧ n_can w (w (8 * g + 7) - 1) g then w (8 * g + 7) else n_first w g 16
set_option maxRecDepth 16384 in
theorem n_first_is {w : Nat → Nat} {g : Nat} : ∀ d, d ≤ 16 → (n_first w g d = 0 ∧ ∀ r, 16 - d ≤ r → r < 16 → ¬ n_can w r g) ∨ (∃ r, n_first w g d = r + 1 ∧ 16 - d ≤ r ∧ r < 16 ∧ n_can w r g ∧ ∀ r', 16 - d ≤ r' → r' < r → ¬ n_can w r' g) := by
  intro d
  induction d with
  | zero => intro _; exact Or.inl ⟨rfl, fun r h1 h2 => by omega⟩
  | succ d ih =>
    intro hd
    rw [n_first]
    by_cases c : n_can w (15 - d) g
    · rw [if_pos c]; exact Or.inr ⟨15 - d, rfl, by omega, by omega, c, fun r' h1 h2 => by omega⟩
    · rw [if_neg c]
      rcases ih (by omega) with h | ⟨r, h1, h2, h3, h4, h5⟩
      · refine Or.inl ⟨h.1, fun r h1 h2 => ?_⟩
        by_cases e : r = 15 - d
        · rw [e]; exact c
        · exact h.2 r (by omega) h2
      · refine Or.inr ⟨r, h1, by omega, h3, h4, fun r' h6 h7 => ?_⟩
        by_cases e : r' = 15 - d
        · rw [e]; exact c
        · exact h5 r' (by omega) h7
/- the model's loop, where no room is offered to the guest -/
set_option maxRecDepth 16384 in
theorem n_chl_no {w : Nat → Nat} {g : Nat} (h : ∀ r, r < 16 → ¬ n_has w r 1 g) : ∀ (k low own : Nat), k ≤ 16 → (low = 0 ∧ (∀ r, k ≤ r → r < 16 → ¬ n_can w r g) ∨ ∃ r, low = r + 1 ∧ k ≤ r ∧ r < 16 ∧ n_can w r g ∧ ∀ r', k ≤ r' → r' < r → ¬ n_can w r' g) → (own = 0 ∧ (∀ r, k ≤ r → r < 16 → ¬ (n_can w r g ∧ w (96 + 6 * r + 4) = g + 1)) ∨ ∃ r, own = r + 1 ∧ r < 16 ∧ n_can w r g ∧ w (96 + 6 * r + 4) = g + 1) →
    ∃ low' own', n_chl w g k low own = (if own' ≠ 0 then own' else if w (8 * g + 7) ≠ 0 ∧ n_can w (w (8 * g + 7) - 1) g then w (8 * g + 7) else low') ∧ (low' = 0 ∧ (∀ r, r < 16 → ¬ n_can w r g) ∨ ∃ r, low' = r + 1 ∧ r < 16 ∧ n_can w r g ∧ ∀ r', r' < r → ¬ n_can w r' g) ∧ (own' = 0 ∧ (∀ r, r < 16 → ¬ (n_can w r g ∧ w (96 + 6 * r + 4) = g + 1)) ∨ ∃ r, own' = r + 1 ∧ r < 16 ∧ n_can w r g ∧ w (96 + 6 * r + 4) = g + 1) := by
  intro k
  induction k with
  | zero =>
    intro low own hk hl ho
    refine ⟨low, own, by rw [n_chl], ?_, ?_⟩
    · rcases hl with ⟨h1, h2⟩ | ⟨r, h1, h2, h3, h4, h5⟩
      · exact Or.inl ⟨h1, fun r hr => h2 r (by omega) hr⟩
      · exact Or.inr ⟨r, h1, h3, h4, fun r' hr' => h5 r' (by omega) hr'⟩
    · rcases ho with ⟨h1, h2⟩ | h1
      · exact Or.inl ⟨h1, fun r hr => h2 r (by omega) hr⟩
      · exact Or.inr h1
  | succ k ih =>
    intro low own hk hl ho
    rw [n_chl, if_neg (h k (by omega))]
    refine ih _ _ (by omega) ?_ ?_
    · by_cases c : n_can w k g
      · rw [if_pos c]
        exact Or.inr ⟨k, rfl, Nat.le_refl _, by omega, c, fun r' h1 h2 => by omega⟩
      · rw [if_neg c]
        rcases hl with ⟨h1, h2⟩ | ⟨r, h1, h2, h3, h4, h5⟩
        · refine Or.inl ⟨h1, fun r hr hr2 => ?_⟩
          by_cases e : r = k
          · rw [e]; exact c
          · exact h2 r (by omega) hr2
        · refine Or.inr ⟨r, h1, by omega, h3, h4, fun r' hr hr2 => ?_⟩
          by_cases e : r' = k
          · rw [e]; exact c
          · exact h5 r' (by omega) hr2
    · by_cases c : n_can w k g ∧ w (96 + 6 * k + 4) = g + 1
      · rw [if_pos c]
        exact Or.inr ⟨k, rfl, by omega, c.1, c.2⟩
      · rw [if_neg c]
        rcases ho with ⟨h1, h2⟩ | h1
        · refine Or.inl ⟨h1, fun r hr hr2 => ?_⟩
          by_cases e : r = k
          · rw [e]; exact c
          · exact h2 r (by omega) hr2
        · exact Or.inr h1
set_option maxRecDepth 16384 in
theorem n_choice_pick {w : Nat → Nat} {g : Nat} (Z : Wz w) (h : ∀ r, r < 16 → ¬ n_has w r 1 g) : n_choice w g = n_pick w g := by
  obtain ⟨low, own, e, hl, ho⟩ := n_chl_no h 16 0 0 (by omega) (Or.inl ⟨rfl, fun r h1 h2 => by omega⟩) (Or.inl ⟨rfl, fun r h1 h2 => by omega⟩)
  unfold n_choice n_pick
  rw [e]
  have hlow : low = n_first w g 16 := by
    rcases n_first_is (w := w) (g := g) 16 (by omega) with ⟨f1, f2⟩ | ⟨r, f1, f2, f3, f4, f5⟩
    · rcases hl with ⟨h1, h2⟩ | ⟨r, h1, h2, h3, h4⟩
      · rw [h1, f1]
      · exact absurd h3 (f2 r (by omega) h2)
    · rcases hl with ⟨h1, h2⟩ | ⟨r', h1, h2, h3, h4⟩
      · exact absurd f4 (h2 r f3)
      · have a1 : ¬ r' < r := fun hh => f5 r' (by omega) hh h3
        have a2 : ¬ r < r' := fun hh => h4 r hh f4
        omega
  rcases n_res_is (w := w) (g := g) 16 (by omega) with ⟨f1, f2⟩ | ⟨r, f1, f2, f3⟩
  · rcases ho with ⟨h1, h2⟩ | ⟨r', h1, h2, h3, h4⟩
    · rw [if_neg (show ¬ own ≠ 0 by omega), if_neg (show ¬ (n_res w g 16 ≠ 0 ∧ n_can w (n_res w g 16 - 1) g) from fun hh => hh.1 f1), hlow]
    · exact absurd h4 (f2 r' (by omega) h2)
  · rw [f1, Nat.add_sub_cancel]
    rcases ho with ⟨h1, h2⟩ | ⟨r', h1, h2, h3, h4⟩
    · rw [if_neg (show ¬ own ≠ 0 by omega), if_neg (show ¬ (r + 1 ≠ 0 ∧ n_can w r g) from fun hh => h2 r f2 ⟨hh.2, f3⟩), hlow]
    · have er : r' = r := Z.2.1.2.1 r' r h2 f2 (by omega) (by omega)
      subst er
      rw [if_pos (by omega), if_pos ⟨by omega, h3⟩, h1]
