set_option maxRecDepth 16384 in
theorem v_doing {v : x_V} {w : Nat → Nat} (R : Rv v w) {g : Nat} (h : g < 12) : fX7_doing v (nn g) = some (nn (w (8 * g))) := by
  unfold fX7_doing
  (try simp (disch := omega) only [nn_add, nn_mul, nn_clamp, nn_in1, nn_inj, nn_lt, nn_le, nn_neg, nu_eq1, nu_ne1, nn_nb0, nn_true, nn_false, if_true, if_false, x_let_n, x_let_m, xb_some, eq_self, ite_true, ite_false, not_false_eq_true, not_true_eq_false, nneg1, nl0, nl1, nl2, nl3, nl4, nl5, nl6, nl7, nl8, nl9, nl10, nl11, nl12, nl15, nl16, nl60, nl96, nl192, nl552, nl553, nl554, nl555, nl556, nl557, nl558, nl559, nl560, nl561, nl562, nl563, nl570, R])
set_option maxRecDepth 16384 in
theorem v_state {v : x_V} {w : Nat → Nat} (R : Rv v w) {r : Nat} (h : r < 16) : fX7_state v (nn r) = some (nn (w (96 + 6 * r))) := by
  unfold fX7_state
  (try simp (disch := omega) only [nn_add, nn_mul, nn_clamp, nn_in1, nn_inj, nn_lt, nn_le, nn_neg, nu_eq1, nu_ne1, nn_nb0, nn_true, nn_false, if_true, if_false, x_let_n, x_let_m, xb_some, eq_self, ite_true, ite_false, not_false_eq_true, not_true_eq_false, nneg1, nl0, nl1, nl2, nl3, nl4, nl5, nl6, nl7, nl8, nl9, nl10, nl11, nl12, nl15, nl16, nl60, nl96, nl192, nl552, nl553, nl554, nl555, nl556, nl557, nl558, nl559, nl560, nl561, nl562, nl563, nl570, R])
set_option maxRecDepth 16384 in
theorem v_belongs {v : x_V} {w : Nat → Nat} (R : Rv v w) {r s g : Nat} (h : r < 16) (h1 : w (96 + 6 * r) < 9) (h2 : w (96 + 6 * r + 2) < 99) (hs : s < 9) (hg : g < 99) : fX7_belongs v (nn r) (nn s) (nn g) = some (nn (if w (96 + 6 * r) = s ∧ w (96 + 6 * r + 2) = g then 1 else 0)) := by
  unfold fX7_belongs
  (try simp (disch := omega) only [nn_add, nn_mul, nn_clamp, nn_in1, nn_inj, nn_lt, nn_le, nn_neg, nu_eq1, nu_ne1, nn_nb0, nn_true, nn_false, if_true, if_false, x_let_n, x_let_m, xb_some, eq_self, ite_true, ite_false, not_false_eq_true, not_true_eq_false, nneg1, nl0, nl1, nl2, nl3, nl4, nl5, nl6, nl7, nl8, nl9, nl10, nl11, nl12, nl15, nl16, nl60, nl96, nl192, nl552, nl553, nl554, nl555, nl556, nl557, nl558, nl559, nl560, nl561, nl562, nl563, nl570, R, v_state R])
  by_cases c1 : w (96 + 6 * r) = s <;> by_cases c2 : w (96 + 6 * r + 2) = g <;> simp only [c1, c2, if_true, if_false, and_self, and_true, true_and, false_and, and_false, eq_self]
def n_want (w : Nat → Nat) (g : Nat) : Nat → Nat := nu (nu (n_post w 2 g (w (8 * g + 1)) 0 0) (8 * g + 4) (w 553 + 1)) (8 * g + 5) (w 554)
set_option maxRecDepth 16384 in
theorem n_post_554 {w : Nat → Nat} {k g r a t : Nat} (hk : k < 7) (hm : w 552 ≤ 60) : n_post w k g r a t 554 = w 554 := by
  unfold n_post
  split <;> (try simp (disch := omega) only [nn_add, nn_mul, nn_clamp, nn_in1, nn_inj, nn_lt, nn_le, nn_neg, nu_eq1, nu_ne1, nn_nb0, nn_true, nn_false, if_true, if_false, x_let_n, x_let_m, xb_some, eq_self, ite_true, ite_false, not_false_eq_true, not_true_eq_false, nneg1, nl0, nl1, nl2, nl3, nl4, nl5, nl6, nl7, nl8, nl9, nl10, nl11, nl12, nl15, nl16, nl60, nl96, nl192, nl552, nl553, nl554, nl555, nl556, nl557, nl558, nl559, nl560, nl561, nl562, nl563, nl570])
set_option maxRecDepth 16384 in
theorem v_want {v : x_V} {w : Nat → Nat} (R : Rv v w) {g : Nat} (hg : g < 12) (hm : w 552 ≤ 60) : Ok (fX7_want v (nn g)) (fun v' => Rv v' (n_want w g)) := by
  unfold fX7_want n_want
  (try simp (disch := omega) only [nn_add, nn_mul, nn_clamp, nn_in1, nn_inj, nn_lt, nn_le, nn_neg, nu_eq1, nu_ne1, nn_nb0, nn_true, nn_false, if_true, if_false, x_let_n, x_let_m, xb_some, eq_self, ite_true, ite_false, not_false_eq_true, not_true_eq_false, nneg1, nl0, nl1, nl2, nl3, nl4, nl5, nl6, nl7, nl8, nl9, nl10, nl11, nl12, nl15, nl16, nl60, nl96, nl192, nl552, nl553, nl554, nl555, nl556, nl557, nl558, nl559, nl560, nl561, nl562, nl563, nl570, R])
  refine Ok_bind (v_post R (by omega) hm) (fun q hq => ?_)
  obtain ⟨h1, R1⟩ := hq
  rw [h1]
  (try simp (disch := omega) only [nn_add, nn_mul, nn_clamp, nn_in1, nn_inj, nn_lt, nn_le, nn_neg, nu_eq1, nu_ne1, nn_nb0, nn_true, nn_false, if_true, if_false, x_let_n, x_let_m, xb_some, eq_self, ite_true, ite_false, not_false_eq_true, not_true_eq_false, nneg1, nl0, nl1, nl2, nl3, nl4, nl5, nl6, nl7, nl8, nl9, nl10, nl11, nl12, nl15, nl16, nl60, nl96, nl192, nl552, nl553, nl554, nl555, nl556, nl557, nl558, nl559, nl560, nl561, nl562, nl563, nl570, R1])
  refine Ok_up R1 (fun v2 R2 => ?_)
  (try simp (disch := omega) only [nn_add, nn_mul, nn_clamp, nn_in1, nn_inj, nn_lt, nn_le, nn_neg, nu_eq1, nu_ne1, nn_nb0, nn_true, nn_false, if_true, if_false, x_let_n, x_let_m, xb_some, eq_self, ite_true, ite_false, not_false_eq_true, not_true_eq_false, nneg1, nl0, nl1, nl2, nl3, nl4, nl5, nl6, nl7, nl8, nl9, nl10, nl11, nl12, nl15, nl16, nl60, nl96, nl192, nl552, nl553, nl554, nl555, nl556, nl557, nl558, nl559, nl560, nl561, nl562, nl563, nl570, R2])
  have e := n_post_554 (k := 2) (g := g) (r := w (8 * g + 1)) (a := 0) (t := 0) (by omega) hm
  rw [e]
  refine Ok_up R2 (fun v3 R3 => ?_)
  (try simp (disch := omega) only [nn_add, nn_mul, nn_clamp, nn_in1, nn_inj, nn_lt, nn_le, nn_neg, nu_eq1, nu_ne1, nn_nb0, nn_true, nn_false, if_true, if_false, x_let_n, x_let_m, xb_some, eq_self, ite_true, ite_false, not_false_eq_true, not_true_eq_false, nneg1, nl0, nl1, nl2, nl3, nl4, nl5, nl6, nl7, nl8, nl9, nl10, nl11, nl12, nl15, nl16, nl60, nl96, nl192, nl552, nl553, nl554, nl555, nl556, nl557, nl558, nl559, nl560, nl561, nl562, nl563, nl570, R3])
  exact Ok_some R3
abbrev n_can (w : Nat → Nat) (r g : Nat) : Prop := w (96 + 6 * r) = 0 ∧ (w (96 + 6 * r + 4) = 0 ∨ w (96 + 6 * r + 4) = g + 1)
def n_chl (w : Nat → Nat) (g : Nat) : Nat → Nat → Nat → Nat
  | 0, low, own => if own ≠ 0 then own else if w (8 * g + 7) ≠ 0 ∧ n_can w (w (8 * g + 7) - 1) g then w (8 * g + 7) else low
  | k + 1, low, own => if w (96 + 6 * k) = 1 ∧ w (96 + 6 * k + 2) = g then k + 1 else n_chl w g k (if n_can w k g then k + 1 else low) (if n_can w k g ∧ w (96 + 6 * k + 4) = g + 1 then k + 1 else own)
def n_choice (w : Nat → Nat) (g : Nat) : Nat := n_chl w g 16 0 0
/- what holds of every row at all times: guests, rooms, messages, lengths -/
def WzG (w : Nat → Nat) : Prop := ∀ g, g < 12 → w (8 * g) ≤ 3 ∧ w (8 * g + 1) < 16 ∧ w (8 * g + 2) ≤ w 554 ∧ w (8 * g + 3) ≤ 200 ∧ w (8 * g + 4) ≤ w 553 ∧ w (8 * g + 5) ≤ w 554 ∧ w (8 * g + 7) ≤ 16
def WzR (w : Nat → Nat) : Prop := (∀ r, r < 16 → w (96 + 6 * r) ≤ 3 ∧ w (96 + 6 * r + 1) ≤ w 554 + 200 ∧ w (96 + 6 * r + 2) < 12 ∧ w (96 + 6 * r + 3) ≤ w 553 ∧ w (96 + 6 * r + 4) ≤ 12 ∧ w (96 + 6 * r + 5) ≤ 1) ∧ (∀ r r', r < 16 → r' < 16 → w (96 + 6 * r + 4) ≠ 0 → w (96 + 6 * r + 4) = w (96 + 6 * r' + 4) → r = r') ∧ (∀ r r', r < 16 → r' < 16 → w (96 + 6 * r) = 1 → w (96 + 6 * r') = 1 → w (96 + 6 * r + 2) = w (96 + 6 * r' + 2) → r = r')
def WzM (w : Nat → Nat) : Prop := (∀ p, p < w 552 → w (192 + 6 * p) ≤ 6 ∧ w (192 + 6 * p + 1) < 12 ∧ w (192 + 6 * p + 2) < 16 ∧ w (192 + 6 * p + 3) ≤ w 553 ∧ w (192 + 6 * p + 4) ≤ w 553 ∧ w (192 + 6 * p + 5) ≤ 200) ∧ w 552 ≤ 60
def WzN (w : Nat → Nat) : Prop := 8 ≤ w 555 ∧ w 555 ≤ 200 ∧ 1 ≤ w 556 ∧ w 556 ≤ 50 ∧ 1 ≤ w 557 ∧ w 557 ≤ 200
def Wz (w : Nat → Nat) : Prop := WzG w ∧ WzR w ∧ WzM w ∧ WzN w
/- .. and no count has grown past what the machine can bear -/
def Wb (B : Nat) (w : Nat → Nat) : Prop := B ≤ 1000000000 ∧ ∀ i, w i ≤ B
set_option maxRecDepth 16384 in
theorem v_chl {v : x_V} {w : Nat → Nat} (R : Rv v w) (Z : Wz w) {g : Nat} (hg : g < 12) : ∀ (k n low own : Nat) (y2 y3 : Int32), k ≤ 16 → k < n → low ≤ 16 → own ≤ 16 → y2 = mm low → y3 = mm own → fX7_choice_b8 n v (nn g) y2 y3 (mm k) = some (mm (n_chl w g k low own)) := by
  intro k
  induction k with
  | zero =>
    intro n low own y2 y3 hk hn hl ho e2 e3
    obtain ⟨n, rfl⟩ : ∃ m, n = m + 1 := ⟨n - 1, by omega⟩
    rw [fX7_choice_b8, n_chl, e2, e3, if_pos ((mm_neg (by omega)).mpr rfl)]
    obtain ⟨g1, g2, -, g3, -, -, g4⟩ := Z.1 g hg
    unfold fX7_choice_j173 fX7_choice_j169
    (try simp (disch := omega) only [nn_add, nn_mul, nn_clamp, nn_in1, nn_inj, nn_lt, nn_le, nn_neg, nu_eq1, nu_ne1, nn_nb0, nn_true, nn_false, if_true, if_false, x_let_n, x_let_m, xb_some, eq_self, ite_true, ite_false, not_false_eq_true, not_true_eq_false, nneg1, nl0, nl1, nl2, nl3, nl4, nl5, nl6, nl7, nl8, nl9, nl10, nl11, nl12, nl15, nl16, nl60, nl96, nl192, nl552, nl553, nl554, nl555, nl556, nl557, nl558, nl559, nl560, nl561, nl562, nl563, nl570, R])
    have el : nn (w (8 * g + 7)) - nn 1 = mm (w (8 * g + 7)) := rfl
    rw [el]
    (try simp (disch := omega) only [nn_add, nn_mul, nn_clamp, nn_in1, nn_inj, nn_lt, nn_le, nn_neg, nu_eq1, nu_ne1, nn_nb0, nn_true, nn_false, if_true, if_false, x_let_n, x_let_m, xb_some, eq_self, ite_true, ite_false, not_false_eq_true, not_true_eq_false, nneg1, nl0, nl1, nl2, nl3, nl4, nl5, nl6, nl7, nl8, nl9, nl10, nl11, nl12, nl15, nl16, nl60, nl96, nl192, nl552, nl553, nl554, nl555, nl556, nl557, nl558, nl559, nl560, nl561, nl562, nl563, nl570, R, mm_inj])
    by_cases c1 : w (8 * g + 7) = 0
    · rw [if_pos c1]
      by_cases c2 : own = 0
      · rw [if_pos c2, if_neg (by omega), if_neg (by omega)]
      · rw [if_neg c2, if_pos (by omega)]
    · rw [if_neg c1]
      obtain ⟨d, hd⟩ : ∃ d, w (8 * g + 7) = d + 1 := ⟨w (8 * g + 7) - 1, by omega⟩
      obtain ⟨r1, -, r2, -, r3, r4⟩ := Z.2.1.1 d (by omega)
      rw [hd, mm_succ, Nat.add_sub_cancel]
      (try simp (disch := omega) only [nn_add, nn_mul, nn_clamp, nn_in1, nn_inj, nn_lt, nn_le, nn_neg, nu_eq1, nu_ne1, nn_nb0, nn_true, nn_false, if_true, if_false, x_let_n, x_let_m, xb_some, eq_self, ite_true, ite_false, not_false_eq_true, not_true_eq_false, nneg1, nl0, nl1, nl2, nl3, nl4, nl5, nl6, nl7, nl8, nl9, nl10, nl11, nl12, nl15, nl16, nl60, nl96, nl192, nl552, nl553, nl554, nl555, nl556, nl557, nl558, nl559, nl560, nl561, nl562, nl563, nl570, R, v_state R, mm_inj])
      by_cases c2 : own = 0
      · rw [c2]
        by_cases c3 : w (96 + 6 * d) = 0 <;> by_cases c4 : w (96 + 6 * d + 4) = 0 <;> by_cases c5 : w (96 + 6 * d + 4) = g + 1 <;> simp [n_can, c3, c4, c5, mm_succ]
      · by_cases c3 : w (96 + 6 * d) = 0 <;> by_cases c4 : w (96 + 6 * d + 4) = 0 <;> by_cases c5 : w (96 + 6 * d + 4) = g + 1 <;> simp [n_can, c2, c3, c4, c5]
  | succ k ih =>
    intro n low own y2 y3 hk hn hl ho e2 e3
    obtain ⟨n, rfl⟩ : ∃ m, n = m + 1 := ⟨n - 1, by omega⟩
    obtain ⟨r1, -, r2, -, r3, r4⟩ := Z.2.1.1 k (by omega)
    rw [fX7_choice_b8, n_chl, if_neg (by rw [mm_neg (by omega)]; omega), mm_succ]
    (try simp (disch := omega) only [nn_add, nn_mul, nn_clamp, nn_in1, nn_inj, nn_lt, nn_le, nn_neg, nu_eq1, nu_ne1, nn_nb0, nn_true, nn_false, if_true, if_false, x_let_n, x_let_m, xb_some, eq_self, ite_true, ite_false, not_false_eq_true, not_true_eq_false, nneg1, nl0, nl1, nl2, nl3, nl4, nl5, nl6, nl7, nl8, nl9, nl10, nl11, nl12, nl15, nl16, nl60, nl96, nl192, nl552, nl553, nl554, nl555, nl556, nl557, nl558, nl559, nl560, nl561, nl562, nl563, nl570, R, v_state R, v_belongs R, nn_m1])
    by_cases c : w (96 + 6 * k) = 1 ∧ w (96 + 6 * k + 2) = g
    · rw [if_pos c, if_neg (fun h => h c), mm_succ]
    · rw [if_neg c, if_pos c]
      have i1 := fun a b c d e f => ih n a b c d (by omega) (by omega) e f
      by_cases c3 : w (96 + 6 * k) = 0
      · by_cases c4 : w (96 + 6 * k + 4) = 0
        · have c5 : ¬ w (96 + 6 * k + 4) = g + 1 := by omega
          rw [if_pos c3, if_pos c4, if_pos ⟨c3, Or.inl c4⟩, if_neg (fun h => c5 h.2)]
          exact i1 _ _ _ _ (by omega) ho (mm_succ k).symm e3
        · by_cases c5 : w (96 + 6 * k + 4) = g + 1
          · rw [if_pos c3, if_neg c4, if_pos c5, if_pos ⟨c3, Or.inr c5⟩, if_pos ⟨⟨c3, Or.inr c5⟩, c5⟩]
            exact i1 _ _ _ _ (by omega) (by omega) (mm_succ k).symm (mm_succ k).symm
          · rw [if_pos c3, if_neg c4, if_neg c5, if_neg (fun h => h.2.elim c4 c5), if_neg (fun h => c5 h.2)]
            exact i1 _ _ _ _ hl ho e2 e3
      · rw [if_neg c3, if_neg (fun h => c3 h.1), if_neg (fun h => c3 h.1.1)]
        exact i1 _ _ _ _ hl ho e2 e3
set_option maxRecDepth 16384 in
theorem v_choice {v : x_V} {w : Nat → Nat} (R : Rv v w) (Z : Wz w) {g : Nat} (hg : g < 12) : fX7_choice v (nn g) = some (mm (n_choice w g)) := v_chl R Z hg 16 400 0 0 _ _ (by omega) (by omega) (by omega) (by omega) rfl rfl
