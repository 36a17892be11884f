set_option maxRecDepth 16384 in
theorem v_goSeek {v : x_V} {w : Nat → Nat} (R : Rv v w) {g : Nat} (hg : g < 12) (hm : w 552 ≤ 60) : Ok (fX7_goSeek v (nn g)) (fun q => q.1 = nn (n_post (nu w (8 * g) 1) 0 g 0 0 0 552) ∧ Rv q.2 (n_post (nu w (8 * g) 1) 0 g 0 0 0)) := by
  unfold fX7_goSeek
  (try simp (disch := omega) only [nn_add, nn_mul, nn_clamp, nn_in1, nn_inj, nn_lt, nn_le, nn_neg, nu_eq1, nu_ne1, nn_nb0, nn_true, nn_false, if_true, if_false, x_let_n, x_let_m, xb_some, eq_self, ite_true, ite_false, not_false_eq_true, not_true_eq_false, nneg1, nl0, nl1, nl2, nl3, nl4, nl5, nl6, nl7, nl8, nl9, nl10, nl11, nl12, nl15, nl16, nl60, nl96, nl192, nl552, nl553, nl554, nl555, nl556, nl557, nl558, nl559, nl560, nl561, nl562, nl563, nl570, R])
  refine Ok_up R (fun v1 R1 => ?_)
  refine Ok_bind (v_post R1 (by omega) (by (try simp (disch := omega) only [nn_add, nn_mul, nn_clamp, nn_in1, nn_inj, nn_lt, nn_le, nn_neg, nu_eq1, nu_ne1, nn_nb0, nn_true, nn_false, if_true, if_false, x_let_n, x_let_m, xb_some, eq_self, ite_true, ite_false, not_false_eq_true, not_true_eq_false, nneg1, nl0, nl1, nl2, nl3, nl4, nl5, nl6, nl7, nl8, nl9, nl10, nl11, nl12, nl15, nl16, nl60, nl96, nl192, nl552, nl553, nl554, nl555, nl556, nl557, nl558, nl559, nl560, nl561, nl562, nl563, nl570]); exact hm)) (fun q hq => ?_)
  refine Ok_some ⟨?_, hq.2⟩
  exact hq.2 552 (by omega)
def n_leave (w : Nat → Nat) (g : Nat) : Nat → Nat := nu (n_post w 6 g (w (8 * g + 1)) 0 0) (8 * g) 0
set_option maxRecDepth 16384 in
theorem v_goLeave {v : x_V} {w : Nat → Nat} (R : Rv v w) {g : Nat} (hg : g < 12) (hm : w 552 ≤ 60) : Ok (fX7_goLeave v (nn g)) (fun q => q.1 = nn (w (8 * g + 1)) ∧ Rv q.2 (n_leave w g)) := by
  unfold fX7_goLeave n_leave
  (try simp (disch := omega) only [nn_add, nn_mul, nn_clamp, nn_in1, nn_inj, nn_lt, nn_le, nn_neg, nu_eq1, nu_ne1, nn_nb0, nn_true, nn_false, if_true, if_false, x_let_n, x_let_m, xb_some, eq_self, ite_true, ite_false, not_false_eq_true, not_true_eq_false, nneg1, nl0, nl1, nl2, nl3, nl4, nl5, nl6, nl7, nl8, nl9, nl10, nl11, nl12, nl15, nl16, nl60, nl96, nl192, nl552, nl553, nl554, nl555, nl556, nl557, nl558, nl559, nl560, nl561, nl562, nl563, nl570, R])
  refine Ok_bind (v_post R (by omega) hm) (fun q hq => ?_)
  obtain ⟨h1, R1⟩ := hq
  (try simp (disch := omega) only [nn_add, nn_mul, nn_clamp, nn_in1, nn_inj, nn_lt, nn_le, nn_neg, nu_eq1, nu_ne1, nn_nb0, nn_true, nn_false, if_true, if_false, x_let_n, x_let_m, xb_some, eq_self, ite_true, ite_false, not_false_eq_true, not_true_eq_false, nneg1, nl0, nl1, nl2, nl3, nl4, nl5, nl6, nl7, nl8, nl9, nl10, nl11, nl12, nl15, nl16, nl60, nl96, nl192, nl552, nl553, nl554, nl555, nl556, nl557, nl558, nl559, nl560, nl561, nl562, nl563, nl570])
  refine Ok_up R1 (fun v2 R2 => ?_)
  refine Ok_some ⟨?_, R2⟩
  rw [R2 _ (by omega), nu_ne1 (by omega)]
  congr 1
  unfold n_post
  split <;> (try simp (disch := omega) only [nn_add, nn_mul, nn_clamp, nn_in1, nn_inj, nn_lt, nn_le, nn_neg, nu_eq1, nu_ne1, nn_nb0, nn_true, nn_false, if_true, if_false, x_let_n, x_let_m, xb_some, eq_self, ite_true, ite_false, not_false_eq_true, not_true_eq_false, nneg1, nl0, nl1, nl2, nl3, nl4, nl5, nl6, nl7, nl8, nl9, nl10, nl11, nl12, nl15, nl16, nl60, nl96, nl192, nl552, nl553, nl554, nl555, nl556, nl557, nl558, nl559, nl560, nl561, nl562, nl563, nl570])
def n_seek (w : Nat → Nat) (g : Nat) : Nat → Nat := n_post (nu w (8 * g) 1) 0 g 0 0 0
/- rooms that become free: d of them, the last ones -/
def n_rooms : Nat → (Nat → Nat) → (Nat → Nat)
  | 0, w => w
  | d + 1, w => n_rooms d (if w (96 + 6 * (15 - d)) ≠ 0 ∧ w (96 + 6 * (15 - d) + 1) ≤ w 554 then nu w (96 + 6 * (15 - d)) 0 else w)
def n_guests : Nat → (Nat → Nat) → Nat × (Nat → Nat)
  | 0, w => (0, w)
  | d + 1, w =>
    if w (8 * (11 - d)) = 3 ∧ w (8 * (11 - d) + 2) + w (8 * (11 - d) + 3) ≤ w 554 then ((n_guests d (nu (nu w (8 * (11 - d)) 0) 561 (w 561 + 1))).1 + 1, (n_guests d (nu (nu w (8 * (11 - d)) 0) 561 (w 561 + 1))).2)
    else if w (8 * (11 - d)) = 3 ∧ (w 554 = w (8 * (11 - d) + 2) + w (8 * (11 - d) + 3) / 2 ∨ w 554 = w (8 * (11 - d) + 2) + 7 * w (8 * (11 - d) + 3) / 8) then n_guests d (n_want w (11 - d))
    else n_guests d w
def n_tick (w : Nat → Nat) : Nat × (Nat → Nat) := n_guests 12 (n_rooms 16 (nu w 554 (w 554 + 1)))
def n_go : Nat → (Nat → Nat) → Nat × (Nat → Nat)
  | 0, w => (0, w)
  | t + 1, w => ((n_tick w).1 + (n_go t (n_tick w).2).1, (n_go t (n_tick w).2).2)
/- what ticks need of a row, all the way -/
def Wt (B : Nat) (w : Nat → Nat) : Prop := B ≤ 1000000000 ∧ (∀ g, g < 12 → w (8 * g) ≤ 3 ∧ w (8 * g + 2) ≤ w 554 ∧ w (8 * g + 3) ≤ 200) ∧ (∀ r, r < 16 → w (96 + 6 * r) ≤ 3 ∧ w (96 + 6 * r + 1) ≤ B) ∧ w 552 ≤ 60 ∧ w 554 ≤ B
set_option maxRecDepth 16384 in
theorem n_want_at {w : Nat → Nat} {g : Nat} (hg : g < 12) (hm : w 552 ≤ 60) {i : Nat} (h : i < 192 ∨ (553 < i ∧ i ≠ 558 ∧ i ≠ 565)) (h4 : i ≠ 8 * g + 4) (h5 : i ≠ 8 * g + 5) : n_want w g i = w i := by
  unfold n_want n_post
  rw [nu_ne1 h5, nu_ne1 h4]
  split <;> (try simp (disch := omega) only [nn_add, nn_mul, nn_clamp, nn_in1, nn_inj, nn_lt, nn_le, nn_neg, nu_eq1, nu_ne1, nn_nb0, nn_true, nn_false, if_true, if_false, x_let_n, x_let_m, xb_some, eq_self, ite_true, ite_false, not_false_eq_true, not_true_eq_false, nneg1, nl0, nl1, nl2, nl3, nl4, nl5, nl6, nl7, nl8, nl9, nl10, nl11, nl12, nl15, nl16, nl60, nl96, nl192, nl552, nl553, nl554, nl555, nl556, nl557, nl558, nl559, nl560, nl561, nl562, nl563, nl570])
set_option maxRecDepth 16384 in
theorem n_want_552 {w : Nat → Nat} {g : Nat} (hg : g < 12) (hm : w 552 ≤ 60) : n_want w g 552 ≤ 60 := by
  unfold n_want n_post
  rw [nu_ne1 (by omega), nu_ne1 (by omega)]
  split
  · (try simp (disch := omega) only [nn_add, nn_mul, nn_clamp, nn_in1, nn_inj, nn_lt, nn_le, nn_neg, nu_eq1, nu_ne1, nn_nb0, nn_true, nn_false, if_true, if_false, x_let_n, x_let_m, xb_some, eq_self, ite_true, ite_false, not_false_eq_true, not_true_eq_false, nneg1, nl0, nl1, nl2, nl3, nl4, nl5, nl6, nl7, nl8, nl9, nl10, nl11, nl12, nl15, nl16, nl60, nl96, nl192, nl552, nl553, nl554, nl555, nl556, nl557, nl558, nl559, nl560, nl561, nl562, nl563, nl570]); omega
  · rw [nu_eq1 rfl]; omega
set_option maxRecDepth 16384 in
theorem Wt_want {B : Nat} {w : Nat → Nat} {g : Nat} (Z : Wt B w) (hg : g < 12) : Wt B (n_want w g) := by
  obtain ⟨b0, z1, z2, z3, z4⟩ := Z
  have e := n_want_at hg z3 (i := 554) (by omega) (by omega) (by omega)
  refine ⟨b0, fun g' hg' => ?_, fun r hr => ?_, n_want_552 hg z3, by rw [e]; exact z4⟩
  · rw [e, n_want_at hg z3 (by omega) (by omega) (by omega), n_want_at hg z3 (by omega) (by omega) (by omega), n_want_at hg z3 (by omega) (by omega) (by omega)]
    exact z1 g' hg'
  · rw [n_want_at hg z3 (by omega) (by omega) (by omega), n_want_at hg z3 (by omega) (by omega) (by omega)]
    exact z2 r hr
set_option maxRecDepth 16384 in
theorem v_guests {B : Nat} : ∀ (d n : Nat) (v : x_V) (w : Nat → Nat) (c : Nat), Rv v w → Wt B w → d ≤ 12 → d < n → Ok (fX7_tickOnce_b64 n v (nn c) (nn (12 - d))) (fun q => q.1 = nn (c + (n_guests d w).1) ∧ Rv q.2 (n_guests d w).2) := by
  intro d
  induction d with
  | zero =>
    intro n v w c R Z hd hn
    obtain ⟨n, rfl⟩ : ∃ m, n = m + 1 := ⟨n - 1, by omega⟩
    rw [fX7_tickOnce_b64, n_guests, if_pos (by decide)]
    exact Ok_some ⟨rfl, R⟩
  | succ d ih =>
    intro n v w c R Z hd hn
    obtain ⟨n, rfl⟩ : ∃ m, n = m + 1 := ⟨n - 1, by omega⟩
    obtain ⟨b0, z1, z2, z3, z4⟩ := id Z
    have e12 : 12 - (d + 1) = 11 - d := by omega
    rw [fX7_tickOnce_b64, e12]
    obtain ⟨g, hg⟩ : ∃ g, g = 11 - d := ⟨_, rfl⟩
    have hn1 : 12 - d = g + 1 := by omega
    rw [n_guests, ← hg]
    have hg12 : g < 12 := by omega
    obtain ⟨y1, y2, y3⟩ := z1 g hg12
    have I := fun v' w' c' R' Z' => ih n v' w' c' R' Z' (by omega) (by omega)
    rw [hn1] at I
    have s1 : nn (w 554) - nn (w (8 * g + 2)) = nn (w 554 - w (8 * g + 2)) := nn_sub y2
    have s2 : nn (w (8 * g + 3)) / nn 2 = nn (w (8 * g + 3) / 2) := nn_div (by omega) (by omega) (by omega)
    have s3 : nn (7 * w (8 * g + 3)) / nn 8 = nn (7 * w (8 * g + 3) / 8) := nn_div (by omega) (by omega) (by omega)
    rw [if_neg (show ¬ (12 : Int32) ≤ nn g from fun h => by have := (nn_le (a := 12) (by omega) (by omega)).mp h; omega)]
    (try simp (disch := omega) only [nn_add, nn_mul, nn_clamp, nn_in1, nn_inj, nn_lt, nn_le, nn_neg, nu_eq1, nu_ne1, nn_nb0, nn_true, nn_false, if_true, if_false, x_let_n, x_let_m, xb_some, eq_self, ite_true, ite_false, not_false_eq_true, not_true_eq_false, nneg1, nl0, nl1, nl2, nl3, nl4, nl5, nl6, nl7, nl8, nl9, nl10, nl11, nl12, nl15, nl16, nl60, nl96, nl192, nl552, nl553, nl554, nl555, nl556, nl557, nl558, nl559, nl560, nl561, nl562, nl563, nl570, R, s1, s2, s3, v_doing R])
    by_cases c1 : w (8 * g) = 3
    · have A : ∀ (P : Prop) (x y : Option (Int32 × x_V)) (i : Decidable P), P → @ite _ P i x y = x := fun P x y i h => if_pos h
      by_cases c2 : w (8 * g + 2) + w (8 * g + 3) ≤ w 554
      · rw [if_pos (show w (8 * g) = 3 ∧ w (8 * g + 2) + w (8 * g + 3) ≤ w 554 from ⟨c1, c2⟩), if_pos c1, if_neg (by omega)]
        refine Ok_up R (fun v1 R1 => ?_)
        (try simp (disch := omega) only [nn_add, nn_mul, nn_clamp, nn_in1, nn_inj, nn_lt, nn_le, nn_neg, nu_eq1, nu_ne1, nn_nb0, nn_true, nn_false, if_true, if_false, x_let_n, x_let_m, xb_some, eq_self, ite_true, ite_false, not_false_eq_true, not_true_eq_false, nneg1, nl0, nl1, nl2, nl3, nl4, nl5, nl6, nl7, nl8, nl9, nl10, nl11, nl12, nl15, nl16, nl60, nl96, nl192, nl552, nl553, nl554, nl555, nl556, nl557, nl558, nl559, nl560, nl561, nl562, nl563, nl570, R1])
        refine Ok_up R1 (fun v2 R2 => ?_)
        have W2 : Wt B (nu (nu w (8 * g) 0) 561 (w 561 + 1)) := by
          have e4 : nu (nu w (8 * g) 0) 561 (w 561 + 1) 554 = w 554 := by (try simp (disch := omega) only [nn_add, nn_mul, nn_clamp, nn_in1, nn_inj, nn_lt, nn_le, nn_neg, nu_eq1, nu_ne1, nn_nb0, nn_true, nn_false, if_true, if_false, x_let_n, x_let_m, xb_some, eq_self, ite_true, ite_false, not_false_eq_true, not_true_eq_false, nneg1, nl0, nl1, nl2, nl3, nl4, nl5, nl6, nl7, nl8, nl9, nl10, nl11, nl12, nl15, nl16, nl60, nl96, nl192, nl552, nl553, nl554, nl555, nl556, nl557, nl558, nl559, nl560, nl561, nl562, nl563, nl570])
          refine ⟨b0, fun g' hg' => ?_, fun r hr => ?_, by (try simp (disch := omega) only [nn_add, nn_mul, nn_clamp, nn_in1, nn_inj, nn_lt, nn_le, nn_neg, nu_eq1, nu_ne1, nn_nb0, nn_true, nn_false, if_true, if_false, x_let_n, x_let_m, xb_some, eq_self, ite_true, ite_false, not_false_eq_true, not_true_eq_false, nneg1, nl0, nl1, nl2, nl3, nl4, nl5, nl6, nl7, nl8, nl9, nl10, nl11, nl12, nl15, nl16, nl60, nl96, nl192, nl552, nl553, nl554, nl555, nl556, nl557, nl558, nl559, nl560, nl561, nl562, nl563, nl570]); exact z3, by rw [e4]; exact z4⟩
          · have f2 : nu (nu w (8 * g) 0) 561 (w 561 + 1) (8 * g' + 2) = w (8 * g' + 2) := by rw [nu_ne1 (by omega), nu_ne1 (by omega)]
            have f3 : nu (nu w (8 * g) 0) 561 (w 561 + 1) (8 * g' + 3) = w (8 * g' + 3) := by rw [nu_ne1 (by omega), nu_ne1 (by omega)]
            rw [e4, f2, f3]
            refine ⟨?_, (z1 g' hg').2⟩
            rw [nu_ne1 (by omega)]
            unfold nu
            split
            · omega
            · exact (z1 g' hg').1
          · (try simp (disch := omega) only [nn_add, nn_mul, nn_clamp, nn_in1, nn_inj, nn_lt, nn_le, nn_neg, nu_eq1, nu_ne1, nn_nb0, nn_true, nn_false, if_true, if_false, x_let_n, x_let_m, xb_some, eq_self, ite_true, ite_false, not_false_eq_true, not_true_eq_false, nneg1, nl0, nl1, nl2, nl3, nl4, nl5, nl6, nl7, nl8, nl9, nl10, nl11, nl12, nl15, nl16, nl60, nl96, nl192, nl552, nl553, nl554, nl555, nl556, nl557, nl558, nl559, nl560, nl561, nl562, nl563, nl570]); exact z2 r hr
        have h := I v2 _ (c + 1) R2 W2
        refine Ok_mono h (fun q hq => ⟨?_, hq.2⟩)
        rw [hq.1]
        congr 1
        omega
      · rw [if_neg (show ¬ (w (8 * g) = 3 ∧ w (8 * g + 2) + w (8 * g + 3) ≤ w 554) from fun h => c2 h.2), if_pos c1, if_pos (by omega)]
        by_cases c3 : w 554 = w (8 * g + 2) + w (8 * g + 3) / 2
        · rw [if_pos (show w (8 * g) = 3 ∧ (w 554 = w (8 * g + 2) + w (8 * g + 3) / 2 ∨ w 554 = w (8 * g + 2) + 7 * w (8 * g + 3) / 8) from ⟨c1, Or.inl c3⟩), if_pos (by omega)]
          refine Ok_bind (v_want R hg12 z3) (fun v1 R1 => ?_)
          exact I v1 _ c R1 (Wt_want Z hg12)
        · rw [if_neg (show ¬ w 554 - w (8 * g + 2) = w (8 * g + 3) / 2 by omega)]
          by_cases c4 : w 554 = w (8 * g + 2) + 7 * w (8 * g + 3) / 8
          · rw [if_pos (show w (8 * g) = 3 ∧ (w 554 = w (8 * g + 2) + w (8 * g + 3) / 2 ∨ w 554 = w (8 * g + 2) + 7 * w (8 * g + 3) / 8) from ⟨c1, Or.inr c4⟩), if_pos (by omega)]
            refine Ok_bind (v_want R hg12 z3) (fun v1 R1 => ?_)
            exact I v1 _ c R1 (Wt_want Z hg12)
          · rw [if_neg (show ¬ (w (8 * g) = 3 ∧ (w 554 = w (8 * g + 2) + w (8 * g + 3) / 2 ∨ w 554 = w (8 * g + 2) + 7 * w (8 * g + 3) / 8)) from fun h => h.2.elim c3 c4), if_neg (by omega)]
            exact I v w c R Z
    · rw [if_neg (show ¬ (w (8 * g) = 3 ∧ w (8 * g + 2) + w (8 * g + 3) ≤ w 554) from fun h => c1 h.1), if_neg (show ¬ (w (8 * g) = 3 ∧ (w 554 = w (8 * g + 2) + w (8 * g + 3) / 2 ∨ w 554 = w (8 * g + 2) + 7 * w (8 * g + 3) / 8)) from fun h => c1 h.1), if_neg c1]
      exact I v w c R Z
set_option maxRecDepth 16384 in
theorem Wt_room {B : Nat} {w : Nat → Nat} {r : Nat} (Z : Wt B w) (hr : r < 16) : Wt B (nu w (96 + 6 * r) 0) := by
  obtain ⟨b0, z1, z2, z3, z4⟩ := Z
  refine ⟨b0, fun g hg => ?_, fun r' hr' => ?_, by (try simp (disch := omega) only [nn_add, nn_mul, nn_clamp, nn_in1, nn_inj, nn_lt, nn_le, nn_neg, nu_eq1, nu_ne1, nn_nb0, nn_true, nn_false, if_true, if_false, x_let_n, x_let_m, xb_some, eq_self, ite_true, ite_false, not_false_eq_true, not_true_eq_false, nneg1, nl0, nl1, nl2, nl3, nl4, nl5, nl6, nl7, nl8, nl9, nl10, nl11, nl12, nl15, nl16, nl60, nl96, nl192, nl552, nl553, nl554, nl555, nl556, nl557, nl558, nl559, nl560, nl561, nl562, nl563, nl570]); exact z3, by (try simp (disch := omega) only [nn_add, nn_mul, nn_clamp, nn_in1, nn_inj, nn_lt, nn_le, nn_neg, nu_eq1, nu_ne1, nn_nb0, nn_true, nn_false, if_true, if_false, x_let_n, x_let_m, xb_some, eq_self, ite_true, ite_false, not_false_eq_true, not_true_eq_false, nneg1, nl0, nl1, nl2, nl3, nl4, nl5, nl6, nl7, nl8, nl9, nl10, nl11, nl12, nl15, nl16, nl60, nl96, nl192, nl552, nl553, nl554, nl555, nl556, nl557, nl558, nl559, nl560, nl561, nl562, nl563, nl570]); exact z4⟩
  · (try simp (disch := omega) only [nn_add, nn_mul, nn_clamp, nn_in1, nn_inj, nn_lt, nn_le, nn_neg, nu_eq1, nu_ne1, nn_nb0, nn_true, nn_false, if_true, if_false, x_let_n, x_let_m, xb_some, eq_self, ite_true, ite_false, not_false_eq_true, not_true_eq_false, nneg1, nl0, nl1, nl2, nl3, nl4, nl5, nl6, nl7, nl8, nl9, nl10, nl11, nl12, nl15, nl16, nl60, nl96, nl192, nl552, nl553, nl554, nl555, nl556, nl557, nl558, nl559, nl560, nl561, nl562, nl563, nl570]); exact z1 g hg
  · rw [show nu w (96 + 6 * r) 0 (96 + 6 * r' + 1) = w (96 + 6 * r' + 1) from nu_ne1 (by omega)]
    refine ⟨?_, (z2 r' hr').2⟩
    unfold nu
    split
    · omega
    · exact (z2 r' hr').1
set_option maxRecDepth 16384 in
theorem v_rooms {B : Nat} : ∀ (d n : Nat) (v : x_V) (w : Nat → Nat), Rv v w → Wt B w → d ≤ 16 → d < n → Ok (fX7_tickOnce_b13 n v (nn 0) (nn (16 - d))) (fun q => q.1 = nn (n_guests 12 (n_rooms d w)).1 ∧ Rv q.2 (n_guests 12 (n_rooms d w)).2) := by
  intro d
  induction d with
  | zero =>
    intro n v w R Z hd hn
    obtain ⟨n, rfl⟩ : ∃ m, n = m + 1 := ⟨n - 1, by omega⟩
    rw [fX7_tickOnce_b13, n_rooms, if_pos (by decide)]
    have h := v_guests (B := B) 12 400 v w 0 R Z (by omega) (by omega)
    refine Ok_mono h (fun q hq => ⟨?_, hq.2⟩)
    rw [hq.1]
    congr 1
    omega
  | succ d ih =>
    intro n v w R Z hd hn
    obtain ⟨n, rfl⟩ : ∃ m, n = m + 1 := ⟨n - 1, by omega⟩
    obtain ⟨b0, z1, z2, z3, z4⟩ := id Z
    have e16 : 16 - (d + 1) = 15 - d := by omega
    rw [fX7_tickOnce_b13, e16, n_rooms]
    obtain ⟨r, hr⟩ : ∃ r, r = 15 - d := ⟨_, rfl⟩
    have hn1 : 16 - d = r + 1 := by omega
    rw [← hr]
    have hr16 : r < 16 := by omega
    obtain ⟨y1, y2⟩ := z2 r hr16
    have I := fun v' w' R' Z' => ih n v' w' R' Z' (by omega) (by omega)
    rw [hn1] at I
    rw [if_neg (show ¬ (16 : Int32) ≤ nn r from fun h => by have := (nn_le (a := 16) (by omega) (by omega)).mp h; omega)]
    (try simp (disch := omega) only [nn_add, nn_mul, nn_clamp, nn_in1, nn_inj, nn_lt, nn_le, nn_neg, nu_eq1, nu_ne1, nn_nb0, nn_true, nn_false, if_true, if_false, x_let_n, x_let_m, xb_some, eq_self, ite_true, ite_false, not_false_eq_true, not_true_eq_false, nneg1, nl0, nl1, nl2, nl3, nl4, nl5, nl6, nl7, nl8, nl9, nl10, nl11, nl12, nl15, nl16, nl60, nl96, nl192, nl552, nl553, nl554, nl555, nl556, nl557, nl558, nl559, nl560, nl561, nl562, nl563, nl570, R, v_state R])
    by_cases c1 : w (96 + 6 * r) = 0
    · rw [if_neg (show ¬ (w (96 + 6 * r) ≠ 0 ∧ w (96 + 6 * r + 1) ≤ w 554) from fun h => h.1 c1), if_pos (by omega)]
      exact I v w R Z
    · rw [if_neg (show ¬ w (96 + 6 * r) ≤ 0 by omega)]
      by_cases c2 : w (96 + 6 * r + 1) ≤ w 554
      · rw [if_pos (show w (96 + 6 * r) ≠ 0 ∧ w (96 + 6 * r + 1) ≤ w 554 from ⟨c1, c2⟩), if_neg (by omega)]
        refine Ok_up R (fun v1 R1 => ?_)
        exact I v1 _ R1 (Wt_room Z hr16)
      · rw [if_neg (show ¬ (w (96 + 6 * r) ≠ 0 ∧ w (96 + 6 * r + 1) ≤ w 554) from fun h => c2 h.2), if_pos (by omega)]
        exact I v w R Z
set_option maxRecDepth 16384 in
theorem v_tick {B : Nat} {v : x_V} {w : Nat → Nat} (R : Rv v w) (Z : Wt B w) (h9 : B + 1 ≤ 1000000000) : Ok (fX7_tickOnce v) (fun q => q.1 = nn (n_tick w).1 ∧ Rv q.2 (n_tick w).2) := by
  unfold fX7_tickOnce
  (try simp (disch := omega) only [nn_add, nn_mul, nn_clamp, nn_in1, nn_inj, nn_lt, nn_le, nn_neg, nu_eq1, nu_ne1, nn_nb0, nn_true, nn_false, if_true, if_false, x_let_n, x_let_m, xb_some, eq_self, ite_true, ite_false, not_false_eq_true, not_true_eq_false, nneg1, nl0, nl1, nl2, nl3, nl4, nl5, nl6, nl7, nl8, nl9, nl10, nl11, nl12, nl15, nl16, nl60, nl96, nl192, nl552, nl553, nl554, nl555, nl556, nl557, nl558, nl559, nl560, nl561, nl562, nl563, nl570, R])
  refine Ok_up R (fun v1 R1 => ?_)
  obtain ⟨b0, z1, z2, z3, z4⟩ := Z
  have W1 : Wt (B + 1) (nu w 554 (w 554 + 1)) := by
    refine ⟨h9, fun g hg => ?_, fun r hr => ?_, by (try simp (disch := omega) only [nn_add, nn_mul, nn_clamp, nn_in1, nn_inj, nn_lt, nn_le, nn_neg, nu_eq1, nu_ne1, nn_nb0, nn_true, nn_false, if_true, if_false, x_let_n, x_let_m, xb_some, eq_self, ite_true, ite_false, not_false_eq_true, not_true_eq_false, nneg1, nl0, nl1, nl2, nl3, nl4, nl5, nl6, nl7, nl8, nl9, nl10, nl11, nl12, nl15, nl16, nl60, nl96, nl192, nl552, nl553, nl554, nl555, nl556, nl557, nl558, nl559, nl560, nl561, nl562, nl563, nl570]); exact z3, by (try simp (disch := omega) only [nn_add, nn_mul, nn_clamp, nn_in1, nn_inj, nn_lt, nn_le, nn_neg, nu_eq1, nu_ne1, nn_nb0, nn_true, nn_false, if_true, if_false, x_let_n, x_let_m, xb_some, eq_self, ite_true, ite_false, not_false_eq_true, not_true_eq_false, nneg1, nl0, nl1, nl2, nl3, nl4, nl5, nl6, nl7, nl8, nl9, nl10, nl11, nl12, nl15, nl16, nl60, nl96, nl192, nl552, nl553, nl554, nl555, nl556, nl557, nl558, nl559, nl560, nl561, nl562, nl563, nl570]); omega⟩
    · have := z1 g hg
      (try simp (disch := omega) only [nn_add, nn_mul, nn_clamp, nn_in1, nn_inj, nn_lt, nn_le, nn_neg, nu_eq1, nu_ne1, nn_nb0, nn_true, nn_false, if_true, if_false, x_let_n, x_let_m, xb_some, eq_self, ite_true, ite_false, not_false_eq_true, not_true_eq_false, nneg1, nl0, nl1, nl2, nl3, nl4, nl5, nl6, nl7, nl8, nl9, nl10, nl11, nl12, nl15, nl16, nl60, nl96, nl192, nl552, nl553, nl554, nl555, nl556, nl557, nl558, nl559, nl560, nl561, nl562, nl563, nl570])
      omega
    · have := z2 r hr
      (try simp (disch := omega) only [nn_add, nn_mul, nn_clamp, nn_in1, nn_inj, nn_lt, nn_le, nn_neg, nu_eq1, nu_ne1, nn_nb0, nn_true, nn_false, if_true, if_false, x_let_n, x_let_m, xb_some, eq_self, ite_true, ite_false, not_false_eq_true, not_true_eq_false, nneg1, nl0, nl1, nl2, nl3, nl4, nl5, nl6, nl7, nl8, nl9, nl10, nl11, nl12, nl15, nl16, nl60, nl96, nl192, nl552, nl553, nl554, nl555, nl556, nl557, nl558, nl559, nl560, nl561, nl562, nl563, nl570])
      omega
  have h := v_rooms (B := B + 1) 16 400 v1 (nu w 554 (w 554 + 1)) R1 W1 (by omega) (by omega)
  rw [Nat.sub_self] at h
  unfold n_tick
  exact h
