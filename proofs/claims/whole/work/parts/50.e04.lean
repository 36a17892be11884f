set_option maxRecDepth 16384 in
theorem nn_div {a b : Nat} (ha : a < 2147483648) (hb : b < 2147483648) (h0 : 0 < b) : nn a / nn b = nn (a / b) := by
  apply Int32.toInt_inj.mp
  have h1 : a / b ≤ a := Nat.div_le_self a b
  have h2 : ((a : Int) / (b : Int)) = ((a / b : Nat) : Int) := (Int.natCast_ediv a b).symm
  rw [Int32.toInt_div, nn_toInt ha, nn_toInt hb, Int.tdiv_eq_ediv_of_nonneg (by omega), h2]
  generalize a / b = q at h1
  rw [nn_toInt (by omega), Int.bmod_eq_of_le (by omega) (by omega)]
set_option maxRecDepth 16384 in
theorem n_chl_le {w : Nat → Nat} {g : Nat} (h7 : w (8 * g + 7) ≤ 16) : ∀ (k low own : Nat), k ≤ 16 → low ≤ 16 → own ≤ 16 → n_chl w g k low own ≤ 16 := by
  intro k
  induction k with
  | zero => intro low own _ hl ho; rw [n_chl]; split <;> (try split) <;> assumption
  | succ k ih =>
    intro low own hk hl ho
    rw [n_chl]
    split
    · omega
    · exact ih _ _ (by omega) (by split <;> omega) (by split <;> omega)
set_option maxRecDepth 16384 in
theorem n_choice_le {w : Nat → Nat} (Z : Wz w) {g : Nat} (hg : g < 12) : n_choice w g ≤ 16 := n_chl_le (Z.1 g hg).2.2.2.2.2.2 16 0 0 (by omega) (by omega) (by omega)
def n_settle (w : Nat → Nat) (r s u : Nat) : Nat → Nat := nu (nu w (96 + 6 * r) s) (96 + 6 * r + 1) u
set_option maxRecDepth 16384 in
theorem v_settle {v : x_V} {w : Nat → Nat} (R : Rv v w) {r s u : Nat} (hr : r < 16) : Ok (fX7_settle v (nn r) (nn s) (nn u)) (fun v' => Rv v' (n_settle w r s u)) := by
  unfold fX7_settle n_settle
  (try simp (disch := omega) only [nn_add, nn_mul, nn_clamp, nn_in1, nn_inj, nn_lt, nn_le, nn_neg, nu_eq1, nu_ne1, nn_nb0, nn_true, nn_false, if_true, if_false, x_let_n, x_let_m, xb_some, eq_self, ite_true, ite_false, not_false_eq_true, not_true_eq_false, nneg1, nl0, nl1, nl2, nl3, nl4, nl5, nl6, nl7, nl8, nl9, nl10, nl11, nl12, nl15, nl16, nl60, nl96, nl192, nl552, nl553, nl554, nl555, nl556, nl557, nl558, nl559, nl560, nl561, nl562, nl563, nl570, R])
  refine Ok_up R (fun v1 R1 => ?_)
  (try simp (disch := omega) only [nn_add, nn_mul, nn_clamp, nn_in1, nn_inj, nn_lt, nn_le, nn_neg, nu_eq1, nu_ne1, nn_nb0, nn_true, nn_false, if_true, if_false, x_let_n, x_let_m, xb_some, eq_self, ite_true, ite_false, not_false_eq_true, not_true_eq_false, nneg1, nl0, nl1, nl2, nl3, nl4, nl5, nl6, nl7, nl8, nl9, nl10, nl11, nl12, nl15, nl16, nl60, nl96, nl192, nl552, nl553, nl554, nl555, nl556, nl557, nl558, nl559, nl560, nl561, nl562, nl563, nl570, R1])
  refine Ok_up R1 (fun v2 R2 => ?_)
  exact Ok_some R2
def n_innSeeks (w : Nat → Nat) (g : Nat) : Nat → Nat := if n_choice w g = 0 then w else n_post (nu (n_settle w (n_choice w g - 1) 1 (w 554 + w 556)) (96 + 6 * (n_choice w g - 1) + 2) g) 1 g (n_choice w g - 1) 0 0
set_option maxRecDepth 16384 in
theorem v_innSeeks {v : x_V} {w : Nat → Nat} (R : Rv v w) (Z : Wz w) {g : Nat} (hg : g < 12) : Ok (fX7_innSeeks v (nn g)) (fun v' => Rv v' (n_innSeeks w g)) := by
  unfold fX7_innSeeks n_innSeeks
  rw [v_choice R Z hg]
  have hc := n_choice_le Z hg
  (try simp (disch := omega) only [nn_add, nn_mul, nn_clamp, nn_in1, nn_inj, nn_lt, nn_le, nn_neg, nu_eq1, nu_ne1, nn_nb0, nn_true, nn_false, if_true, if_false, x_let_n, x_let_m, xb_some, eq_self, ite_true, ite_false, not_false_eq_true, not_true_eq_false, nneg1, nl0, nl1, nl2, nl3, nl4, nl5, nl6, nl7, nl8, nl9, nl10, nl11, nl12, nl15, nl16, nl60, nl96, nl192, nl552, nl553, nl554, nl555, nl556, nl557, nl558, nl559, nl560, nl561, nl562, nl563, nl570, R, mm_inj])
  by_cases c : n_choice w g = 0
  · rw [if_pos c, if_pos c]; exact Ok_some R
  · rw [if_neg c, if_neg c]
    obtain ⟨d, hd⟩ : ∃ d, n_choice w g = d + 1 := ⟨n_choice w g - 1, by omega⟩
    rw [hd, mm_succ, Nat.add_sub_cancel]
    have hm := Z.2.2.1.2
    (try simp (disch := omega) only [nn_add, nn_mul, nn_clamp, nn_in1, nn_inj, nn_lt, nn_le, nn_neg, nu_eq1, nu_ne1, nn_nb0, nn_true, nn_false, if_true, if_false, x_let_n, x_let_m, xb_some, eq_self, ite_true, ite_false, not_false_eq_true, not_true_eq_false, nneg1, nl0, nl1, nl2, nl3, nl4, nl5, nl6, nl7, nl8, nl9, nl10, nl11, nl12, nl15, nl16, nl60, nl96, nl192, nl552, nl553, nl554, nl555, nl556, nl557, nl558, nl559, nl560, nl561, nl562, nl563, nl570, R])
    refine Ok_bind (v_settle R (by omega)) (fun v1 R1 => ?_)
    (try simp (disch := omega) only [nn_add, nn_mul, nn_clamp, nn_in1, nn_inj, nn_lt, nn_le, nn_neg, nu_eq1, nu_ne1, nn_nb0, nn_true, nn_false, if_true, if_false, x_let_n, x_let_m, xb_some, eq_self, ite_true, ite_false, not_false_eq_true, not_true_eq_false, nneg1, nl0, nl1, nl2, nl3, nl4, nl5, nl6, nl7, nl8, nl9, nl10, nl11, nl12, nl15, nl16, nl60, nl96, nl192, nl552, nl553, nl554, nl555, nl556, nl557, nl558, nl559, nl560, nl561, nl562, nl563, nl570, R1])
    refine Ok_up R1 (fun v2 R2 => ?_)
    (try simp (disch := omega) only [nn_add, nn_mul, nn_clamp, nn_in1, nn_inj, nn_lt, nn_le, nn_neg, nu_eq1, nu_ne1, nn_nb0, nn_true, nn_false, if_true, if_false, x_let_n, x_let_m, xb_some, eq_self, ite_true, ite_false, not_false_eq_true, not_true_eq_false, nneg1, nl0, nl1, nl2, nl3, nl4, nl5, nl6, nl7, nl8, nl9, nl10, nl11, nl12, nl15, nl16, nl60, nl96, nl192, nl552, nl553, nl554, nl555, nl556, nl557, nl558, nl559, nl560, nl561, nl562, nl563, nl570, R2])
    refine Ok_bind (v_post R2 (by omega) (by unfold n_settle; (try simp (disch := omega) only [nn_add, nn_mul, nn_clamp, nn_in1, nn_inj, nn_lt, nn_le, nn_neg, nu_eq1, nu_ne1, nn_nb0, nn_true, nn_false, if_true, if_false, x_let_n, x_let_m, xb_some, eq_self, ite_true, ite_false, not_false_eq_true, not_true_eq_false, nneg1, nl0, nl1, nl2, nl3, nl4, nl5, nl6, nl7, nl8, nl9, nl10, nl11, nl12, nl15, nl16, nl60, nl96, nl192, nl552, nl553, nl554, nl555, nl556, nl557, nl558, nl559, nl560, nl561, nl562, nl563, nl570]); exact hm)) (fun q hq => ?_)
    exact Ok_some hq.2
abbrev n_has (w : Nat → Nat) (r s g : Nat) : Prop := w (96 + 6 * r) = s ∧ w (96 + 6 * r + 2) = g
def n_innWants (w : Nat → Nat) (g r m : Nat) : Nat → Nat :=
  if ¬ n_has w r 2 g ∧ ¬ n_has w r 1 g then n_post w 4 g r m 0
  else nu (n_post (nu (nu (n_settle w r 2 (if n_has w r 2 g ∧ w 554 + w 555 < w (96 + 6 * r + 1) then w (96 + 6 * r + 1) else w 554 + w 555)) (8 * g + 7) (r + 1)) 560 (w 560 + 1)) 3 g r m (w 555)) (96 + 6 * r + 3) (w 553 + 1)
set_option maxRecDepth 16384 in
theorem v_innWants_j89 {v : x_V} {w : Nat → Nat} (R : Rv v w) (Z : Wz w) {g r m u : Nat} (hg : g < 12) (hr : r < 16) : Ok (fX7_innWants_j89 v (nn g) (nn r) (nn m) (nn u) (2 : Int32) (nn r)) (fun v' => Rv v' (nu (n_post (nu (nu (n_settle w r 2 u) (8 * g + 7) (r + 1)) 560 (w 560 + 1)) 3 g r m (w 555)) (96 + 6 * r + 3) (w 553 + 1))) := by
  unfold fX7_innWants_j89
  have hm := Z.2.2.1.2
  (try simp (disch := omega) only [nn_add, nn_mul, nn_clamp, nn_in1, nn_inj, nn_lt, nn_le, nn_neg, nu_eq1, nu_ne1, nn_nb0, nn_true, nn_false, if_true, if_false, x_let_n, x_let_m, xb_some, eq_self, ite_true, ite_false, not_false_eq_true, not_true_eq_false, nneg1, nl0, nl1, nl2, nl3, nl4, nl5, nl6, nl7, nl8, nl9, nl10, nl11, nl12, nl15, nl16, nl60, nl96, nl192, nl552, nl553, nl554, nl555, nl556, nl557, nl558, nl559, nl560, nl561, nl562, nl563, nl570, R])
  refine Ok_bind (v_settle R (by omega)) (fun v1 R1 => ?_)
  (try simp (disch := omega) only [nn_add, nn_mul, nn_clamp, nn_in1, nn_inj, nn_lt, nn_le, nn_neg, nu_eq1, nu_ne1, nn_nb0, nn_true, nn_false, if_true, if_false, x_let_n, x_let_m, xb_some, eq_self, ite_true, ite_false, not_false_eq_true, not_true_eq_false, nneg1, nl0, nl1, nl2, nl3, nl4, nl5, nl6, nl7, nl8, nl9, nl10, nl11, nl12, nl15, nl16, nl60, nl96, nl192, nl552, nl553, nl554, nl555, nl556, nl557, nl558, nl559, nl560, nl561, nl562, nl563, nl570, R1])
  refine Ok_up R1 (fun v2 R2 => ?_)
  have e : n_settle w r 2 u 560 = w 560 := by unfold n_settle; (try simp (disch := omega) only [nn_add, nn_mul, nn_clamp, nn_in1, nn_inj, nn_lt, nn_le, nn_neg, nu_eq1, nu_ne1, nn_nb0, nn_true, nn_false, if_true, if_false, x_let_n, x_let_m, xb_some, eq_self, ite_true, ite_false, not_false_eq_true, not_true_eq_false, nneg1, nl0, nl1, nl2, nl3, nl4, nl5, nl6, nl7, nl8, nl9, nl10, nl11, nl12, nl15, nl16, nl60, nl96, nl192, nl552, nl553, nl554, nl555, nl556, nl557, nl558, nl559, nl560, nl561, nl562, nl563, nl570])
  (try simp (disch := omega) only [nn_add, nn_mul, nn_clamp, nn_in1, nn_inj, nn_lt, nn_le, nn_neg, nu_eq1, nu_ne1, nn_nb0, nn_true, nn_false, if_true, if_false, x_let_n, x_let_m, xb_some, eq_self, ite_true, ite_false, not_false_eq_true, not_true_eq_false, nneg1, nl0, nl1, nl2, nl3, nl4, nl5, nl6, nl7, nl8, nl9, nl10, nl11, nl12, nl15, nl16, nl60, nl96, nl192, nl552, nl553, nl554, nl555, nl556, nl557, nl558, nl559, nl560, nl561, nl562, nl563, nl570, R2, e])
  refine Ok_up R2 (fun v3 R3 => ?_)
  have e5 : n_settle w r 2 u 555 = w 555 := by unfold n_settle; (try simp (disch := omega) only [nn_add, nn_mul, nn_clamp, nn_in1, nn_inj, nn_lt, nn_le, nn_neg, nu_eq1, nu_ne1, nn_nb0, nn_true, nn_false, if_true, if_false, x_let_n, x_let_m, xb_some, eq_self, ite_true, ite_false, not_false_eq_true, not_true_eq_false, nneg1, nl0, nl1, nl2, nl3, nl4, nl5, nl6, nl7, nl8, nl9, nl10, nl11, nl12, nl15, nl16, nl60, nl96, nl192, nl552, nl553, nl554, nl555, nl556, nl557, nl558, nl559, nl560, nl561, nl562, nl563, nl570])
  have e52 : n_settle w r 2 u 552 = w 552 := by unfold n_settle; (try simp (disch := omega) only [nn_add, nn_mul, nn_clamp, nn_in1, nn_inj, nn_lt, nn_le, nn_neg, nu_eq1, nu_ne1, nn_nb0, nn_true, nn_false, if_true, if_false, x_let_n, x_let_m, xb_some, eq_self, ite_true, ite_false, not_false_eq_true, not_true_eq_false, nneg1, nl0, nl1, nl2, nl3, nl4, nl5, nl6, nl7, nl8, nl9, nl10, nl11, nl12, nl15, nl16, nl60, nl96, nl192, nl552, nl553, nl554, nl555, nl556, nl557, nl558, nl559, nl560, nl561, nl562, nl563, nl570])
  have e53 : n_settle w r 2 u 553 = w 553 := by unfold n_settle; (try simp (disch := omega) only [nn_add, nn_mul, nn_clamp, nn_in1, nn_inj, nn_lt, nn_le, nn_neg, nu_eq1, nu_ne1, nn_nb0, nn_true, nn_false, if_true, if_false, x_let_n, x_let_m, xb_some, eq_self, ite_true, ite_false, not_false_eq_true, not_true_eq_false, nneg1, nl0, nl1, nl2, nl3, nl4, nl5, nl6, nl7, nl8, nl9, nl10, nl11, nl12, nl15, nl16, nl60, nl96, nl192, nl552, nl553, nl554, nl555, nl556, nl557, nl558, nl559, nl560, nl561, nl562, nl563, nl570])
  (try simp (disch := omega) only [nn_add, nn_mul, nn_clamp, nn_in1, nn_inj, nn_lt, nn_le, nn_neg, nu_eq1, nu_ne1, nn_nb0, nn_true, nn_false, if_true, if_false, x_let_n, x_let_m, xb_some, eq_self, ite_true, ite_false, not_false_eq_true, not_true_eq_false, nneg1, nl0, nl1, nl2, nl3, nl4, nl5, nl6, nl7, nl8, nl9, nl10, nl11, nl12, nl15, nl16, nl60, nl96, nl192, nl552, nl553, nl554, nl555, nl556, nl557, nl558, nl559, nl560, nl561, nl562, nl563, nl570, R3, e5])
  refine Ok_bind (v_post R3 (by omega) (by (try simp (disch := omega) only [nn_add, nn_mul, nn_clamp, nn_in1, nn_inj, nn_lt, nn_le, nn_neg, nu_eq1, nu_ne1, nn_nb0, nn_true, nn_false, if_true, if_false, x_let_n, x_let_m, xb_some, eq_self, ite_true, ite_false, not_false_eq_true, not_true_eq_false, nneg1, nl0, nl1, nl2, nl3, nl4, nl5, nl6, nl7, nl8, nl9, nl10, nl11, nl12, nl15, nl16, nl60, nl96, nl192, nl552, nl553, nl554, nl555, nl556, nl557, nl558, nl559, nl560, nl561, nl562, nl563, nl570, e52]); exact hm)) (fun q hq => ?_)
  obtain ⟨h1, R4⟩ := hq
  rw [h1]
  (try simp (disch := omega) only [nn_add, nn_mul, nn_clamp, nn_in1, nn_inj, nn_lt, nn_le, nn_neg, nu_eq1, nu_ne1, nn_nb0, nn_true, nn_false, if_true, if_false, x_let_n, x_let_m, xb_some, eq_self, ite_true, ite_false, not_false_eq_true, not_true_eq_false, nneg1, nl0, nl1, nl2, nl3, nl4, nl5, nl6, nl7, nl8, nl9, nl10, nl11, nl12, nl15, nl16, nl60, nl96, nl192, nl552, nl553, nl554, nl555, nl556, nl557, nl558, nl559, nl560, nl561, nl562, nl563, nl570, R4, e53])
  refine Ok_up R4 (fun v5 R5 => ?_)
  exact Ok_some R5
set_option maxRecDepth 16384 in
theorem v_innWants {v : x_V} {w : Nat → Nat} {B : Nat} (R : Rv v w) (Z : Wz w) (hB : Wb B w) {g r m : Nat} (hg : g < 12) (hr : r < 16) : Ok (fX7_innWants v (nn g) (nn r) (nn m)) (fun v' => Rv v' (n_innWants w g r m)) := by
  unfold fX7_innWants n_innWants
  obtain ⟨r1, -, r2, -, r3, r4⟩ := Z.2.1.1 r hr
  have hm := Z.2.2.1.2
  have b0 := hB.1
  have b1 := hB.2 554
  have b2 := hB.2 555
  have b3 := hB.2 (96 + 6 * r + 1)
  have B2 := v_belongs R (r := r) (s := 2) (g := g) hr (by omega) (by omega) (by omega) (by omega)
  have B1 := v_belongs R (r := r) (s := 1) (g := g) hr (by omega) (by omega) (by omega) (by omega)
  have J : ∀ u y : Nat, u = (if n_has w r 2 g ∧ w 554 + w 555 < w (96 + 6 * r + 1) then w (96 + 6 * r + 1) else w 554 + w 555) → Ok (fX7_innWants_j89 v (nn g) (nn r) (nn m) (nn u) (2 : Int32) (nn r)) (fun v' => Rv v' (nu (n_post (nu (nu (n_settle w r 2 (if n_has w r 2 g ∧ w 554 + w 555 < w (96 + 6 * r + 1) then w (96 + 6 * r + 1) else w 554 + w 555)) (8 * g + 7) (r + 1)) 560 (w 560 + 1)) 3 g r m (w 555)) (96 + 6 * r + 3) (w 553 + 1))) := fun u y hu => by rw [← hu]; exact v_innWants_j89 R Z hg hr
  by_cases c1 : n_has w r 2 g
  · rw [if_neg (fun h => h.1 c1)]
    rw [if_pos c1] at B2
    rw [show (2 : Int32) = nn 2 from rfl, B2, xb_some, if_neg (by decide)]
    unfold fX7_innWants_j36 fX7_innWants_j87
    have e1 : v (Int32.toNatClampNeg 554) + v (Int32.toNatClampNeg 555) = nn (w 554 + w 555) := by (try simp (disch := omega) only [nn_add, nn_mul, nn_clamp, nn_in1, nn_inj, nn_lt, nn_le, nn_neg, nu_eq1, nu_ne1, nn_nb0, nn_true, nn_false, if_true, if_false, x_let_n, x_let_m, xb_some, eq_self, ite_true, ite_false, not_false_eq_true, not_true_eq_false, nneg1, nl0, nl1, nl2, nl3, nl4, nl5, nl6, nl7, nl8, nl9, nl10, nl11, nl12, nl15, nl16, nl60, nl96, nl192, nl552, nl553, nl554, nl555, nl556, nl557, nl558, nl559, nl560, nl561, nl562, nl563, nl570, R])
    have e2 : v (96 + 6 * nn r + 1).toNatClampNeg = nn (w (96 + 6 * r + 1)) := by (try simp (disch := omega) only [nn_add, nn_mul, nn_clamp, nn_in1, nn_inj, nn_lt, nn_le, nn_neg, nu_eq1, nu_ne1, nn_nb0, nn_true, nn_false, if_true, if_false, x_let_n, x_let_m, xb_some, eq_self, ite_true, ite_false, not_false_eq_true, not_true_eq_false, nneg1, nl0, nl1, nl2, nl3, nl4, nl5, nl6, nl7, nl8, nl9, nl10, nl11, nl12, nl15, nl16, nl60, nl96, nl192, nl552, nl553, nl554, nl555, nl556, nl557, nl558, nl559, nl560, nl561, nl562, nl563, nl570, R])
    rw [e1, x_let_n, if_neg (by decide), if_pos (by (try simp (disch := omega) only [nn_add, nn_mul, nn_clamp, nn_in1, nn_inj, nn_lt, nn_le, nn_neg, nu_eq1, nu_ne1, nn_nb0, nn_true, nn_false, if_true, if_false, x_let_n, x_let_m, xb_some, eq_self, ite_true, ite_false, not_false_eq_true, not_true_eq_false, nneg1, nl0, nl1, nl2, nl3, nl4, nl5, nl6, nl7, nl8, nl9, nl10, nl11, nl12, nl15, nl16, nl60, nl96, nl192, nl552, nl553, nl554, nl555, nl556, nl557, nl558, nl559, nl560, nl561, nl562, nl563, nl570])), e2]
    by_cases c2 : w (96 + 6 * r + 1) ≤ w 554 + w 555
    · rw [if_pos ((nn_le (by omega) (by omega)).mpr c2)]
      exact J _ 0 (by rw [if_neg (fun h => by omega)])
    · rw [if_neg (fun h => c2 ((nn_le (by omega) (by omega)).mp h))]
      exact J _ 0 (by rw [if_pos ⟨c1, by omega⟩])
  · rw [if_neg c1] at B2
    rw [show (2 : Int32) = nn 2 from rfl, B2, xb_some, if_pos (show nn 0 = (0 : Int32) from rfl)]
    by_cases c2 : n_has w r 1 g
    · rw [if_neg (fun h => h.2 c2)]
      rw [if_pos c2] at B1
      rw [show (1 : Int32) = nn 1 from rfl, B1, xb_some, if_neg (by decide)]
      unfold fX7_innWants_j36 fX7_innWants_j87
      have e1 : v (Int32.toNatClampNeg 554) + v (Int32.toNatClampNeg 555) = nn (w 554 + w 555) := by (try simp (disch := omega) only [nn_add, nn_mul, nn_clamp, nn_in1, nn_inj, nn_lt, nn_le, nn_neg, nu_eq1, nu_ne1, nn_nb0, nn_true, nn_false, if_true, if_false, x_let_n, x_let_m, xb_some, eq_self, ite_true, ite_false, not_false_eq_true, not_true_eq_false, nneg1, nl0, nl1, nl2, nl3, nl4, nl5, nl6, nl7, nl8, nl9, nl10, nl11, nl12, nl15, nl16, nl60, nl96, nl192, nl552, nl553, nl554, nl555, nl556, nl557, nl558, nl559, nl560, nl561, nl562, nl563, nl570, R])
      rw [e1, x_let_n, if_pos (show nn 0 = (0 : Int32) from rfl)]
      exact J _ 0 (by rw [if_neg (fun h => c1 h.1)])
    · rw [if_pos ⟨c1, c2⟩]
      rw [if_neg c2] at B1
      rw [show (1 : Int32) = nn 1 from rfl, B1, xb_some, if_pos (show nn 0 = (0 : Int32) from rfl)]
      refine Ok_bind (v_post (k := 4) (t := 0) R (by omega) hm) (fun q hq => ?_)
      exact Ok_some hq.2
def n_innEnds (w : Nat → Nat) (k g r m : Nat) : Nat → Nat := if ¬ n_has w r 2 g ∨ m ≤ w (96 + 6 * r + 3) then w else nu (n_settle w r (if k = 5 then 3 else 0) (w 554 + w 557)) 562 (w 562 + if k = 5 then 1 else 0)
set_option maxRecDepth 16384 in
theorem v_innEnds {v : x_V} {w : Nat → Nat} {B : Nat} (R : Rv v w) (Z : Wz w) (hB : Wb B w) {k g r m : Nat} (hk : k < 9) (hg : g < 12) (hr : r < 16) (hm : m < 2147483648) : Ok (fX7_innEnds v (nn k) (nn g) (nn r) (nn m)) (fun v' => Rv v' (n_innEnds w k g r m)) := by
  unfold fX7_innEnds
  obtain ⟨r1, -, r2, -, r3, r4⟩ := Z.2.1.1 r hr
  have b0 := hB.1
  have b3 := hB.2 (96 + 6 * r + 3)
  have e : ∀ s u, n_settle w r s u 562 = w 562 := fun s u => by unfold n_settle; (try simp (disch := omega) only [nn_add, nn_mul, nn_clamp, nn_in1, nn_inj, nn_lt, nn_le, nn_neg, nu_eq1, nu_ne1, nn_nb0, nn_true, nn_false, if_true, if_false, x_let_n, x_let_m, xb_some, eq_self, ite_true, ite_false, not_false_eq_true, not_true_eq_false, nneg1, nl0, nl1, nl2, nl3, nl4, nl5, nl6, nl7, nl8, nl9, nl10, nl11, nl12, nl15, nl16, nl60, nl96, nl192, nl552, nl553, nl554, nl555, nl556, nl557, nl558, nl559, nl560, nl561, nl562, nl563, nl570])
  have B2 := v_belongs R (r := r) (s := 2) (g := g) hr (by omega) (by omega) (by omega) (by omega)
  have J : ∀ s : Nat, s = (if k = 5 then 3 else 0) → Ok (fX7_innEnds_j39 v (nn k) (nn s) (nn r)) (fun v' => Rv v' (nu (n_settle w r (if k = 5 then 3 else 0) (w 554 + w 557)) 562 (w 562 + if k = 5 then 1 else 0))) := by
    intro s hs
    rw [← hs]
    unfold fX7_innEnds_j39
    (try simp (disch := omega) only [nn_add, nn_mul, nn_clamp, nn_in1, nn_inj, nn_lt, nn_le, nn_neg, nu_eq1, nu_ne1, nn_nb0, nn_true, nn_false, if_true, if_false, x_let_n, x_let_m, xb_some, eq_self, ite_true, ite_false, not_false_eq_true, not_true_eq_false, nneg1, nl0, nl1, nl2, nl3, nl4, nl5, nl6, nl7, nl8, nl9, nl10, nl11, nl12, nl15, nl16, nl60, nl96, nl192, nl552, nl553, nl554, nl555, nl556, nl557, nl558, nl559, nl560, nl561, nl562, nl563, nl570, R])
    refine Ok_bind (v_settle R hr) (fun v1 R1 => ?_)
    (try simp (disch := omega) only [nn_add, nn_mul, nn_clamp, nn_in1, nn_inj, nn_lt, nn_le, nn_neg, nu_eq1, nu_ne1, nn_nb0, nn_true, nn_false, if_true, if_false, x_let_n, x_let_m, xb_some, eq_self, ite_true, ite_false, not_false_eq_true, not_true_eq_false, nneg1, nl0, nl1, nl2, nl3, nl4, nl5, nl6, nl7, nl8, nl9, nl10, nl11, nl12, nl15, nl16, nl60, nl96, nl192, nl552, nl553, nl554, nl555, nl556, nl557, nl558, nl559, nl560, nl561, nl562, nl563, nl570, R1, e])
    by_cases c3 : k = 5
    · rw [if_pos c3, if_pos c3]
      refine Ok_up R1 (fun v2 R2 => ?_)
      exact Ok_some R2
    · rw [if_neg c3, if_neg c3]
      refine Ok_up R1 (fun v2 R2 => ?_)
      exact Ok_some R2
  by_cases c1 : n_has w r 2 g
  · rw [if_pos c1] at B2
    rw [show (2 : Int32) = nn 2 from rfl, B2, xb_some, if_neg (by decide), if_pos (by (try simp (disch := omega) only [nn_add, nn_mul, nn_clamp, nn_in1, nn_inj, nn_lt, nn_le, nn_neg, nu_eq1, nu_ne1, nn_nb0, nn_true, nn_false, if_true, if_false, x_let_n, x_let_m, xb_some, eq_self, ite_true, ite_false, not_false_eq_true, not_true_eq_false, nneg1, nl0, nl1, nl2, nl3, nl4, nl5, nl6, nl7, nl8, nl9, nl10, nl11, nl12, nl15, nl16, nl60, nl96, nl192, nl552, nl553, nl554, nl555, nl556, nl557, nl558, nl559, nl560, nl561, nl562, nl563, nl570]))]
    have e2 : v (96 + 6 * nn r + 3).toNatClampNeg = nn (w (96 + 6 * r + 3)) := by (try simp (disch := omega) only [nn_add, nn_mul, nn_clamp, nn_in1, nn_inj, nn_lt, nn_le, nn_neg, nu_eq1, nu_ne1, nn_nb0, nn_true, nn_false, if_true, if_false, x_let_n, x_let_m, xb_some, eq_self, ite_true, ite_false, not_false_eq_true, not_true_eq_false, nneg1, nl0, nl1, nl2, nl3, nl4, nl5, nl6, nl7, nl8, nl9, nl10, nl11, nl12, nl15, nl16, nl60, nl96, nl192, nl552, nl553, nl554, nl555, nl556, nl557, nl558, nl559, nl560, nl561, nl562, nl563, nl570, R])
    rw [e2]
    by_cases c2 : w (96 + 6 * r + 3) < m
    · have hR : n_innEnds w k g r m = nu (n_settle w r (if k = 5 then 3 else 0) (w 554 + w 557)) 562 (w 562 + if k = 5 then 1 else 0) := if_neg (fun h => h.elim (fun h => h c1) (fun h => by omega))
      rw [hR, if_pos ((nn_lt (by omega) (by omega)).mpr c2)]
      by_cases c3 : k = 5
      · rw [if_pos (show nn k = (5 : Int32) by rw [c3]; rfl)]
        exact J 3 (by rw [if_pos c3])
      · rw [if_neg (show ¬ nn k = (5 : Int32) from fun h => c3 ((nn_inj (b := 5) (by omega) (by omega)).mp h))]
        exact J 0 (by rw [if_neg c3])
    · have hR : n_innEnds w k g r m = w := if_pos (Or.inr (by omega))
      rw [hR, if_neg (fun h => c2 ((nn_lt (by omega) (by omega)).mp h))]
      exact Ok_some R
  · rw [if_neg c1] at B2
    have hR : n_innEnds w k g r m = w := if_pos (Or.inl c1)
    rw [hR, show (2 : Int32) = nn 2 from rfl, B2, xb_some, if_pos (show nn 0 = (0 : Int32) from rfl)]
    exact Ok_some R
def n_guestYes (w : Nat → Nat) (g r t : Nat) : Nat → Nat :=
  if w (8 * g + 5) + t ≤ w 554 then nu w (8 * g) 0
  else if w (8 * g) = 2 ∧ w (96 + 6 * r + 5) = 1 then nu (n_post w 5 g r 0 0) (8 * g) 0
  else nu (nu (nu (nu w (8 * g + 6) (w (8 * g + 6) + if w (8 * g) = 2 then 1 else 0)) (8 * g) 3) (8 * g + 2) (w (8 * g + 5))) (8 * g + 3) t
set_option maxRecDepth 16384 in
theorem v_guestYes_j101 {v : x_V} {w : Nat → Nat} (R : Rv v w) {g t b s : Nat} (hg : g < 12) : Ok (fX7_guestYes_j101 v (nn g) (nn t) (nn b) (nn s) (nn (w (8 * g + 6))) (nn (8 * g + 6))) (fun v' => Rv v' (nu (nu (nu (nu w (8 * g + 6) (w (8 * g + 6) + s)) (8 * g) 3) (8 * g + 2) b) (8 * g + 3) t)) := by
  unfold fX7_guestYes_j101
  (try simp (disch := omega) only [nn_add, nn_mul, nn_clamp, nn_in1, nn_inj, nn_lt, nn_le, nn_neg, nu_eq1, nu_ne1, nn_nb0, nn_true, nn_false, if_true, if_false, x_let_n, x_let_m, xb_some, eq_self, ite_true, ite_false, not_false_eq_true, not_true_eq_false, nneg1, nl0, nl1, nl2, nl3, nl4, nl5, nl6, nl7, nl8, nl9, nl10, nl11, nl12, nl15, nl16, nl60, nl96, nl192, nl552, nl553, nl554, nl555, nl556, nl557, nl558, nl559, nl560, nl561, nl562, nl563, nl570, R])
  refine Ok_up R (fun v1 R1 => ?_)
  (try simp (disch := omega) only [nn_add, nn_mul, nn_clamp, nn_in1, nn_inj, nn_lt, nn_le, nn_neg, nu_eq1, nu_ne1, nn_nb0, nn_true, nn_false, if_true, if_false, x_let_n, x_let_m, xb_some, eq_self, ite_true, ite_false, not_false_eq_true, not_true_eq_false, nneg1, nl0, nl1, nl2, nl3, nl4, nl5, nl6, nl7, nl8, nl9, nl10, nl11, nl12, nl15, nl16, nl60, nl96, nl192, nl552, nl553, nl554, nl555, nl556, nl557, nl558, nl559, nl560, nl561, nl562, nl563, nl570, R1])
  refine Ok_up R1 (fun v2 R2 => ?_)
  (try simp (disch := omega) only [nn_add, nn_mul, nn_clamp, nn_in1, nn_inj, nn_lt, nn_le, nn_neg, nu_eq1, nu_ne1, nn_nb0, nn_true, nn_false, if_true, if_false, x_let_n, x_let_m, xb_some, eq_self, ite_true, ite_false, not_false_eq_true, not_true_eq_false, nneg1, nl0, nl1, nl2, nl3, nl4, nl5, nl6, nl7, nl8, nl9, nl10, nl11, nl12, nl15, nl16, nl60, nl96, nl192, nl552, nl553, nl554, nl555, nl556, nl557, nl558, nl559, nl560, nl561, nl562, nl563, nl570, R2])
  refine Ok_up R2 (fun v3 R3 => ?_)
  (try simp (disch := omega) only [nn_add, nn_mul, nn_clamp, nn_in1, nn_inj, nn_lt, nn_le, nn_neg, nu_eq1, nu_ne1, nn_nb0, nn_true, nn_false, if_true, if_false, x_let_n, x_let_m, xb_some, eq_self, ite_true, ite_false, not_false_eq_true, not_true_eq_false, nneg1, nl0, nl1, nl2, nl3, nl4, nl5, nl6, nl7, nl8, nl9, nl10, nl11, nl12, nl15, nl16, nl60, nl96, nl192, nl552, nl553, nl554, nl555, nl556, nl557, nl558, nl559, nl560, nl561, nl562, nl563, nl570, R3])
  refine Ok_up R3 (fun v4 R4 => ?_)
  exact Ok_some R4
set_option maxRecDepth 16384 in
theorem v_guestYes {v : x_V} {w : Nat → Nat} {B : Nat} (R : Rv v w) (Z : Wz w) (hB : Wb B w) {g r t : Nat} (hg : g < 12) (hr : r < 16) (ht : t ≤ 200) : Ok (fX7_guestYes v (nn g) (nn r) (nn t)) (fun v' => Rv v' (n_guestYes w g r t)) := by
  unfold fX7_guestYes n_guestYes
  obtain ⟨g1, g2, -, g3, -, -, g4⟩ := Z.1 g hg
  obtain ⟨r1, -, r2, -, r3, r4⟩ := Z.2.1.1 r hr
  have hm := Z.2.2.1.2
  have b0 := hB.1
  have b1 := hB.2 554
  have b3 := hB.2 (8 * g + 5)
  have J : ∀ s : Nat, s = (if w (8 * g) = 2 then 1 else 0) → Ok (fX7_guestYes_j101 v (nn g) (nn t) (nn (w (8 * g + 5))) (nn s) (nn (w (8 * g + 6))) (nn (8 * g + 6))) (fun v' => Rv v' (nu (nu (nu (nu w (8 * g + 6) (w (8 * g + 6) + if w (8 * g) = 2 then 1 else 0)) (8 * g) 3) (8 * g + 2) (w (8 * g + 5))) (8 * g + 3) t)) := fun s hs => by rw [← hs]; exact v_guestYes_j101 R hg
  unfold fX7_guestYes_j77
  (try simp (disch := omega) only [nn_add, nn_mul, nn_clamp, nn_in1, nn_inj, nn_lt, nn_le, nn_neg, nu_eq1, nu_ne1, nn_nb0, nn_true, nn_false, if_true, if_false, x_let_n, x_let_m, xb_some, eq_self, ite_true, ite_false, not_false_eq_true, not_true_eq_false, nneg1, nl0, nl1, nl2, nl3, nl4, nl5, nl6, nl7, nl8, nl9, nl10, nl11, nl12, nl15, nl16, nl60, nl96, nl192, nl552, nl553, nl554, nl555, nl556, nl557, nl558, nl559, nl560, nl561, nl562, nl563, nl570, R, v_doing R])
  by_cases c1 : w (8 * g + 5) + t ≤ w 554
  · rw [if_neg (by omega), if_pos c1]
    refine Ok_up R (fun v1 R1 => ?_)
    exact Ok_some R1
  · rw [if_pos (by omega), if_neg c1]
    by_cases c2 : w (8 * g) = 2
    · rw [if_pos c2]
      by_cases c3 : w (96 + 6 * r + 5) = 1
      · rw [if_pos c3, if_pos ⟨c2, c3⟩]
        refine Ok_bind (v_post R (by omega) hm) (fun q hq => ?_)
        (try simp (disch := omega) only [nn_add, nn_mul, nn_clamp, nn_in1, nn_inj, nn_lt, nn_le, nn_neg, nu_eq1, nu_ne1, nn_nb0, nn_true, nn_false, if_true, if_false, x_let_n, x_let_m, xb_some, eq_self, ite_true, ite_false, not_false_eq_true, not_true_eq_false, nneg1, nl0, nl1, nl2, nl3, nl4, nl5, nl6, nl7, nl8, nl9, nl10, nl11, nl12, nl15, nl16, nl60, nl96, nl192, nl552, nl553, nl554, nl555, nl556, nl557, nl558, nl559, nl560, nl561, nl562, nl563, nl570])
        refine Ok_up hq.2 (fun v1 R1 => ?_)
        exact Ok_some R1
      · rw [if_neg c3, if_neg (fun h => c3 h.2)]
        have J1 := J 1 (by rw [if_pos c2])
        (try simp (disch := omega) only [nn_add, nn_mul, nn_clamp, nn_in1, nn_inj, nn_lt, nn_le, nn_neg, nu_eq1, nu_ne1, nn_nb0, nn_true, nn_false, if_true, if_false, x_let_n, x_let_m, xb_some, eq_self, ite_true, ite_false, not_false_eq_true, not_true_eq_false, nneg1, nl0, nl1, nl2, nl3, nl4, nl5, nl6, nl7, nl8, nl9, nl10, nl11, nl12, nl15, nl16, nl60, nl96, nl192, nl552, nl553, nl554, nl555, nl556, nl557, nl558, nl559, nl560, nl561, nl562, nl563, nl570])
        rw [if_pos c2] at J1
        (try rw [if_pos c2])
        exact J1
    · rw [if_neg c2, if_neg (fun h => c2 h.1)]
      have J1 := J 0 (by rw [if_neg c2])
      rw [if_neg c2] at J1
      (try rw [if_neg c2])
      exact J1
