/- six numbers further down, d of them from k on -/
def n_tk : Nat → (Nat → Nat) → Nat → (Nat → Nat)
  | 0, w, _ => w
  | d + 1, w, k => n_tk d (nu w k (w (k + 6))) (k + 1)
set_option maxRecDepth 16384 in
theorem n_tk_at : ∀ (d : Nat) (w : Nat → Nat) (k i : Nat), n_tk d w k i = if k ≤ i ∧ i < k + d then w (i + 6) else w i := by
  intro d
  induction d with
  | zero => intro w k i; rw [n_tk, if_neg (by omega)]
  | succ d ih =>
    intro w k i
    rw [n_tk, ih]
    unfold nu
    by_cases h : k + 1 ≤ i ∧ i < k + 1 + d
    · rw [if_pos h, if_neg (by omega), if_pos (by omega)]
    · rw [if_neg h]
      by_cases h2 : i = k
      · rw [if_pos h2, if_pos (by omega), h2]
      · rw [if_neg h2, if_neg (by omega)]
def n_take (w : Nat → Nat) (p : Nat) : Nat → Nat := n_tk (6 * (w 552 - 1 - p)) (nu w 552 (w 552 - 1)) (192 + 6 * p)
set_option maxRecDepth 16384 in
theorem n_take_at (w : Nat → Nat) (p i : Nat) (h : w 552 ≤ 60) : n_take w p i = if i = 552 then w 552 - 1 else if 192 + 6 * p ≤ i ∧ i < 192 + 6 * p + 6 * (w 552 - 1 - p) then w (i + 6) else w i := by
  unfold n_take
  rw [n_tk_at]
  unfold nu
  by_cases h1 : i = 552
  · rw [if_pos h1, if_neg (by omega), if_pos h1]
  · simp only [h1, if_false]
    by_cases h2 : 192 + 6 * p ≤ i ∧ i < 192 + 6 * p + 6 * (w 552 - 1 - p)
    · rw [if_pos h2, if_neg (by omega), if_pos h2]
    · rw [if_neg h2, if_neg h2]
set_option maxRecDepth 16384 in
theorem v_tk {m y : Nat} (hm : m < 60) : ∀ (d n : Nat) (v : x_V) (w : Nat → Nat) (k : Nat), Rv v w → w 552 = m → k + d = 192 + 6 * m → 192 ≤ k → d < n → Ok (fX7_take_b29 n v (nn y) (nn k)) (fun q => q.1 = nn y ∧ Rv q.2 (n_tk d w k)) := by
  intro d
  induction d with
  | zero =>
    intro n v w k R e hk h1 hn
    obtain ⟨n, rfl⟩ : ∃ m, n = m + 1 := ⟨n - 1, by omega⟩
    rw [fX7_take_b29, n_tk]
    have e1 : (192 : Int32) + 6 * v (Int32.toNatClampNeg 552) = nn (192 + 6 * m) := by (try simp (disch := omega) only [nn_add, nn_mul, nn_clamp, nn_in1, nn_inj, nn_lt, nn_le, nn_neg, nu_eq1, nu_ne1, nn_nb0, nn_true, nn_false, if_true, if_false, x_let_n, x_let_m, xb_some, eq_self, ite_true, ite_false, not_false_eq_true, not_true_eq_false, nneg1, nl0, nl1, nl2, nl3, nl4, nl5, nl6, nl7, nl8, nl9, nl10, nl11, nl12, nl15, nl16, nl60, nl96, nl192, nl552, nl553, nl554, nl555, nl556, nl557, nl558, nl559, nl560, nl561, nl562, nl563, nl570, R, e])
    rw [e1, if_pos ((nn_le (by omega) (by omega)).mpr (by omega))]
    exact Ok_some ⟨rfl, R⟩
  | succ d ih =>
    intro n v w k R e hk h1 hn
    obtain ⟨n, rfl⟩ : ∃ m, n = m + 1 := ⟨n - 1, by omega⟩
    rw [fX7_take_b29, n_tk]
    have e1 : (192 : Int32) + 6 * v (Int32.toNatClampNeg 552) = nn (192 + 6 * m) := by (try simp (disch := omega) only [nn_add, nn_mul, nn_clamp, nn_in1, nn_inj, nn_lt, nn_le, nn_neg, nu_eq1, nu_ne1, nn_nb0, nn_true, nn_false, if_true, if_false, x_let_n, x_let_m, xb_some, eq_self, ite_true, ite_false, not_false_eq_true, not_true_eq_false, nneg1, nl0, nl1, nl2, nl3, nl4, nl5, nl6, nl7, nl8, nl9, nl10, nl11, nl12, nl15, nl16, nl60, nl96, nl192, nl552, nl553, nl554, nl555, nl556, nl557, nl558, nl559, nl560, nl561, nl562, nl563, nl570, R, e])
    rw [e1, if_neg (fun h => by have := (nn_le (by omega) (by omega)).mp h; omega)]
    (try simp (disch := omega) only [nn_add, nn_mul, nn_clamp, nn_in1, nn_inj, nn_lt, nn_le, nn_neg, nu_eq1, nu_ne1, nn_nb0, nn_true, nn_false, if_true, if_false, x_let_n, x_let_m, xb_some, eq_self, ite_true, ite_false, not_false_eq_true, not_true_eq_false, nneg1, nl0, nl1, nl2, nl3, nl4, nl5, nl6, nl7, nl8, nl9, nl10, nl11, nl12, nl15, nl16, nl60, nl96, nl192, nl552, nl553, nl554, nl555, nl556, nl557, nl558, nl559, nl560, nl561, nl562, nl563, nl570, R])
    refine Ok_up R (fun v1 R1 => ?_)
    (try simp (disch := omega) only [nn_add, nn_mul, nn_clamp, nn_in1, nn_inj, nn_lt, nn_le, nn_neg, nu_eq1, nu_ne1, nn_nb0, nn_true, nn_false, if_true, if_false, x_let_n, x_let_m, xb_some, eq_self, ite_true, ite_false, not_false_eq_true, not_true_eq_false, nneg1, nl0, nl1, nl2, nl3, nl4, nl5, nl6, nl7, nl8, nl9, nl10, nl11, nl12, nl15, nl16, nl60, nl96, nl192, nl552, nl553, nl554, nl555, nl556, nl557, nl558, nl559, nl560, nl561, nl562, nl563, nl570, R1])
    exact ih n v1 _ (k + 1) R1 (by (try simp (disch := omega) only [nn_add, nn_mul, nn_clamp, nn_in1, nn_inj, nn_lt, nn_le, nn_neg, nu_eq1, nu_ne1, nn_nb0, nn_true, nn_false, if_true, if_false, x_let_n, x_let_m, xb_some, eq_self, ite_true, ite_false, not_false_eq_true, not_true_eq_false, nneg1, nl0, nl1, nl2, nl3, nl4, nl5, nl6, nl7, nl8, nl9, nl10, nl11, nl12, nl15, nl16, nl60, nl96, nl192, nl552, nl553, nl554, nl555, nl556, nl557, nl558, nl559, nl560, nl561, nl562, nl563, nl570])) (by omega) (by omega) (by omega)
set_option maxRecDepth 16384 in
theorem v_take {v : x_V} {w : Nat → Nat} (R : Rv v w) {p : Nat} (hp : p < w 552) (hm : w 552 ≤ 60) : Ok (fX7_take v (nn p)) (fun q => q.1 = nn (w (192 + 6 * p)) ∧ Rv q.2 (n_take w p)) := by
  unfold fX7_take n_take
  (try simp (disch := omega) only [nn_add, nn_mul, nn_clamp, nn_in1, nn_inj, nn_lt, nn_le, nn_neg, nu_eq1, nu_ne1, nn_nb0, nn_true, nn_false, if_true, if_false, x_let_n, x_let_m, xb_some, eq_self, ite_true, ite_false, not_false_eq_true, not_true_eq_false, nneg1, nl0, nl1, nl2, nl3, nl4, nl5, nl6, nl7, nl8, nl9, nl10, nl11, nl12, nl15, nl16, nl60, nl96, nl192, nl552, nl553, nl554, nl555, nl556, nl557, nl558, nl559, nl560, nl561, nl562, nl563, nl570, R])
  have e : nn (w 552) - nn 1 = nn (w 552 - 1) := nn_sub (by omega)
  rw [e]
  refine Ok_up R (fun v1 R1 => ?_)
  (try simp (disch := omega) only [nn_add, nn_mul, nn_clamp, nn_in1, nn_inj, nn_lt, nn_le, nn_neg, nu_eq1, nu_ne1, nn_nb0, nn_true, nn_false, if_true, if_false, x_let_n, x_let_m, xb_some, eq_self, ite_true, ite_false, not_false_eq_true, not_true_eq_false, nneg1, nl0, nl1, nl2, nl3, nl4, nl5, nl6, nl7, nl8, nl9, nl10, nl11, nl12, nl15, nl16, nl60, nl96, nl192, nl552, nl553, nl554, nl555, nl556, nl557, nl558, nl559, nl560, nl561, nl562, nl563, nl570, R1])
  have h := v_tk (m := w 552 - 1) (y := w (192 + 6 * p)) (by omega) (6 * (w 552 - 1 - p)) 400 v1 (nu w 552 (w 552 - 1)) (192 + 6 * p) R1 (by (try simp (disch := omega) only [nn_add, nn_mul, nn_clamp, nn_in1, nn_inj, nn_lt, nn_le, nn_neg, nu_eq1, nu_ne1, nn_nb0, nn_true, nn_false, if_true, if_false, x_let_n, x_let_m, xb_some, eq_self, ite_true, ite_false, not_false_eq_true, not_true_eq_false, nneg1, nl0, nl1, nl2, nl3, nl4, nl5, nl6, nl7, nl8, nl9, nl10, nl11, nl12, nl15, nl16, nl60, nl96, nl192, nl552, nl553, nl554, nl555, nl556, nl557, nl558, nl559, nl560, nl561, nl562, nl563, nl570])) (by omega) (by omega) (by omega)
  exact h
/- a guest heeds an answer -/
abbrev n_heeds (w : Nat → Nat) (g r a : Nat) : Prop := 1 < w (8 * g) ∧ w (8 * g + 1) = r ∧ w (8 * g + 4) = a
/- what a message does, once it is gone from the row -/
def n_act (w : Nat → Nat) (k g r m a t : Nat) : Nat → Nat :=
  if k = 0 then n_innSeeks w g
  else if k = 1 then (if w (8 * g) = 1 then n_want (nu (nu w (8 * g) 2) (8 * g + 1) r) g else w)
  else if k = 2 then n_innWants w g r m
  else if k = 3 then (if n_heeds w g r a then n_guestYes w g r t else w)
  else if k = 4 then (if n_heeds w g r a then nu w (8 * g) 0 else w)
  else n_innEnds w k g r m
def n_handle (w : Nat → Nat) (p : Nat) : Nat → Nat := n_act (nu (n_take w p) 559 (w 559 + 1)) (w (192 + 6 * p)) (w (192 + 6 * p + 1)) (w (192 + 6 * p + 2)) (w (192 + 6 * p + 3)) (w (192 + 6 * p + 4)) (w (192 + 6 * p + 5))
set_option maxRecDepth 16384 in
theorem v_act {v : x_V} {w : Nat → Nat} {B : Nat} (R : Rv v w) (Z : Wz w) (hB : Wb B w) {k g r m a t : Nat} {y9 : Int32} (hk : k ≤ 6) (hg : g < 12) (hr : r < 16) (ht : t ≤ 200) (hm : m < 2147483648) (he : y9 = nn (if n_heeds w g r a then 1 else 0)) :
    Ok (if nn k = 0 then (Option.bind (fX7_innSeeks v (nn g)) fun r30 => some (nn k, r30)) else (if nn k = (1 : Int32) then (Option.bind (fX7_doing v (nn g)) fun r33 => (if r33 = (1 : Int32) then (if x_in ((8 : Int32) * nn g) 570 then x_let (upd v (Int32.toNatClampNeg ((8 : Int32) * nn g)) (2 : Int32)) fun u36 => (if x_in (((8 : Int32) * nn g) + (1 : Int32)) 570 then x_let (upd u36 (Int32.toNatClampNeg (((8 : Int32) * nn g) + (1 : Int32))) (nn r)) fun u39 => (Option.bind (fX7_want u39 (nn g)) fun r42 => some (nn k, r42)) else none) else none) else fX7_handle_j154 v (nn g) (nn r) (nn m) (nn t) (nn k) y9)) else fX7_handle_j154 v (nn g) (nn r) (nn m) (nn t) (nn k) y9)) (fun q => q.1 = nn k ∧ Rv q.2 (n_act w k g r m a t)) := by
  have hm5 := Z.2.2.1.2
  obtain ⟨g1, -⟩ := Z.1 g hg
  rcases (show k = 0 ∨ k = 1 ∨ k = 2 ∨ k = 3 ∨ k = 4 ∨ k = 5 ∨ k = 6 by omega) with rfl | rfl | rfl | rfl | rfl | rfl | rfl
  · rw [if_pos (show nn 0 = (0 : Int32) from rfl)]
    exact Ok_bind (v_innSeeks R Z hg) (fun v1 R1 => Ok_some ⟨rfl, R1⟩)
  · rw [if_neg (by decide), if_pos (show nn 1 = (1 : Int32) from rfl), v_doing R hg, xb_some]
    by_cases c : w (8 * g) = 1
    · have hR : n_act w 1 g r m a t = n_want (nu (nu w (8 * g) 2) (8 * g + 1) r) g := by unfold n_act; rw [if_neg (by decide), if_pos rfl, if_pos c]
      rw [hR, if_pos (show nn (w (8 * g)) = (1 : Int32) by rw [c]; rfl)]
      (try simp (disch := omega) only [nn_add, nn_mul, nn_clamp, nn_in1, nn_inj, nn_lt, nn_le, nn_neg, nu_eq1, nu_ne1, nn_nb0, nn_true, nn_false, if_true, if_false, x_let_n, x_let_m, xb_some, eq_self, ite_true, ite_false, not_false_eq_true, not_true_eq_false, nneg1, nl0, nl1, nl2, nl3, nl4, nl5, nl6, nl7, nl8, nl9, nl10, nl11, nl12, nl15, nl16, nl60, nl96, nl192, nl552, nl553, nl554, nl555, nl556, nl557, nl558, nl559, nl560, nl561, nl562, nl563, nl570])
      refine Ok_up R (fun v1 R1 => ?_)
      (try simp (disch := omega) only [nn_add, nn_mul, nn_clamp, nn_in1, nn_inj, nn_lt, nn_le, nn_neg, nu_eq1, nu_ne1, nn_nb0, nn_true, nn_false, if_true, if_false, x_let_n, x_let_m, xb_some, eq_self, ite_true, ite_false, not_false_eq_true, not_true_eq_false, nneg1, nl0, nl1, nl2, nl3, nl4, nl5, nl6, nl7, nl8, nl9, nl10, nl11, nl12, nl15, nl16, nl60, nl96, nl192, nl552, nl553, nl554, nl555, nl556, nl557, nl558, nl559, nl560, nl561, nl562, nl563, nl570, R1])
      refine Ok_up R1 (fun v2 R2 => ?_)
      (try simp (disch := omega) only [nn_add, nn_mul, nn_clamp, nn_in1, nn_inj, nn_lt, nn_le, nn_neg, nu_eq1, nu_ne1, nn_nb0, nn_true, nn_false, if_true, if_false, x_let_n, x_let_m, xb_some, eq_self, ite_true, ite_false, not_false_eq_true, not_true_eq_false, nneg1, nl0, nl1, nl2, nl3, nl4, nl5, nl6, nl7, nl8, nl9, nl10, nl11, nl12, nl15, nl16, nl60, nl96, nl192, nl552, nl553, nl554, nl555, nl556, nl557, nl558, nl559, nl560, nl561, nl562, nl563, nl570, R2])
      exact Ok_bind (v_want R2 hg (by (try simp (disch := omega) only [nn_add, nn_mul, nn_clamp, nn_in1, nn_inj, nn_lt, nn_le, nn_neg, nu_eq1, nu_ne1, nn_nb0, nn_true, nn_false, if_true, if_false, x_let_n, x_let_m, xb_some, eq_self, ite_true, ite_false, not_false_eq_true, not_true_eq_false, nneg1, nl0, nl1, nl2, nl3, nl4, nl5, nl6, nl7, nl8, nl9, nl10, nl11, nl12, nl15, nl16, nl60, nl96, nl192, nl552, nl553, nl554, nl555, nl556, nl557, nl558, nl559, nl560, nl561, nl562, nl563, nl570]); exact hm5)) (fun v3 R3 => Ok_some ⟨rfl, R3⟩)
    · have hR : n_act w 1 g r m a t = w := by unfold n_act; rw [if_neg (by decide), if_pos rfl, if_neg c]
      rw [hR, if_neg (show ¬ nn (w (8 * g)) = (1 : Int32) from fun h => c ((nn_inj (b := 1) (by omega) (by omega)).mp h))]
      unfold fX7_handle_j154 fX7_handle_j195
      rw [if_neg (by decide), if_neg (by decide), if_neg (by decide), if_pos (by decide)]
      exact Ok_some ⟨rfl, R⟩
  · rw [if_neg (by decide), if_neg (by decide)]
    unfold fX7_handle_j154
    rw [if_pos (by decide)]
    exact Ok_bind (v_innWants R Z hB hg hr) (fun v1 R1 => Ok_some ⟨rfl, R1⟩)
  · rw [if_neg (by decide), if_neg (by decide)]
    unfold fX7_handle_j154
    rw [if_neg (by decide), if_pos (by decide)]
    by_cases c : n_heeds w g r a
    · have hR : n_act w 3 g r m a t = n_guestYes w g r t := if_pos c
      rw [if_pos c] at he
      rw [hR, if_neg (by rw [he]; decide)]
      exact Ok_bind (v_guestYes R Z hB hg hr ht) (fun v1 R1 => Ok_some ⟨rfl, R1⟩)
    · have hR : n_act w 3 g r m a t = w := if_neg c
      rw [if_neg c] at he
      rw [hR, if_pos (by rw [he]; rfl)]
      unfold fX7_handle_j195
      rw [if_neg (by decide), if_pos (by decide)]
      exact Ok_some ⟨rfl, R⟩
  · rw [if_neg (by decide), if_neg (by decide)]
    unfold fX7_handle_j154 fX7_handle_j195
    rw [if_neg (by decide), if_neg (by decide), if_pos (by decide)]
    by_cases c : n_heeds w g r a
    · have hR : n_act w 4 g r m a t = nu w (8 * g) 0 := if_pos c
      rw [if_pos c] at he
      rw [hR, if_neg (by rw [he]; decide)]
      (try simp (disch := omega) only [nn_add, nn_mul, nn_clamp, nn_in1, nn_inj, nn_lt, nn_le, nn_neg, nu_eq1, nu_ne1, nn_nb0, nn_true, nn_false, if_true, if_false, x_let_n, x_let_m, xb_some, eq_self, ite_true, ite_false, not_false_eq_true, not_true_eq_false, nneg1, nl0, nl1, nl2, nl3, nl4, nl5, nl6, nl7, nl8, nl9, nl10, nl11, nl12, nl15, nl16, nl60, nl96, nl192, nl552, nl553, nl554, nl555, nl556, nl557, nl558, nl559, nl560, nl561, nl562, nl563, nl570])
      refine Ok_up R (fun v1 R1 => ?_)
      exact Ok_some ⟨rfl, R1⟩
    · have hR : n_act w 4 g r m a t = w := if_neg c
      rw [if_neg c] at he
      rw [hR, if_pos (by rw [he]; rfl), if_pos (by decide)]
      exact Ok_some ⟨rfl, R⟩
  · rw [if_neg (by decide), if_neg (by decide)]
    unfold fX7_handle_j154 fX7_handle_j195
    rw [if_neg (by decide), if_neg (by decide), if_neg (by decide), if_neg (by decide)]
    exact Ok_bind (v_innEnds R Z hB (by omega) hg hr hm) (fun v1 R1 => Ok_some ⟨rfl, R1⟩)
  · rw [if_neg (by decide), if_neg (by decide)]
    unfold fX7_handle_j154 fX7_handle_j195
    rw [if_neg (by decide), if_neg (by decide), if_neg (by decide), if_neg (by decide)]
    exact Ok_bind (v_innEnds R Z hB (by omega) hg hr hm) (fun v1 R1 => Ok_some ⟨rfl, R1⟩)
set_option maxRecDepth 16384 in
theorem n_gone {w : Nat → Nat} {p : Nat} (hm : w 552 ≤ 60) {i : Nat} (h : i < 192 ∨ (552 < i ∧ i ≠ 559)) : nu (n_take w p) 559 (w 559 + 1) i = w i := by
  rw [nu_ne1 (by omega), n_take_at w p i hm, if_neg (by omega), if_neg (by omega)]
/- the row without the message still keeps within its sizes -/
set_option maxRecDepth 16384 in
theorem Wz_gone {w : Nat → Nat} (Z : Wz w) {p : Nat} (hp : p < w 552) : Wz (nu (n_take w p) 559 (w 559 + 1)) := by
  have hm := Z.2.2.1.2
  have G := fun i h => n_gone (p := p) hm (i := i) h
  have e2 : nu (n_take w p) 559 (w 559 + 1) 552 = w 552 - 1 := by rw [nu_ne1 (by omega), n_take_at w p _ hm, if_pos rfl]
  refine ⟨fun g hg => ?_, ⟨fun r hr => ?_, fun r r' hr hr' => ?_, fun r r' hr hr' => ?_⟩, ⟨fun q hq => ?_, by rw [e2]; omega⟩, ?_⟩
  · rw [G _ (by omega), G _ (by omega), G _ (by omega), G _ (by omega), G _ (by omega), G _ (by omega), G _ (by omega), G _ (by omega), G _ (by omega)]
    exact Z.1 g hg
  · rw [G _ (by omega), G _ (by omega), G _ (by omega), G _ (by omega), G _ (by omega), G _ (by omega), G _ (by omega), G _ (by omega)]
    exact Z.2.1.1 r hr
  · rw [G _ (by omega), G _ (by omega)]
    exact Z.2.1.2.1 r r' hr hr'
  · rw [G _ (by omega), G _ (by omega), G _ (by omega), G _ (by omega)]
    exact Z.2.1.2.2 r r' hr hr'
  · rw [e2] at hq
    have K : ∀ j, j < 6 → nu (n_take w p) 559 (w 559 + 1) (192 + 6 * q + j) = w (192 + 6 * (if q < p then q else q + 1) + j) := by
      intro j hj
      rw [nu_ne1 (by omega), n_take_at w p _ hm, if_neg (by omega)]
      by_cases c : q < p
      · rw [if_neg (by omega), if_pos c]
      · rw [if_pos (by omega), if_neg c]
        congr 1
        omega
    have h := Z.2.2.1.1 (if q < p then q else q + 1) (by split <;> omega)
    have K0 : nu (n_take w p) 559 (w 559 + 1) (192 + 6 * q) = w (192 + 6 * (if q < p then q else q + 1)) := K 0 (by omega)
    rw [K0, K 1 (by omega), K 2 (by omega), K 3 (by omega), K 4 (by omega), K 5 (by omega), G 553 (by omega)]
    exact h
  · unfold WzN
    rw [G _ (by omega), G _ (by omega), G _ (by omega)]
    exact Z.2.2.2
set_option maxRecDepth 16384 in
theorem Wb_gone {w : Nat → Nat} {B : Nat} (hB : Wb B w) {p : Nat} (hm : w 552 ≤ 60) (h9 : B + 1 ≤ 1000000000) : Wb (B + 1) (nu (n_take w p) 559 (w 559 + 1)) := by
  refine ⟨h9, fun i => ?_⟩
  have b1 := hB.2 559
  have b2 := hB.2 552
  have b3 := hB.2 i
  have b4 := hB.2 (i + 6)
  unfold nu
  split
  · omega
  · rw [n_take_at w p i hm]
    split
    · omega
    · split <;> omega
set_option maxRecDepth 16384 in
theorem v_handle {v : x_V} {w : Nat → Nat} {B : Nat} (R : Rv v w) (Z : Wz w) (hB : Wb B w) (h9 : B + 1 ≤ 1000000000) {p : Nat} (hp : p < w 552) : Ok (fX7_handle v (nn p)) (fun q => q.1 = nn (w (192 + 6 * p)) ∧ Rv q.2 (n_handle w p)) := by
  unfold fX7_handle
  have hm := Z.2.2.1.2
  obtain ⟨p0, p1, p2, p3, p4, p5⟩ := Z.2.2.1.1 p hp
  have b0 := hB.1
  have b3 := hB.2 (192 + 6 * p + 3)
  have b4 := hB.2 (192 + 6 * p + 4)
  have b5 := hB.2 (8 * w (192 + 6 * p + 1) + 4)
  have b6 := Z.1 _ p1
  (try simp (disch := omega) only [nn_add, nn_mul, nn_clamp, nn_in1, nn_inj, nn_lt, nn_le, nn_neg, nu_eq1, nu_ne1, nn_nb0, nn_true, nn_false, if_true, if_false, x_let_n, x_let_m, xb_some, eq_self, ite_true, ite_false, not_false_eq_true, not_true_eq_false, nneg1, nl0, nl1, nl2, nl3, nl4, nl5, nl6, nl7, nl8, nl9, nl10, nl11, nl12, nl15, nl16, nl60, nl96, nl192, nl552, nl553, nl554, nl555, nl556, nl557, nl558, nl559, nl560, nl561, nl562, nl563, nl570, R])
  refine Ok_bind (v_take R hp hm) (fun q hq => ?_)
  obtain ⟨h1, R1⟩ := hq
  have L : ∀ i, i < 192 → n_take w p i = w i := fun i hi => by rw [n_take_at w p i hm, if_neg (by omega), if_neg (by omega)]
  have L9 : n_take w p 559 = w 559 := by rw [n_take_at w p _ hm, if_neg (by omega), if_neg (by omega)]
  have G := fun i h => n_gone (p := p) hm (i := i) h
  rw [h1, v_doing R1 p1, xb_some]
  have J : ∀ y9 : Int32, y9 = nn (if n_heeds w (w (192 + 6 * p + 1)) (w (192 + 6 * p + 2)) (w (192 + 6 * p + 4)) then 1 else 0) → Ok (fX7_handle_j90 q.2 (nn (w (192 + 6 * p + 1))) (nn (w (192 + 6 * p + 2))) (nn (w (192 + 6 * p + 3))) (nn (w (192 + 6 * p + 5))) (nn (w (192 + 6 * p))) y9) (fun q => q.1 = nn (w (192 + 6 * p)) ∧ Rv q.2 (n_handle w p)) := by
    intro y9 hy
    unfold fX7_handle_j90
    have e9 : q.2 (Int32.toNatClampNeg 559) + 1 = nn (w 559 + 1) := by (try simp (disch := omega) only [nn_add, nn_mul, nn_clamp, nn_in1, nn_inj, nn_lt, nn_le, nn_neg, nu_eq1, nu_ne1, nn_nb0, nn_true, nn_false, if_true, if_false, x_let_n, x_let_m, xb_some, eq_self, ite_true, ite_false, not_false_eq_true, not_true_eq_false, nneg1, nl0, nl1, nl2, nl3, nl4, nl5, nl6, nl7, nl8, nl9, nl10, nl11, nl12, nl15, nl16, nl60, nl96, nl192, nl552, nl553, nl554, nl555, nl556, nl557, nl558, nl559, nl560, nl561, nl562, nl563, nl570, R1, L9])
    have e91 : Int32.toNatClampNeg 559 = 559 := by decide
    rw [e9, e91]
    refine Ok_up R1 (fun v2 R2 => ?_)
    refine v_act (a := w (192 + 6 * p + 4)) R2 (Wz_gone Z hp) (Wb_gone hB hm h9) p0 p1 p2 p5 (by omega) ?_
    rw [hy]
    unfold n_heeds
    rw [G _ (by omega), G _ (by omega), G _ (by omega)]
  unfold fX7_handle_j89
  rw [L _ (by omega)]
  by_cases c1 : 1 < w (8 * w (192 + 6 * p + 1))
  · rw [if_neg (fun h => by have := (nn_le (b := 1) (by omega) (by omega)).mp h; omega)]
    (try simp (disch := omega) only [nn_add, nn_mul, nn_clamp, nn_in1, nn_inj, nn_lt, nn_le, nn_neg, nu_eq1, nu_ne1, nn_nb0, nn_true, nn_false, if_true, if_false, x_let_n, x_let_m, xb_some, eq_self, ite_true, ite_false, not_false_eq_true, not_true_eq_false, nneg1, nl0, nl1, nl2, nl3, nl4, nl5, nl6, nl7, nl8, nl9, nl10, nl11, nl12, nl15, nl16, nl60, nl96, nl192, nl552, nl553, nl554, nl555, nl556, nl557, nl558, nl559, nl560, nl561, nl562, nl563, nl570, R1, L])
    by_cases c2 : w (8 * w (192 + 6 * p + 1) + 1) = w (192 + 6 * p + 2)
    · rw [if_pos c2]
      by_cases c3 : w (8 * w (192 + 6 * p + 1) + 4) = w (192 + 6 * p + 4)
      · rw [if_pos c3]
        exact J _ (by rw [if_pos ⟨c1, c2, c3⟩])
      · rw [if_neg c3]
        exact J _ (by rw [if_neg (fun h => c3 h.2.2)])
    · rw [if_neg c2]
      exact J _ (by rw [if_neg (fun h => c2 h.2.1)])
  · rw [if_pos (show nn (w (8 * w (192 + 6 * p + 1))) ≤ nn 1 from (nn_le (b := 1) (by omega) (by omega)).mpr (by omega))]
    exact J _ (by rw [if_neg (fun h => c1 h.1)]; rfl)
