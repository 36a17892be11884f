def n_leave (w : Nat → Nat) (g : Nat) : Nat → Nat := nu (n_post w 6 g (w (8 * g + 1)) 0 0) (8 * g) 0
def n_seek (w : Nat → Nat) (g : Nat) : Nat → Nat := n_post (nu w (8 * g) 1) 0 g 0 0 0
def n_rooms : Nat → (Nat → Nat) → (Nat → Nat)
  | 0, w => w
  | d + 1, w => n_rooms d (if w (96 + 6 * (15 - d)) ≠ 0 ∧ w (96 + 6 * (15 - d) + 1) ≤ w 554 then nu w (96 + 6 * (15 - d)) 0 else w)
def n_guests : Nat → (Nat → Nat) → Nat × (Nat → Nat)
  | 0, w => (0, w)
  | d + 1, w =>
    if w (8 * (11 - d)) = 3 ∧ w (8 * (11 - d) + 2) + w (8 * (11 - d) + 3) ≤ w 554 then ((n_guests d (nu (nu w (8 * (11 - d)) 0) 561 (w 561 + 1))).1 + 1, (n_guests d (nu (nu w (8 * (11 - d)) 0) 561 (w 561 + 1))).2)
    else if w (8 * (11 - d)) = 3 ∧ (w 554 = w (8 * (11 - d) + 2) + w (8 * (11 - d) + 3) / 2 ∨ w 554 = w (8 * (11 - d) + 2) + 7 * w (8 * (11 - d) + 3) / 8) then n_guests d (n_want w (11 - d))
    else n_guests d w
def n_tick (w : Nat → Nat) : Nat × (Nat → Nat) := n_guests 12 (n_rooms 16 (nu w 554 (w 554 + 1)))
def n_go : Nat → (Nat → Nat) → Nat × (Nat → Nat)
  | 0, w => (0, w)
  | t + 1, w => ((n_tick w).1 + (n_go t (n_tick w).2).1, (n_go t (n_tick w).2).2)
def Wt (B : Nat) (w : Nat → Nat) : Prop := B ≤ 1000000000 ∧ (∀ g, g < 12 → w (8 * g) ≤ 3 ∧ w (8 * g + 2) ≤ w 554 ∧ w (8 * g + 3) ≤ 200) ∧ (∀ r, r < 16 → w (96 + 6 * r) ≤ 3 ∧ w (96 + 6 * r + 1) ≤ B) ∧ w 552 ≤ 60 ∧ w 554 ≤ B
set_option maxRecDepth 16384 in
theorem n_want_at {w : Nat → Nat} {g : Nat} (hg : g < 12) (hm : w 552 ≤ 60) {i : Nat} (h : i < 192 ∨ (553 < i ∧ i ≠ 558 ∧ i ≠ 565)) (h4 : i ≠ 8 * g + 4) (h5 : i ≠ 8 * g + 5) : n_want w g i = w i := by
  unfold n_want n_post
  rw [nu_ne1 h5, nu_ne1 h4]
  split <;> (try simp (disch := omega) only [nn_add, nn_mul, nn_clamp, nn_in1, nn_inj, nn_lt, nn_le, nn_neg, nu_eq1, nu_ne1, nn_nb0, nn_true, nn_false, if_true, if_false, x_let_n, x_let_m, xb_some, eq_self, ite_true, ite_false, not_false_eq_true, not_true_eq_false, nneg1, nl0, nl1, nl2, nl3, nl4, nl5, nl6, nl7, nl8, nl9, nl10, nl11, nl12, nl15, nl16, nl60, nl96, nl192, nl552, nl553, nl554, nl555, nl556, nl557, nl558, nl559, nl560, nl561, nl562, nl563, nl570])
set_option maxRecDepth 16384 in
theorem n_want_552 {w : Nat → Nat} {g : Nat} (hg : g < 12) (hm : w 552 ≤ 60) : n_want w g 552 ≤ 60 := by
  unfold n_want n_post
  rw [nu_ne1 (by omega), nu_ne1 (by omega)]
  split
  · (try simp (disch := omega) only [nn_add, nn_mul, nn_clamp, nn_in1, nn_inj, nn_lt, nn_le, nn_neg, nu_eq1, nu_ne1, nn_nb0, nn_true, nn_false, if_true, if_false, x_let_n, x_let_m, xb_some, eq_self, ite_true, ite_false, not_false_eq_true, not_true_eq_false, nneg1, nl0, nl1, nl2, nl3, nl4, nl5, nl6, nl7, nl8, nl9, nl10, nl11, nl12, nl15, nl16, nl60, nl96, nl192, nl552, nl553, nl554, nl555, nl556, nl557, nl558, nl559, nl560, nl561, nl562, nl563, nl570]); omega
  · rw [nu_eq1 rfl]; omega
set_option maxRecDepth 16384 in
theorem Wt_want {B : Nat} {w : Nat → Nat} {g : Nat} (Z : Wt B w) (hg : g < 12) : Wt B (n_want w g) := by
  obtain ⟨b0, z1, z2, z3, z4⟩ := Z
  have e := n_want_at hg z3 (i := 554) (by omega) (by omega) (by omega)
  refine ⟨b0, fun g' hg' => ?_, fun r hr => ?_, n_want_552 hg z3, by rw [e]; exact z4⟩
  · rw [e, n_want_at hg z3 (by omega) (by omega) (by omega), n_want_at hg z3 (by omega) (by omega) (by omega), n_want_at hg z3 (by omega) (by omega) (by omega)]
    exact z1 g' hg'
  · rw [n_want_at hg z3 (by omega) (by omega) (by omega), n_want_at hg z3 (by omega) (by omega) (by omega)]
    exact z2 r hr
set_option maxRecDepth 16384 in
theorem Wt_room {B : Nat} {w : Nat → Nat} {r : Nat} (Z : Wt B w) (hr : r < 16) : Wt B (nu w (96 + 6 * r) 0) := by
  obtain ⟨b0, z1, z2, z3, z4⟩ := Z
  refine ⟨b0, fun g hg => ?_, fun r' hr' => ?_, by (try simp (disch := omega) only [nn_add, nn_mul, nn_clamp, nn_in1, nn_inj, nn_lt, nn_le, nn_neg, nu_eq1, nu_ne1, nn_nb0, nn_true, nn_false, if_true, if_false, x_let_n, x_let_m, xb_some, eq_self, ite_true, ite_false, not_false_eq_true, not_true_eq_false, nneg1, nl0, nl1, nl2, nl3, nl4, nl5, nl6, nl7, nl8, nl9, nl10, nl11, nl12, nl15, nl16, nl60, nl96, nl192, nl552, nl553, nl554, nl555, nl556, nl557, nl558, nl559, nl560, nl561, nl562, nl563, nl570]); exact z3, by (try simp (disch := omega) only [nn_add, nn_mul, nn_clamp, nn_in1, nn_inj, nn_lt, nn_le, nn_neg, nu_eq1, nu_ne1, nn_nb0, nn_true, nn_false, if_true, if_false, x_let_n, x_let_m, xb_some, eq_self, ite_true, ite_false, not_false_eq_true, not_true_eq_false, nneg1, nl0, nl1, nl2, nl3, nl4, nl5, nl6, nl7, nl8, nl9, nl10, nl11, nl12, nl15, nl16, nl60, nl96, nl192, nl552, nl553, nl554, nl555, nl556, nl557, nl558, nl559, nl560, nl561, nl562, nl563, nl570]); exact z4⟩
  · (try simp (disch := omega) only [nn_add, nn_mul, nn_clamp, nn_in1, nn_inj, nn_lt, nn_le, nn_neg, nu_eq1, nu_ne1, nn_nb0, nn_true, nn_false, if_true, if_false, x_let_n, x_let_m, xb_some, eq_self, ite_true, ite_false, not_false_eq_true, not_true_eq_false, nneg1, nl0, nl1, nl2, nl3, nl4, nl5, nl6, nl7, nl8, nl9, nl10, nl11, nl12, nl15, nl16, nl60, nl96, nl192, nl552, nl553, nl554, nl555, nl556, nl557, nl558, nl559, nl560, nl561, nl562, nl563, nl570]); exact z1 g hg
  · rw [show nu w (96 + 6 * r) 0 (96 + 6 * r' + 1) = w (96 + 6 * r' + 1) from nu_ne1 (by omega)]
    refine ⟨?_, (z2 r' hr').2⟩
    unfold nu
    split
    · omega
    · exact (z2 r' hr').1
set_option maxRecDepth 16384 in
theorem Wb_nu {B : Nat} {w : Nat → Nat} (hB : Wb B w) {k x : Nat} (hx : x ≤ B) : Wb B (nu w k x) := ⟨hB.1, fun i => by unfold nu; split; exact hx; exact hB.2 i⟩
set_option maxRecDepth 16384 in
theorem Wb_up {B B' : Nat} {w : Nat → Nat} (hB : Wb B w) (h : B ≤ B') (h9 : B' ≤ 1000000000) : Wb B' w := ⟨h9, fun i => Nat.le_trans (hB.2 i) h⟩
section POST
variable {w : Nat → Nat} {k g r a t : Nat}
set_option maxRecDepth 16384 in
theorem n_post_lo (hk : k < 7) (hm : w 552 ≤ 60) {i : Nat} (h : i < 192) : n_post w k g r a t i = w i := by
  unfold n_post
  split <;> (try simp (disch := omega) only [nn_add, nn_mul, nn_clamp, nn_in1, nn_inj, nn_lt, nn_le, nn_neg, nu_eq1, nu_ne1, nn_nb0, nn_true, nn_false, if_true, if_false, x_let_n, x_let_m, xb_some, eq_self, ite_true, ite_false, not_false_eq_true, not_true_eq_false, nneg1, nl0, nl1, nl2, nl3, nl4, nl5, nl6, nl7, nl8, nl9, nl10, nl11, nl12, nl15, nl16, nl60, nl96, nl192, nl552, nl553, nl554, nl555, nl556, nl557, nl558, nl559, nl560, nl561, nl562, nl563, nl570])
set_option maxRecDepth 16384 in
theorem n_post_hi (hk : k < 7) (hm : w 552 ≤ 60) {i : Nat} (h : 553 < i) (h1 : i ≠ 558) (h2 : i ≠ 563 + k) : n_post w k g r a t i = w i := by
  unfold n_post
  split <;> (try simp (disch := omega) only [nn_add, nn_mul, nn_clamp, nn_in1, nn_inj, nn_lt, nn_le, nn_neg, nu_eq1, nu_ne1, nn_nb0, nn_true, nn_false, if_true, if_false, x_let_n, x_let_m, xb_some, eq_self, ite_true, ite_false, not_false_eq_true, not_true_eq_false, nneg1, nl0, nl1, nl2, nl3, nl4, nl5, nl6, nl7, nl8, nl9, nl10, nl11, nl12, nl15, nl16, nl60, nl96, nl192, nl552, nl553, nl554, nl555, nl556, nl557, nl558, nl559, nl560, nl561, nl562, nl563, nl570])
set_option maxRecDepth 16384 in
theorem n_post_no (hk : k < 7) (hm : w 552 ≤ 60) : n_post w k g r a t 553 = w 553 + 1 := by
  unfold n_post
  split <;> (try simp (disch := omega) only [nn_add, nn_mul, nn_clamp, nn_in1, nn_inj, nn_lt, nn_le, nn_neg, nu_eq1, nu_ne1, nn_nb0, nn_true, nn_false, if_true, if_false, x_let_n, x_let_m, xb_some, eq_self, ite_true, ite_false, not_false_eq_true, not_true_eq_false, nneg1, nl0, nl1, nl2, nl3, nl4, nl5, nl6, nl7, nl8, nl9, nl10, nl11, nl12, nl15, nl16, nl60, nl96, nl192, nl552, nl553, nl554, nl555, nl556, nl557, nl558, nl559, nl560, nl561, nl562, nl563, nl570])
set_option maxRecDepth 16384 in
theorem n_post_many (hk : k < 7) (hm : w 552 ≤ 60) : n_post w k g r a t 552 = if w 552 = 60 then 60 else w 552 + 1 := by
  unfold n_post
  split
  · (try simp (disch := omega) only [nn_add, nn_mul, nn_clamp, nn_in1, nn_inj, nn_lt, nn_le, nn_neg, nu_eq1, nu_ne1, nn_nb0, nn_true, nn_false, if_true, if_false, x_let_n, x_let_m, xb_some, eq_self, ite_true, ite_false, not_false_eq_true, not_true_eq_false, nneg1, nl0, nl1, nl2, nl3, nl4, nl5, nl6, nl7, nl8, nl9, nl10, nl11, nl12, nl15, nl16, nl60, nl96, nl192, nl552, nl553, nl554, nl555, nl556, nl557, nl558, nl559, nl560, nl561, nl562, nl563, nl570])
  · (try simp (disch := omega) only [nn_add, nn_mul, nn_clamp, nn_in1, nn_inj, nn_lt, nn_le, nn_neg, nu_eq1, nu_ne1, nn_nb0, nn_true, nn_false, if_true, if_false, x_let_n, x_let_m, xb_some, eq_self, ite_true, ite_false, not_false_eq_true, not_true_eq_false, nneg1, nl0, nl1, nl2, nl3, nl4, nl5, nl6, nl7, nl8, nl9, nl10, nl11, nl12, nl15, nl16, nl60, nl96, nl192, nl552, nl553, nl554, nl555, nl556, nl557, nl558, nl559, nl560, nl561, nl562, nl563, nl570])
set_option maxRecDepth 16384 in
theorem n_post_old (hk : k < 7) (hm : w 552 ≤ 60) {p j : Nat} (hp : p < w 552) (hj : j < 6) : n_post w k g r a t (192 + 6 * p + j) = w (192 + 6 * p + j) := by
  unfold n_post
  split <;> (try simp (disch := omega) only [nn_add, nn_mul, nn_clamp, nn_in1, nn_inj, nn_lt, nn_le, nn_neg, nu_eq1, nu_ne1, nn_nb0, nn_true, nn_false, if_true, if_false, x_let_n, x_let_m, xb_some, eq_self, ite_true, ite_false, not_false_eq_true, not_true_eq_false, nneg1, nl0, nl1, nl2, nl3, nl4, nl5, nl6, nl7, nl8, nl9, nl10, nl11, nl12, nl15, nl16, nl60, nl96, nl192, nl552, nl553, nl554, nl555, nl556, nl557, nl558, nl559, nl560, nl561, nl562, nl563, nl570])
set_option maxRecDepth 16384 in
theorem n_post_new (hk : k < 7) (hm : w 552 < 60) : n_post w k g r a t (192 + 6 * w 552) = k ∧ n_post w k g r a t (192 + 6 * w 552 + 1) = g ∧ n_post w k g r a t (192 + 6 * w 552 + 2) = r ∧ n_post w k g r a t (192 + 6 * w 552 + 3) = w 553 + 1 ∧ n_post w k g r a t (192 + 6 * w 552 + 4) = a ∧ n_post w k g r a t (192 + 6 * w 552 + 5) = t := by
  unfold n_post
  rw [if_neg (by omega)]
  refine ⟨?_, ?_, ?_, ?_, ?_, ?_⟩ <;> (try simp (disch := omega) only [nn_add, nn_mul, nn_clamp, nn_in1, nn_inj, nn_lt, nn_le, nn_neg, nu_eq1, nu_ne1, nn_nb0, nn_true, nn_false, if_true, if_false, x_let_n, x_let_m, xb_some, eq_self, ite_true, ite_false, not_false_eq_true, not_true_eq_false, nneg1, nl0, nl1, nl2, nl3, nl4, nl5, nl6, nl7, nl8, nl9, nl10, nl11, nl12, nl15, nl16, nl60, nl96, nl192, nl552, nl553, nl554, nl555, nl556, nl557, nl558, nl559, nl560, nl561, nl562, nl563, nl570])
set_option maxRecDepth 16384 in
theorem Wb_post {B : Nat} (hB : Wb B w) (h9 : B + 1 ≤ 1000000000) (hm : w 552 ≤ 60) (hk : k ≤ B + 1) (hg : g ≤ B + 1) (hr : r ≤ B + 1) (ha : a ≤ B + 1) (ht : t ≤ B + 1) : Wb (B + 1) (n_post w k g r a t) := by
  have b1 := hB.2 553
  have b2 := hB.2 (563 + k)
  have b3 := hB.2 558
  have b5 := hB.2 552
  have h := Wb_up hB (Nat.le_succ B) h9
  unfold n_post
  split
  · exact Wb_nu (Wb_nu (Wb_nu h (by omega)) (by omega)) (by omega)
  · exact Wb_nu (Wb_nu (Wb_nu (Wb_nu (Wb_nu (Wb_nu (Wb_nu (Wb_nu (Wb_nu h (by omega)) (by omega)) hk) hg) hr) (by omega)) ha) ht) (by omega)
set_option maxRecDepth 16384 in
theorem Wz_post (Z : Wz w) (hk : k < 7) (hg : g < 12) (hr : r < 16) (ha : a ≤ w 553 + 1) (ht : t ≤ 200) : Wz (n_post w k g r a t) := by
  obtain ⟨zg, ⟨zr1, zr2, zr3⟩, ⟨zm1, hm⟩, zn⟩ := Z
  have L := fun i (h : i < 192) => n_post_lo (w := w) (k := k) (g := g) (r := r) (a := a) (t := t) hk hm h
  have e3 := n_post_no (w := w) (k := k) (g := g) (r := r) (a := a) (t := t) hk hm
  have e4 := n_post_hi (w := w) (k := k) (g := g) (r := r) (a := a) (t := t) hk hm (i := 554) (by omega) (by omega) (by omega)
  have e2 := n_post_many (w := w) (k := k) (g := g) (r := r) (a := a) (t := t) hk hm
  refine ⟨fun g' hg' => ?_, ⟨fun r' hr' => ?_, fun r1 r2 h1 h2 => ?_, fun r1 r2 h1 h2 => ?_⟩, ⟨fun p hp => ?_, ?_⟩, ?_⟩
  · rw [e3, e4, L _ (by omega), L _ (by omega), L _ (by omega), L _ (by omega), L _ (by omega), L _ (by omega), L _ (by omega)]
    have := zg g' hg'
    omega
  · rw [e3, e4, L _ (by omega), L _ (by omega), L _ (by omega), L _ (by omega), L _ (by omega), L _ (by omega)]
    have := zr1 r' hr'
    omega
  · rw [L _ (by omega), L _ (by omega)]
    exact zr2 r1 r2 h1 h2
  · rw [L _ (by omega), L _ (by omega), L _ (by omega), L _ (by omega)]
    exact zr3 r1 r2 h1 h2
  · rw [e2] at hp
    by_cases c : p < w 552
    · have O := fun j hj => n_post_old (w := w) (k := k) (g := g) (r := r) (a := a) (t := t) hk hm c (j := j) hj
      have O0 : n_post w k g r a t (192 + 6 * p) = w (192 + 6 * p) := O 0 (by omega)
      rw [O0, O 1 (by omega), O 2 (by omega), O 3 (by omega), O 4 (by omega), O 5 (by omega), e3]
      have := zm1 p c
      omega
    · have h6 : w 552 < 60 := by split at hp <;> omega
      have hpe : p = w 552 := by rw [if_neg (by omega)] at hp; omega
      rw [hpe, (n_post_new hk h6).1, (n_post_new hk h6).2.1, (n_post_new hk h6).2.2.1, (n_post_new hk h6).2.2.2.1, (n_post_new hk h6).2.2.2.2.1, (n_post_new hk h6).2.2.2.2.2, e3]
      omega
  · rw [e2]; split <;> omega
  · unfold WzN
    rw [n_post_hi hk hm (by omega) (by omega) (by omega), n_post_hi hk hm (by omega) (by omega) (by omega), n_post_hi hk hm (by omega) (by omega) (by omega)]
    exact zn
end POST
set_option maxRecDepth 16384 in
theorem Wz_g {w : Nat → Nat} (Z : Wz w) {g j x : Nat} (hg : g < 12) (hj : j < 8) (hx : (j = 0 → x ≤ 3) ∧ (j = 1 → x < 16) ∧ (j = 2 → x ≤ w 554) ∧ (j = 3 → x ≤ 200) ∧ (j = 4 → x ≤ w 553) ∧ (j = 5 → x ≤ w 554) ∧ (j = 7 → x ≤ 16)) : Wz (nu w (8 * g + j) x) := by
  obtain ⟨zg, ⟨zr1, zr2, zr3⟩, ⟨zm1, hm⟩, zn⟩ := Z
  have E : ∀ i, 96 ≤ i → nu w (8 * g + j) x i = w i := fun i hi => nu_ne1 (by omega)
  refine ⟨fun g' hg' => ?_, ⟨fun r' hr' => ?_, fun r1 r2 h1 h2 => ?_, fun r1 r2 h1 h2 => ?_⟩, ⟨fun p hp => ?_, ?_⟩, ?_⟩
  · rw [E 553 (by omega), E 554 (by omega)]
    have := zg g' hg'
    unfold nu
    refine ⟨?_, ?_, ?_, ?_, ?_, ?_, ?_⟩ <;> split <;> omega
  · rw [E _ (by omega), E _ (by omega), E _ (by omega), E _ (by omega), E _ (by omega), E _ (by omega), E _ (by omega), E _ (by omega)]
    exact zr1 r' hr'
  · rw [E _ (by omega), E _ (by omega)]
    exact zr2 r1 r2 h1 h2
  · rw [E _ (by omega), E _ (by omega), E _ (by omega), E _ (by omega)]
    exact zr3 r1 r2 h1 h2
  · rw [E 552 (by omega)] at hp
    rw [E _ (by omega), E _ (by omega), E _ (by omega), E _ (by omega), E _ (by omega), E _ (by omega), E _ (by omega)]
    exact zm1 p hp
  · rw [E _ (by omega)]; exact hm
  · unfold WzN
    rw [E _ (by omega), E _ (by omega), E _ (by omega)]
    exact zn
set_option maxRecDepth 16384 in
theorem Wz_c {w : Nat → Nat} (Z : Wz w) {k x : Nat} (hk : 558 ≤ k) : Wz (nu w k x) := by
  obtain ⟨zg, ⟨zr1, zr2, zr3⟩, ⟨zm1, hm⟩, zn⟩ := Z
  have E : ∀ i, i < 558 → nu w k x i = w i := fun i hi => nu_ne1 (by omega)
  refine ⟨fun g' hg' => ?_, ⟨fun r' hr' => ?_, fun r1 r2 h1 h2 => ?_, fun r1 r2 h1 h2 => ?_⟩, ⟨fun p hp => ?_, ?_⟩, ?_⟩
  · rw [E _ (by omega), E _ (by omega), E _ (by omega), E _ (by omega), E _ (by omega), E _ (by omega), E _ (by omega), E _ (by omega), E _ (by omega)]
    exact zg g' hg'
  · rw [E _ (by omega), E _ (by omega), E _ (by omega), E _ (by omega), E _ (by omega), E _ (by omega), E _ (by omega), E _ (by omega)]
    exact zr1 r' hr'
  · rw [E _ (by omega), E _ (by omega)]
    exact zr2 r1 r2 h1 h2
  · rw [E _ (by omega), E _ (by omega), E _ (by omega), E _ (by omega)]
    exact zr3 r1 r2 h1 h2
  · rw [E 552 (by omega)] at hp
    rw [E _ (by omega), E _ (by omega), E _ (by omega), E _ (by omega), E _ (by omega), E _ (by omega), E _ (by omega)]
    exact zm1 p hp
  · rw [E _ (by omega)]; exact hm
  · unfold WzN
    rw [E _ (by omega), E _ (by omega), E _ (by omega)]
    exact zn
set_option maxRecDepth 16384 in
theorem Wz_r {w : Nat → Nat} (Z : Wz w) {r s u g : Nat} (hr : r < 16) (hs : s ≤ 3) (hu : u ≤ w 554 + 200) (hg : g < 12) (ho : s = 1 → ∀ r', r' < 16 → w (96 + 6 * r') = 1 → w (96 + 6 * r' + 2) = g → r' = r) : Wz (nu (n_settle w r s u) (96 + 6 * r + 2) g) := by
  obtain ⟨zg, ⟨zr1, zr2, zr3⟩, ⟨zm1, hm⟩, zn⟩ := Z
  unfold n_settle
  have E : ∀ i, (i < 96 ∨ 192 ≤ i) → nu (nu (nu w (96 + 6 * r) s) (96 + 6 * r + 1) u) (96 + 6 * r + 2) g i = w i := fun i hi => by rw [nu_ne1 (by omega), nu_ne1 (by omega), nu_ne1 (by omega)]
  have E3 : ∀ r', nu (nu (nu w (96 + 6 * r) s) (96 + 6 * r + 1) u) (96 + 6 * r + 2) g (96 + 6 * r' + 3) = w (96 + 6 * r' + 3) := fun r' => by rw [nu_ne1 (by omega), nu_ne1 (by omega), nu_ne1 (by omega)]
  have E4 : ∀ r', nu (nu (nu w (96 + 6 * r) s) (96 + 6 * r + 1) u) (96 + 6 * r + 2) g (96 + 6 * r' + 4) = w (96 + 6 * r' + 4) := fun r' => by rw [nu_ne1 (by omega), nu_ne1 (by omega), nu_ne1 (by omega)]
  have E5 : ∀ r', nu (nu (nu w (96 + 6 * r) s) (96 + 6 * r + 1) u) (96 + 6 * r + 2) g (96 + 6 * r' + 5) = w (96 + 6 * r' + 5) := fun r' => by rw [nu_ne1 (by omega), nu_ne1 (by omega), nu_ne1 (by omega)]
  have E0 : ∀ r', nu (nu (nu w (96 + 6 * r) s) (96 + 6 * r + 1) u) (96 + 6 * r + 2) g (96 + 6 * r') = if r' = r then s else w (96 + 6 * r') := fun r' => by
    rw [nu_ne1 (by omega), nu_ne1 (by omega)]
    unfold nu
    by_cases c : r' = r
    · rw [if_pos c, if_pos (by omega)]
    · rw [if_neg c, if_neg (by omega)]
  have E1 : ∀ r', nu (nu (nu w (96 + 6 * r) s) (96 + 6 * r + 1) u) (96 + 6 * r + 2) g (96 + 6 * r' + 1) = if r' = r then u else w (96 + 6 * r' + 1) := fun r' => by
    rw [nu_ne1 (by omega)]
    by_cases c : r' = r
    · rw [if_pos c, nu_eq1 (by omega)]
    · rw [if_neg c, nu_ne1 (by omega), nu_ne1 (by omega)]
  have E2 : ∀ r', nu (nu (nu w (96 + 6 * r) s) (96 + 6 * r + 1) u) (96 + 6 * r + 2) g (96 + 6 * r' + 2) = if r' = r then g else w (96 + 6 * r' + 2) := fun r' => by
    by_cases c : r' = r
    · rw [if_pos c, nu_eq1 (by omega)]
    · rw [if_neg c, nu_ne1 (by omega), nu_ne1 (by omega), nu_ne1 (by omega)]
  refine ⟨fun g' hg' => ?_, ⟨fun r' hr' => ?_, fun r1 r2 h1 h2 => ?_, fun r1 r2 h1 h2 => ?_⟩, ⟨fun p hp => ?_, ?_⟩, ?_⟩
  · rw [E _ (by omega), E _ (by omega), E _ (by omega), E _ (by omega), E _ (by omega), E _ (by omega), E _ (by omega), E _ (by omega), E _ (by omega)]
    exact zg g' hg'
  · rw [E0, E1, E2, E3, E4, E5, E 553 (by omega), E 554 (by omega)]
    have := zr1 r' hr'
    by_cases c : r' = r
    · rw [if_pos c, if_pos c, if_pos c]; omega
    · rw [if_neg c, if_neg c, if_neg c]; omega
  · rw [E4, E4]
    exact zr2 r1 r2 h1 h2
  · rw [E0, E0, E2, E2]
    by_cases c1 : r1 = r <;> by_cases c2 : r2 = r
    · intro _ _ _; omega
    · rw [if_pos c1, if_neg c2, if_pos c1, if_neg c2]
      intro q1 q2 q3
      have := ho q1 r2 h2 q2 q3.symm
      omega
    · rw [if_neg c1, if_pos c2, if_neg c1, if_pos c2]
      intro q1 q2 q3
      have := ho q2 r1 h1 q1 q3
      omega
    · rw [if_neg c1, if_neg c2, if_neg c1, if_neg c2]
      exact zr3 r1 r2 h1 h2
  · rw [E 552 (by omega)] at hp
    rw [E _ (by omega), E _ (by omega), E _ (by omega), E _ (by omega), E _ (by omega), E _ (by omega), E _ (by omega)]
    exact zm1 p hp
  · rw [E _ (by omega)]; exact hm
  · unfold WzN
    rw [E _ (by omega), E _ (by omega), E _ (by omega)]
    exact zn
set_option maxRecDepth 16384 in
theorem nu_self {w : Nat → Nat} {k x : Nat} (h : w k = x) : nu w k x = w := by
  funext i
  unfold nu
  split
  · next e => rw [e, h]
  · rfl
set_option maxRecDepth 16384 in
theorem Wz_settle {w : Nat → Nat} (Z : Wz w) {r s u : Nat} (hr : r < 16) (hs : s ≤ 3) (hu : u ≤ w 554 + 200) (h1 : s ≠ 1) : Wz (n_settle w r s u) := by
  have h := Wz_r (g := w (96 + 6 * r + 2)) Z hr hs hu (Z.2.1.1 r hr).2.2.1 (fun h => absurd h h1)
  rw [nu_self] at h
  · exact h
  · unfold n_settle
    rw [nu_ne1 (by omega), nu_ne1 (by omega)]
set_option maxRecDepth 16384 in
theorem Wz_y {w : Nat → Nat} (Z : Wz w) {r x : Nat} (hr : r < 16) (hx : x ≤ w 553) : Wz (nu w (96 + 6 * r + 3) x) := by
  obtain ⟨zg, ⟨zr1, zr2, zr3⟩, ⟨zm1, hm⟩, zn⟩ := Z
  have E : ∀ i, (i < 96 ∨ 192 ≤ i) → nu w (96 + 6 * r + 3) x i = w i := fun i hi => nu_ne1 (by omega)
  have F : ∀ r' j, j < 6 → j ≠ 3 → nu w (96 + 6 * r + 3) x (96 + 6 * r' + j) = w (96 + 6 * r' + j) := fun r' j h1 h2 => nu_ne1 (by omega)
  have F0 : ∀ r', nu w (96 + 6 * r + 3) x (96 + 6 * r') = w (96 + 6 * r') := fun r' => F r' 0 (by omega) (by omega)
  refine ⟨fun g' hg' => ?_, ⟨fun r' hr' => ?_, fun r1 r2 h1 h2 => ?_, fun r1 r2 h1 h2 => ?_⟩, ⟨fun p hp => ?_, ?_⟩, ?_⟩
  · rw [E _ (by omega), E _ (by omega), E _ (by omega), E _ (by omega), E _ (by omega), E _ (by omega), E _ (by omega), E _ (by omega), E _ (by omega)]
    exact zg g' hg'
  · rw [F0, F r' 1 (by omega) (by omega), F r' 2 (by omega) (by omega), F r' 4 (by omega) (by omega), F r' 5 (by omega) (by omega), E 553 (by omega), E 554 (by omega)]
    have := zr1 r' hr'
    refine ⟨this.1, this.2.1, this.2.2.1, ?_, this.2.2.2.2⟩
    unfold nu
    split <;> omega
  · rw [F r1 4 (by omega) (by omega), F r2 4 (by omega) (by omega)]
    exact zr2 r1 r2 h1 h2
  · rw [F0, F0, F r1 2 (by omega) (by omega), F r2 2 (by omega) (by omega)]
    exact zr3 r1 r2 h1 h2
  · rw [E 552 (by omega)] at hp
    rw [E _ (by omega), E _ (by omega), E _ (by omega), E _ (by omega), E _ (by omega), E _ (by omega), E _ (by omega)]
    exact zm1 p hp
  · rw [E _ (by omega)]; exact hm
  · unfold WzN
    rw [E _ (by omega), E _ (by omega), E _ (by omega)]
    exact zn

def Wx (w : Nat → Nat) : Prop := (∀ g, g < 12 → w (8 * g) = 3 → w 554 < w (8 * g + 2) + w (8 * g + 3)) ∧ (∀ r, r < 16 → w (96 + 6 * r) ≠ 0 → w 554 < w (96 + 6 * r + 1))
set_option maxRecDepth 16384 in
theorem Wx_lo {w w' : Nat → Nat} (h : Wx w) (h1 : ∀ i, i < 192 → w' i = w i) (h2 : w' 554 = w 554) : Wx w' := by
  refine ⟨fun g hg => ?_, fun r hr => ?_⟩
  · rw [h2, h1 _ (by omega), h1 _ (by omega), h1 _ (by omega)]; exact h.1 g hg
  · rw [h2, h1 _ (by omega), h1 _ (by omega)]; exact h.2 r hr
set_option maxRecDepth 16384 in
theorem Wx_post {w : Nat → Nat} {k g r a t : Nat} (h : Wx w) (hk : k < 7) (hm : w 552 ≤ 60) : Wx (n_post w k g r a t) := Wx_lo h (fun i hi => n_post_lo hk hm hi) (n_post_hi hk hm (by omega) (by omega) (by omega))
set_option maxRecDepth 16384 in
theorem Wx_g {w : Nat → Nat} (h : Wx w) {g j x : Nat} (hg : g < 12) (hj : j < 8) (hx : (j = 0 → x ≠ 3) ∧ j ≠ 2 ∧ j ≠ 3) : Wx (nu w (8 * g + j) x) := by
  refine ⟨fun g' hg' => ?_, fun r hr => ?_⟩
  · rw [nu_ne1 (show (554 : Nat) ≠ _ by omega), nu_ne1 (show 8 * g' + 2 ≠ _ by omega), nu_ne1 (show 8 * g' + 3 ≠ _ by omega)]
    unfold nu
    split
    · intro h3; omega
    · exact h.1 g' hg'
  · rw [nu_ne1 (by omega), nu_ne1 (by omega), nu_ne1 (by omega)]; exact h.2 r hr
set_option maxRecDepth 16384 in
theorem Wx_settle {w : Nat → Nat} (h : Wx w) {r s u : Nat} (hr : r < 16) (hu : s ≠ 0 → w 554 < u) : Wx (n_settle w r s u) := by
  unfold n_settle
  refine ⟨fun g' hg' => ?_, fun r' hr' => ?_⟩
  · rw [nu_ne1 (by omega), nu_ne1 (by omega), nu_ne1 (by omega), nu_ne1 (by omega), nu_ne1 (by omega), nu_ne1 (by omega), nu_ne1 (by omega), nu_ne1 (by omega)]
    exact h.1 g' hg'
  · rw [nu_ne1 (show (554 : Nat) ≠ _ by omega), nu_ne1 (show (554 : Nat) ≠ _ by omega), nu_ne1 (show 96 + 6 * r' ≠ 96 + 6 * r + 1 by omega)]
    unfold nu
    by_cases c : r' = r
    · subst c
      simp only [if_true, if_pos rfl, if_neg (show ¬ 96 + 6 * r' + 1 = 96 + 6 * r' by omega)]
      exact hu
    · rw [if_neg (by omega), if_neg (by omega), if_neg (by omega)]
      exact h.2 r' hr'
set_option maxRecDepth 16384 in
theorem Wx_o {w : Nat → Nat} (h : Wx w) {k x : Nat} (hk : (96 ≤ k ∧ k < 192 ∧ k % 6 ≠ 0 ∧ k % 6 ≠ 1) ∨ (192 ≤ k ∧ k ≠ 554)) : Wx (nu w k x) := by
  refine ⟨fun g' hg' => ?_, fun r' hr' => ?_⟩
  · rw [nu_ne1 (by omega), nu_ne1 (by omega), nu_ne1 (by omega), nu_ne1 (by omega)]
    exact h.1 g' hg'
  · rw [nu_ne1 (by omega), nu_ne1 (by omega), nu_ne1 (by omega)]
    exact h.2 r' hr'
set_option maxRecDepth 16384 in
theorem n_chl_off {w : Nat → Nat} {g q : Nat} (hq : q < 16) (h : n_has w q 1 g) (hu : ∀ r', r' < 16 → n_has w r' 1 g → r' = q) : ∀ (k low own : Nat), q < k → k ≤ 16 → n_chl w g k low own = q + 1 := by
  intro k
  induction k with
  | zero => intro low own h1 h2; omega
  | succ k ih =>
    intro low own h1 h2
    rw [n_chl]
    by_cases c : w (96 + 6 * k) = 1 ∧ w (96 + 6 * k + 2) = g
    · rw [if_pos c, hu k (by omega) c]
    · rw [if_neg c]
      refine ih _ _ ?_ (by omega)
      have : k ≠ q := fun e => c (by rw [e]; exact h)
      omega
set_option maxRecDepth 16384 in
theorem n_choice_off {w : Nat → Nat} {g q : Nat} (Z : Wz w) (hq : q < 16) (h : n_has w q 1 g) : n_choice w g = q + 1 := n_chl_off hq h (fun r' hr' h' => Z.2.1.2.2 r' q hr' hq h'.1 h.1 (h'.2.trans h.2.symm)) 16 0 0 hq (by omega)
set_option maxRecDepth 16384 in
theorem n_chl_is {w : Nat → Nat} {g : Nat} : ∀ (k low own d : Nat), n_chl w g k low own = d + 1 → (∀ e, low = e + 1 → w (96 + 6 * e) = 0) → (∀ e, own = e + 1 → w (96 + 6 * e) = 0) → n_has w d 1 g ∨ w (96 + 6 * d) = 0 := by
  intro k
  induction k with
  | zero =>
    intro low own d h h1 h2
    rw [n_chl] at h
    split at h
    · exact Or.inr (h2 d h)
    · split at h
      · next c =>
        have : w (8 * g + 7) - 1 = d := by omega
        rw [← this]
        exact Or.inr c.2.1
      · exact Or.inr (h1 d h)
  | succ k ih =>
    intro low own d h h1 h2
    rw [n_chl] at h
    split at h
    · next c =>
      have : d = k := by omega
      subst this
      exact Or.inl c
    · refine ih _ _ d h (fun e he => ?_) (fun e he => ?_)
      · split at he
        · next c => have : e = k := by omega
                    subst this; exact c.1
        · exact h1 e he
      · split at he
        · next c => have : e = k := by omega
                    subst this; exact c.1.1
        · exact h2 e he
set_option maxRecDepth 16384 in
theorem n_choice_is {w : Nat → Nat} {g d : Nat} (h : n_choice w g = d + 1) : n_has w d 1 g ∨ w (96 + 6 * d) = 0 := n_chl_is 16 0 0 d h (fun e he => by omega) (fun e he => by omega)
def Wf (B : Nat) (w : Nat → Nat) : Prop := Wz w ∧ Wx w ∧ Wb B w
set_option maxRecDepth 16384 in
theorem n_settle_at {w : Nat → Nat} {r s u i : Nat} (h : i ≠ 96 + 6 * r) (h1 : i ≠ 96 + 6 * r + 1) : n_settle w r s u i = w i := by
  unfold n_settle
  rw [nu_ne1 h1, nu_ne1 h]
set_option maxRecDepth 16384 in
theorem Wb_settle {B : Nat} {w : Nat → Nat} (hB : Wb B w) {r s u : Nat} (hs : s ≤ B) (hu : u ≤ B) : Wb B (n_settle w r s u) := Wb_nu (Wb_nu hB hs) hu
set_option maxRecDepth 16384 in
theorem Wf_want {B : Nat} {w : Nat → Nat} (F : Wf B w) {g : Nat} (hg : g < 12) (h9 : B + 500 ≤ 1000000000) : Wf (B + 500) (n_want w g) := by
  obtain ⟨Z, X, hB⟩ := F
  have hm := Z.2.2.1.2
  have zg := Z.1 g hg
  have e3 := n_post_no (w := w) (k := 2) (g := g) (r := w (8 * g + 1)) (a := 0) (t := 0) (by omega) hm
  have e4 := n_post_hi (w := w) (k := 2) (g := g) (r := w (8 * g + 1)) (a := 0) (t := 0) (by omega) hm (i := 554) (by omega) (by omega) (by omega)
  have b3 := hB.2 553
  have b4 := hB.2 554
  have hB2 := Wb_up hB (B' := B + 499) (by omega) (by omega)
  unfold n_want
  refine ⟨?_, ?_, ?_⟩
  · refine Wz_g (Wz_g (Wz_post Z (by omega) hg zg.2.1 (by omega) (by omega)) hg (by omega) (by rw [e3]; omega)) hg (by omega) ?_
    rw [nu_ne1 (by omega), e4]
    omega
  · exact Wx_g (Wx_g (Wx_post X (by omega) hm) hg (by omega) (by omega)) hg (by omega) (by omega)
  · exact Wb_nu (Wb_nu (Wb_post hB2 (by omega) hm (by omega) (by omega) (by omega) (by omega) (by omega)) (by omega)) (by omega)
set_option maxRecDepth 16384 in
theorem Wf_innSeeks {B : Nat} {w : Nat → Nat} (F : Wf B w) {g : Nat} (hg : g < 12) (h9 : B + 1000 ≤ 1000000000) : Wf (B + 1000) (n_innSeeks w g) := by
  obtain ⟨Z, X, hB⟩ := id F
  unfold n_innSeeks
  split
  · exact ⟨Z, X, Wb_up hB (by omega) h9⟩
  · next c =>
    obtain ⟨d, hd⟩ : ∃ d, n_choice w g = d + 1 := ⟨n_choice w g - 1, by omega⟩
    have hc := n_choice_le Z hg
    rw [hd, Nat.add_sub_cancel]
    have hm := Z.2.2.1.2
    have hn := Z.2.2.2
    unfold WzN at hn
    have b4 := hB.2 554
    have b6 := hB.2 556
    have Z1 := Wz_r (r := d) (s := 1) (u := w 554 + w 556) (g := g) Z (by omega) (by omega) (by omega) hg (fun _ r' hr' h1 h2 => by
      have := n_choice_off Z hr' ⟨h1, h2⟩
      omega)
    have m2 : nu (n_settle w d 1 (w 554 + w 556)) (96 + 6 * d + 2) g 552 = w 552 := by rw [nu_ne1 (by omega), n_settle_at (by omega) (by omega)]
    have m3 : nu (n_settle w d 1 (w 554 + w 556)) (96 + 6 * d + 2) g 553 = w 553 := by rw [nu_ne1 (by omega), n_settle_at (by omega) (by omega)]
    refine ⟨Wz_post Z1 (by omega) hg (by omega) (by omega) (by omega), Wx_post (Wx_o (Wx_settle X (by omega) (by omega)) (by omega)) (by omega) (by rw [m2]; exact hm), ?_⟩
    have hB2 := Wb_up hB (B' := B + 999) (by omega) (by omega)
    exact Wb_post (Wb_nu (Wb_settle hB2 (by omega) (by omega)) (by omega)) h9 (by rw [m2]; exact hm) (by omega) (by omega) (by omega) (by omega) (by omega)
set_option maxRecDepth 16384 in
theorem Wf_innWants {B : Nat} {w : Nat → Nat} (F : Wf B w) {g r m : Nat} (hg : g < 12) (hr : r < 16) (hmm : m ≤ w 553) (h9 : B + 1000 ≤ 1000000000) : Wf (B + 1000) (n_innWants w g r m) := by
  obtain ⟨Z, X, hB⟩ := id F
  have hm := Z.2.2.1.2
  have hn := Z.2.2.2
  unfold WzN at hn
  have b3 := hB.2 553
  have b4 := hB.2 554
  have b6 := hB.2 560
  have zr := Z.2.1.1 r hr
  have hB2 := Wb_up hB (B' := B + 999) (by omega) (by omega)
  unfold n_innWants
  split
  · exact ⟨Wz_post Z (by omega) hg hr (by omega) (by omega), Wx_post X (by omega) hm, Wb_post hB2 h9 hm (by omega) (by omega) (by omega) (by omega) (by omega)⟩
  · obtain ⟨u, hu⟩ : ∃ u, u = (if n_has w r 2 g ∧ w 554 + w 555 < w (96 + 6 * r + 1) then w (96 + 6 * r + 1) else w 554 + w 555) := ⟨_, rfl⟩
    rw [← hu]
    have hu1 : u ≤ w 554 + 200 ∧ w 554 < u := by split at hu <;> omega
    have S : ∀ i, i ≠ 96 + 6 * r → i ≠ 96 + 6 * r + 1 → i ≠ 8 * g + 7 → i ≠ 560 → nu (nu (n_settle w r 2 u) (8 * g + 7) (r + 1)) 560 (w 560 + 1) i = w i := fun i h1 h2 h3 h4 => by rw [nu_ne1 h4, nu_ne1 h3, n_settle_at h1 h2]
    have S2 := S 552 (by omega) (by omega) (by omega) (by omega)
    have S3 := S 553 (by omega) (by omega) (by omega) (by omega)
    have Z1 := Wz_c (k := 560) (x := w 560 + 1) (Wz_g (g := g) (j := 7) (x := r + 1) (Wz_settle Z (u := u) hr (s := 2) (by omega) (by omega) (by omega)) hg (by omega) (by omega)) (by omega)
    have X1 := Wx_o (k := 560) (x := w 560 + 1) (Wx_g (g := g) (j := 7) (x := r + 1) (Wx_settle X (u := u) hr (s := 2) (by omega)) hg (by omega) (by omega)) (by omega)
    have B1 : Wb (B + 999) (nu (nu (n_settle w r 2 u) (8 * g + 7) (r + 1)) 560 (w 560 + 1)) := Wb_nu (Wb_nu (Wb_settle hB2 (by omega) (by omega)) (by omega)) (by omega)
    have P3 := n_post_no (w := nu (nu (n_settle w r 2 u) (8 * g + 7) (r + 1)) 560 (w 560 + 1)) (k := 3) (g := g) (r := r) (a := m) (t := w 555) (by omega) (by rw [S2]; exact hm)
    refine ⟨Wz_y (Wz_post Z1 (by omega) hg hr (by rw [S3]; omega) (by omega)) hr (by rw [P3, S3]; omega), Wx_o (Wx_post X1 (by omega) (by rw [S2]; exact hm)) (by omega), Wb_nu (Wb_post B1 h9 (by rw [S2]; exact hm) (by omega) (by omega) (by omega) (by omega) (by omega)) (by omega)⟩
set_option maxRecDepth 16384 in
theorem Wf_innEnds {B : Nat} {w : Nat → Nat} (F : Wf B w) {k g r m : Nat} (hr : r < 16) (h9 : B + 1000 ≤ 1000000000) : Wf (B + 1000) (n_innEnds w k g r m) := by
  obtain ⟨Z, X, hB⟩ := id F
  have hn := Z.2.2.2
  unfold WzN at hn
  have b4 := hB.2 554
  have b6 := hB.2 562
  have hB2 := Wb_up hB (B' := B + 1000) (by omega) (by omega)
  unfold n_innEnds
  split
  · exact ⟨Z, X, Wb_up hB (by omega) h9⟩
  · refine ⟨Wz_c (Wz_settle Z hr (by split <;> omega) (by omega) (by split <;> omega)) (by omega), Wx_o (Wx_settle X hr (by omega)) (by omega), Wb_nu (Wb_settle hB2 (by split <;> omega) (by omega)) (by split <;> omega)⟩
set_option maxRecDepth 16384 in
theorem Wf_guestYes {B : Nat} {w : Nat → Nat} (F : Wf B w) {g r t : Nat} (hg : g < 12) (hr : r < 16) (ht : t ≤ 200) (h9 : B + 1000 ≤ 1000000000) : Wf (B + 1000) (n_guestYes w g r t) := by
  obtain ⟨Z, X, hB⟩ := id F
  have hm := Z.2.2.1.2
  have b4 := hB.2 (8 * g + 5)
  have b6 := hB.2 (8 * g + 6)
  have zg := Z.1 g hg
  have hB2 := Wb_up hB (B' := B + 1000) (by omega) (by omega)
  have hB3 := Wb_up hB (B' := B + 999) (by omega) (by omega)
  unfold n_guestYes
  split
  · exact ⟨Wz_g (j := 0) Z hg (by omega) (by omega), Wx_g (j := 0) X hg (by omega) (by omega), Wb_nu hB2 (by omega)⟩
  · next c1 =>
    split
    · exact ⟨Wz_g (j := 0) (Wz_post Z (by omega) hg hr (by omega) (by omega)) hg (by omega) (by omega), Wx_g (j := 0) (Wx_post X (by omega) hm) hg (by omega) (by omega), Wb_nu (Wb_post hB3 h9 hm (by omega) (by omega) (by omega) (by omega) (by omega)) (by omega)⟩
    · refine ⟨?_, ?_, ?_⟩
      · refine Wz_g (j := 3) (Wz_g (j := 2) (Wz_g (j := 0) (Wz_g (j := 6) Z hg (by omega) (by omega)) hg (by omega) (by omega)) hg (by omega) ?_) hg (by omega) (by omega)
        rw [nu_ne1 (by omega), nu_ne1 (by omega)]
        omega
      · refine ⟨fun g' hg' => ?_, fun r' hr' => ?_⟩
        · by_cases c : g' = g
          · subst c
            intro _
            rw [nu_ne1 (show (554 : Nat) ≠ _ by omega), nu_ne1 (show (554 : Nat) ≠ _ by omega), nu_ne1 (show (554 : Nat) ≠ _ by omega), nu_ne1 (show (554 : Nat) ≠ _ by omega), nu_ne1 (show 8 * g' + 2 ≠ 8 * g' + 3 by omega), nu_eq1 (show 8 * g' + 2 = 8 * g' + 2 by rfl), nu_eq1 (show 8 * g' + 3 = 8 * g' + 3 by rfl)]
            omega
          · rw [nu_ne1 (by omega), nu_ne1 (by omega), nu_ne1 (by omega), nu_ne1 (by omega), nu_ne1 (by omega), nu_ne1 (by omega), nu_ne1 (by omega), nu_ne1 (by omega), nu_ne1 (by omega), nu_ne1 (by omega), nu_ne1 (by omega), nu_ne1 (by omega), nu_ne1 (by omega), nu_ne1 (by omega), nu_ne1 (by omega), nu_ne1 (by omega)]
            exact X.1 g' hg'
        · rw [nu_ne1 (by omega), nu_ne1 (by omega), nu_ne1 (by omega), nu_ne1 (by omega), nu_ne1 (by omega), nu_ne1 (by omega), nu_ne1 (by omega), nu_ne1 (by omega), nu_ne1 (by omega), nu_ne1 (by omega), nu_ne1 (by omega), nu_ne1 (by omega)]
          exact X.2 r' hr'
      · exact Wb_nu (Wb_nu (Wb_nu (Wb_nu hB2 (by split <;> omega)) (by omega)) (by omega)) (by omega)
set_option maxRecDepth 16384 in
theorem Wf_act {B : Nat} {w : Nat → Nat} (F : Wf B w) {k g r m a t : Nat} (hg : g < 12) (hr : r < 16) (hm : m ≤ w 553) (ht : t ≤ 200) (h9 : B + 1000 ≤ 1000000000) : Wf (B + 1000) (n_act w k g r m a t) := by
  have F1 : Wf (B + 1000) w := ⟨F.1, F.2.1, Wb_up F.2.2 (by omega) h9⟩
  unfold n_act
  split
  · exact Wf_innSeeks F hg h9
  · split
    · split
      · have F2 : Wf (B + 16) (nu (nu w (8 * g) 2) (8 * g + 1) r) := ⟨Wz_g (j := 1) (Wz_g (j := 0) F.1 hg (by omega) (by omega)) hg (by omega) (by omega), Wx_g (j := 1) (Wx_g (j := 0) F.2.1 hg (by omega) (by omega)) hg (by omega) (by omega), Wb_nu (Wb_nu (Wb_up F.2.2 (by omega) (by omega)) (by omega)) (by omega)⟩
        have F3 := Wf_want F2 hg (by omega)
        exact ⟨F3.1, F3.2.1, Wb_up F3.2.2 (by omega) h9⟩
      · exact F1
    · split
      · exact Wf_innWants F hg hr hm h9
      · split
        · split
          · exact Wf_guestYes F hg hr ht h9
          · exact F1
        · split
          · split
            · exact ⟨Wz_g (j := 0) F.1 hg (by omega) (by omega), Wx_g (j := 0) F.2.1 hg (by omega) (by omega), Wb_nu F1.2.2 (by omega)⟩
            · exact F1
          · exact Wf_innEnds F hr h9

set_option maxRecDepth 16384 in
theorem Wf_handle {B : Nat} {w : Nat → Nat} (F : Wf B w) {p : Nat} (hp : p < w 552) (h9 : B + 1001 ≤ 1000000000) : Wf (B + 1001) (n_handle w p) := by
  have hm := F.1.2.2.1.2
  obtain ⟨p0, p1, p2, p3, p4, p5⟩ := F.1.2.2.1.1 p hp
  have F1 : Wf (B + 1) (nu (n_take w p) 559 (w 559 + 1)) := ⟨Wz_gone F.1 hp, Wx_lo F.2.1 (fun i hi => n_gone hm (by omega)) (n_gone hm (by omega)), Wb_gone F.2.2 hm (by omega)⟩
  exact Wf_act F1 p1 p2 (by rw [n_gone hm (by omega)]; exact p3) p5 h9
def n_wt (k : Nat) : Nat := if k = 0 then 5 else if k = 1 then 4 else if k = 2 then 3 else if k = 3 then 2 else 1
def n_pot : (Nat → Nat) → Nat → Nat
  | _, 0 => 0
  | w, p + 1 => n_pot w p + n_wt (w (192 + 6 * p))
set_option maxRecDepth 16384 in
theorem n_wt_le (k : Nat) : 1 ≤ n_wt k ∧ n_wt k ≤ 5 := by
  unfold n_wt
  repeat' split
  all_goals omega
set_option maxRecDepth 16384 in
theorem n_pot_le (w : Nat → Nat) (p : Nat) : p ≤ n_pot w p ∧ n_pot w p ≤ 5 * p := by
  induction p with
  | zero => exact ⟨Nat.le_refl _, Nat.le_refl _⟩
  | succ p ih =>
    have := n_wt_le (w (192 + 6 * p))
    unfold n_pot
    omega
set_option maxRecDepth 16384 in
theorem n_pot_congr {w w' : Nat → Nat} : ∀ p, (∀ q, q < p → w' (192 + 6 * q) = w (192 + 6 * q)) → n_pot w' p = n_pot w p := by
  intro p
  induction p with
  | zero => intro _; rfl
  | succ p ih => intro h; unfold n_pot; rw [ih (fun q hq => h q (by omega)), h p (by omega)]
set_option maxRecDepth 16384 in
theorem n_pot_tail {w w' : Nat → Nat} : ∀ p, (∀ q, q < p → w' (192 + 6 * q) = w (192 + 6 * (q + 1))) → n_pot w (p + 1) = n_wt (w 192) + n_pot w' p := by
  intro p
  induction p with
  | zero => intro _; show 0 + n_wt (w 192) = n_wt (w 192) + 0; omega
  | succ p ih =>
    intro h
    have := ih (fun q hq => h q (by omega))
    show n_pot w (p + 1) + n_wt (w (192 + 6 * (p + 1))) = n_wt (w 192) + (n_pot w' p + n_wt (w' (192 + 6 * p)))
    rw [this, h p (by omega)]
    omega
def n_ptot (w : Nat → Nat) : Nat := n_pot w (w 552)
set_option maxRecDepth 16384 in
theorem n_ptot_post {w : Nat → Nat} {k g r a t : Nat} (hk : k < 7) (hm : w 552 ≤ 60) : n_ptot (n_post w k g r a t) ≤ n_ptot w + n_wt k := by
  unfold n_ptot
  rw [n_post_many hk hm]
  have O : ∀ q, q < w 552 → n_post w k g r a t (192 + 6 * q) = w (192 + 6 * q) := fun q hq => n_post_old hk hm hq (j := 0) (by omega)
  split
  · next c => rw [← c, n_pot_congr _ O]; omega
  · next c =>
    show n_pot (n_post w k g r a t) (w 552) + n_wt (n_post w k g r a t (192 + 6 * w 552)) ≤ _
    rw [n_pot_congr _ O, (n_post_new hk (by omega)).1]
    exact Nat.le_refl _
set_option maxRecDepth 16384 in
theorem n_ptot_lo {w w' : Nat → Nat} (h : ∀ i, 192 ≤ i → i ≤ 552 → w' i = w i) (hm : w 552 ≤ 60) : n_ptot w' = n_ptot w := by
  unfold n_ptot
  rw [h 552 (by omega) (by omega)]
  exact n_pot_congr _ (fun q hq => h _ (by omega) (by omega))
set_option maxRecDepth 16384 in
theorem n_ptot_act {w : Nat → Nat} (Z : Wz w) {k g r m a t : Nat} (hk : k ≤ 6) (hg : g < 12) (hr : r < 16) : n_ptot (n_act w k g r m a t) + 1 ≤ n_ptot w + n_wt k := by
  have hm := Z.2.2.1.2
  have hc := n_choice_le Z hg
  have S : ∀ (r s u i : Nat), r < 16 → 192 ≤ i → n_settle w r s u i = w i := fun r s u i h1 h2 => n_settle_at (by omega) (by omega)
  rcases (show k = 0 ∨ k = 1 ∨ k = 2 ∨ k = 3 ∨ k = 4 ∨ k = 5 ∨ k = 6 by omega) with rfl | rfl | rfl | rfl | rfl | rfl | rfl
  · show n_ptot (n_innSeeks w g) + 1 ≤ n_ptot w + 5
    unfold n_innSeeks
    split
    · omega
    · next c =>
      obtain ⟨d, hd⟩ : ∃ d, n_choice w g = d + 1 := ⟨n_choice w g - 1, by omega⟩
      rw [hd, Nat.add_sub_cancel]
      have E : ∀ i, 192 ≤ i → nu (n_settle w d 1 (w 554 + w 556)) (96 + 6 * d + 2) g i = w i := fun i hi => by rw [nu_ne1 (by omega), S _ _ _ _ (by omega) hi]
      have h1 := n_ptot_post (w := nu (n_settle w d 1 (w 554 + w 556)) (96 + 6 * d + 2) g) (k := 1) (g := g) (r := d) (a := 0) (t := 0) (by omega) (by rw [E _ (by omega)]; exact hm)
      rw [n_ptot_lo (fun i h1 h2 => E i h1) hm] at h1
      have : n_wt 1 = 4 := rfl
      omega
  · show n_ptot (if w (8 * g) = 1 then n_want (nu (nu w (8 * g) 2) (8 * g + 1) r) g else w) + 1 ≤ n_ptot w + 4
    split
    · unfold n_want
      have E : ∀ i, 192 ≤ i → nu (nu w (8 * g) 2) (8 * g + 1) r i = w i := fun i hi => by rw [nu_ne1 (by omega), nu_ne1 (by omega)]
      have hm2 : nu (nu w (8 * g) 2) (8 * g + 1) r 552 ≤ 60 := by rw [E _ (by omega)]; exact hm
      have h1 := n_ptot_post (w := nu (nu w (8 * g) 2) (8 * g + 1) r) (k := 2) (g := g) (r := nu (nu w (8 * g) 2) (8 * g + 1) r (8 * g + 1)) (a := 0) (t := 0) (by omega) hm2
      rw [n_ptot_lo (fun i h1 h2 => E i h1) hm] at h1
      have e5 : n_post (nu (nu w (8 * g) 2) (8 * g + 1) r) 2 g (nu (nu w (8 * g) 2) (8 * g + 1) r (8 * g + 1)) 0 0 552 ≤ 60 := by
        rw [n_post_many (by omega) hm2]; split <;> omega
      rw [n_ptot_lo (w := n_post (nu (nu w (8 * g) 2) (8 * g + 1) r) 2 g (nu (nu w (8 * g) 2) (8 * g + 1) r (8 * g + 1)) 0 0) (fun i h1 h2 => by rw [nu_ne1 (by omega), nu_ne1 (by omega)]) e5]
      have : n_wt 2 = 3 := rfl
      omega
    · omega
  · show n_ptot (n_innWants w g r m) + 1 ≤ n_ptot w + 3
    unfold n_innWants
    split
    · have h1 := n_ptot_post (w := w) (k := 4) (g := g) (r := r) (a := m) (t := 0) (by omega) hm
      have : n_wt 4 = 1 := rfl
      omega
    · obtain ⟨u, hu⟩ : ∃ u, u = (if n_has w r 2 g ∧ w 554 + w 555 < w (96 + 6 * r + 1) then w (96 + 6 * r + 1) else w 554 + w 555) := ⟨_, rfl⟩
      rw [← hu]
      have E : ∀ i, 192 ≤ i → i ≤ 552 → nu (nu (n_settle w r 2 u) (8 * g + 7) (r + 1)) 560 (w 560 + 1) i = w i := fun i hi h2 => by rw [nu_ne1 (by omega), nu_ne1 (by omega), S _ _ _ _ hr hi]
      have hm2 : nu (nu (n_settle w r 2 u) (8 * g + 7) (r + 1)) 560 (w 560 + 1) 552 ≤ 60 := by rw [E _ (by omega) (by omega)]; exact hm
      have h1 := n_ptot_post (w := nu (nu (n_settle w r 2 u) (8 * g + 7) (r + 1)) 560 (w 560 + 1)) (k := 3) (g := g) (r := r) (a := m) (t := w 555) (by omega) hm2
      rw [n_ptot_lo E hm] at h1
      have e5 : n_post (nu (nu (n_settle w r 2 u) (8 * g + 7) (r + 1)) 560 (w 560 + 1)) 3 g r m (w 555) 552 ≤ 60 := by
        rw [n_post_many (by omega) hm2]; split <;> omega
      rw [n_ptot_lo (w := n_post (nu (nu (n_settle w r 2 u) (8 * g + 7) (r + 1)) 560 (w 560 + 1)) 3 g r m (w 555)) (fun i h1 h2 => by rw [nu_ne1 (by omega)]) e5]
      have : n_wt 3 = 2 := rfl
      omega
  · show n_ptot (if n_heeds w g r a then n_guestYes w g r t else w) + 1 ≤ n_ptot w + 2
    split
    · unfold n_guestYes
      split
      · rw [n_ptot_lo (fun i h1 h2 => by rw [nu_ne1 (by omega)]) hm]; omega
      · split
        · have h1 := n_ptot_post (w := w) (k := 5) (g := g) (r := r) (a := 0) (t := 0) (by omega) hm
          have e5 : n_post w 5 g r 0 0 552 ≤ 60 := by
            rw [n_post_many (by omega) hm]; split <;> omega
          rw [n_ptot_lo (w := n_post w 5 g r 0 0) (fun i h1 h2 => by rw [nu_ne1 (by omega)]) e5]
          have : n_wt 5 = 1 := rfl
          omega
        · rw [n_ptot_lo (w := w) (fun i h1 h2 => by rw [nu_ne1 (by omega), nu_ne1 (by omega), nu_ne1 (by omega), nu_ne1 (by omega)]) hm]; omega
    · omega
  · show n_ptot (if n_heeds w g r a then nu w (8 * g) 0 else w) + 1 ≤ n_ptot w + 1
    split
    · rw [n_ptot_lo (fun i h1 h2 => by rw [nu_ne1 (by omega)]) hm]; omega
    · omega
  · show n_ptot (n_innEnds w 5 g r m) + 1 ≤ n_ptot w + 1
    unfold n_innEnds
    split
    · omega
    · rw [n_ptot_lo (w := w) (fun i h1 h2 => by rw [nu_ne1 (by omega), S _ _ _ _ hr h1]) hm]; omega
  · show n_ptot (n_innEnds w 6 g r m) + 1 ≤ n_ptot w + 1
    unfold n_innEnds
    split
    · omega
    · rw [n_ptot_lo (w := w) (fun i h1 h2 => by rw [nu_ne1 (by omega), S _ _ _ _ hr h1]) hm]; omega
set_option maxRecDepth 16384 in
theorem n_ptot_handle {w : Nat → Nat} (Z : Wz w) (h : 0 < w 552) : n_ptot (n_handle w 0) + 1 ≤ n_ptot w := by
  have hm := Z.2.2.1.2
  obtain ⟨p0, p1, p2, p3, p4, p5⟩ := Z.2.2.1.1 0 h
  have h1 := n_ptot_act (m := w (192 + 6 * 0 + 3)) (a := w (192 + 6 * 0 + 4)) (t := w (192 + 6 * 0 + 5)) (Wz_gone Z h) p0 p1 p2
  have e2 : nu (n_take w 0) 559 (w 559 + 1) 552 = w 552 - 1 := by rw [nu_ne1 (by omega), n_take_at w 0 _ hm, if_pos rfl]
  have h2 : n_ptot w = n_wt (w 192) + n_ptot (nu (n_take w 0) 559 (w 559 + 1)) := by
    unfold n_ptot
    rw [e2]
    obtain ⟨d, hd⟩ : ∃ d, w 552 = d + 1 := ⟨w 552 - 1, by omega⟩
    rw [hd, Nat.add_sub_cancel]
    refine n_pot_tail d (fun q hq => ?_)
    rw [nu_ne1 (by omega), n_take_at w 0 _ hm, if_neg (by omega), if_pos (by omega)]
    congr 1
  unfold n_handle
  rw [h2]
  have e0 : w (192 + 6 * 0) = w 192 := rfl
  rw [← e0]
  omega
def n_all : Nat → (Nat → Nat) → Nat × (Nat → Nat)
  | 0, w => (0, w)
  | d + 1, w => if w 552 = 0 then (0, w) else ((n_all d (n_handle w 0)).1 + 1, (n_all d (n_handle w 0)).2)
set_option maxRecDepth 16384 in
theorem n_ptot_le {w : Nat → Nat} (hm : w 552 ≤ 60) : n_ptot w ≤ 300 := by
  have := (n_pot_le w (w 552)).2
  unfold n_ptot
  omega
def n_each (w : Nat → Nat) : Nat × (Nat → Nat) := n_all 300 w
def Wm (B : Nat) (w : Nat → Nat) : Prop := Wz w ∧ Wb B w
set_option maxRecDepth 16384 in
theorem Wm.t {B : Nat} {w : Nat → Nat} (h : Wm B w) (h9 : B + 200 ≤ 1000000000) : Wt (B + 200) w := by
  obtain ⟨Z, hB⟩ := h
  refine ⟨h9, fun g hg => ?_, fun r hr => ?_, Z.2.2.1.2, by have := hB.2 554; omega⟩
  · have := Z.1 g hg; omega
  · have := Z.2.1.1 r hr
    have := hB.2 (96 + 6 * r + 1)
    omega
set_option maxRecDepth 16384 in
theorem Wm_want {B : Nat} {w : Nat → Nat} (F : Wm B w) {g : Nat} (hg : g < 12) (h9 : B + 500 ≤ 1000000000) : Wm (B + 500) (n_want w g) := by
  obtain ⟨Z, hB⟩ := F
  have hm := Z.2.2.1.2
  have zg := Z.1 g hg
  have e3 := n_post_no (w := w) (k := 2) (g := g) (r := w (8 * g + 1)) (a := 0) (t := 0) (by omega) hm
  have e4 := n_post_hi (w := w) (k := 2) (g := g) (r := w (8 * g + 1)) (a := 0) (t := 0) (by omega) hm (i := 554) (by omega) (by omega) (by omega)
  have b3 := hB.2 553
  have b4 := hB.2 554
  have hB2 := Wb_up hB (B' := B + 499) (by omega) (by omega)
  unfold n_want
  refine ⟨?_, ?_⟩
  · refine Wz_g (Wz_g (Wz_post Z (by omega) hg zg.2.1 (by omega) (by omega)) hg (by omega) (by rw [e3]; omega)) hg (by omega) ?_
    rw [nu_ne1 (by omega), e4]
    omega
  · exact Wb_nu (Wb_nu (Wb_post hB2 (by omega) hm (by omega) (by omega) (by omega) (by omega) (by omega)) (by omega)) (by omega)
set_option maxRecDepth 16384 in
theorem Wm_out {B : Nat} {w : Nat → Nat} (F : Wm B w) {g : Nat} (hg : g < 12) (h9 : B + 500 ≤ 1000000000) : Wm (B + 500) (nu (nu w (8 * g) 0) 561 (w 561 + 1)) := by
  have b := F.2.2 561
  exact ⟨Wz_c (Wz_g (j := 0) F.1 hg (by omega) (by omega)) (by omega), Wb_nu (Wb_nu (Wb_up F.2 (by omega) h9) (by omega)) (by omega)⟩
set_option maxRecDepth 16384 in
theorem n_guests_in : ∀ (d B : Nat) (w : Nat → Nat), Wm B w → d ≤ 12 → B + d * 500 ≤ 1000000000 → (∀ g, g < 12 - d → w (8 * g) = 3 → w 554 < w (8 * g + 2) + w (8 * g + 3)) → (∀ r, r < 16 → w (96 + 6 * r) ≠ 0 → w 554 < w (96 + 6 * r + 1)) → Wf (B + d * 500) (n_guests d w).2 ∧ (n_guests d w).2 554 = w 554 ∧ (n_guests d w).1 ≤ d := by
  intro d
  induction d with
  | zero => intro B w F hd h9 hx hr; exact ⟨⟨F.1, ⟨hx, hr⟩, by rw [Nat.zero_mul]; exact F.2⟩, rfl, Nat.le_refl _⟩
  | succ d ih =>
    intro B w F hd h9 hx hr
    rw [n_guests]
    have hm := F.1.2.2.1.2
    have hg : 11 - d < 12 := by omega
    have A : B + (d + 1) * 500 = B + 500 + d * 500 := by omega
    split
    · next c =>
      have I := ih (B + 500) _ (Wm_out F hg (by omega)) (by omega) (by omega) (fun g' hg' => ?_) (fun r' hr' => ?_)
      · refine ⟨by rw [A]; exact I.1, ?_, by have := I.2.2; show _ + 1 ≤ d + 1; omega⟩
        have := I.2.1
        rw [nu_ne1 (by omega), nu_ne1 (by omega)] at this
        exact this
      · by_cases e : g' = 11 - d
        · rw [nu_ne1 (show 8 * g' ≠ 561 by omega), nu_eq1 (show 8 * g' = 8 * (11 - d) by omega)]
          intro h3; omega
        · rw [nu_ne1 (by omega), nu_ne1 (by omega), nu_ne1 (by omega), nu_ne1 (by omega), nu_ne1 (by omega), nu_ne1 (by omega), nu_ne1 (by omega), nu_ne1 (by omega)]
          exact hx g' (by omega)
      · rw [nu_ne1 (by omega), nu_ne1 (by omega), nu_ne1 (by omega), nu_ne1 (by omega), nu_ne1 (by omega), nu_ne1 (by omega)]
        exact hr r' hr'
    · next c =>
      have hx' : ∀ g', g' < 12 - d → w (8 * g') = 3 → w 554 < w (8 * g' + 2) + w (8 * g' + 3) := by
        intro g' hg' h3
        by_cases e : g' = 11 - d
        · subst e
          have : ¬ (w (8 * (11 - d) + 2) + w (8 * (11 - d) + 3) ≤ w 554) := fun h => c ⟨h3, h⟩
          omega
        · exact hx g' (by omega) h3
      split
      · have W := fun i h h4 h5 => n_want_at (w := w) hg hm (i := i) h h4 h5
        have I := ih (B + 500) _ (Wm_want F hg (by omega)) (by omega) (by omega) (fun g' hg' => ?_) (fun r' hr' => ?_)
        · refine ⟨by rw [A]; exact I.1, ?_, by have := I.2.2; omega⟩
          rw [I.2.1, W _ (by omega) (by omega) (by omega)]
        · rw [W _ (by omega) (by omega) (by omega), W _ (by omega) (by omega) (by omega), W _ (by omega) (by omega) (by omega), W _ (by omega) (by omega) (by omega)]
          exact hx' g' hg'
        · rw [W _ (by omega) (by omega) (by omega), W _ (by omega) (by omega) (by omega), W _ (by omega) (by omega) (by omega)]
          exact hr r' hr'
      · have I := ih B w F (by omega) (by omega) hx' hr
        exact ⟨⟨I.1.1, I.1.2.1, Wb_up I.1.2.2 (by omega) (by omega)⟩, I.2.1, by have := I.2.2; omega⟩
set_option maxRecDepth 16384 in
theorem Wm_room {B : Nat} {w : Nat → Nat} (F : Wm B w) {r : Nat} (hr : r < 16) : Wm B (nu w (96 + 6 * r) 0) := by
  have h := Wz_settle (r := r) (s := 0) (u := w (96 + 6 * r + 1)) F.1 hr (by omega) (F.1.2.1.1 r hr).2.1 (by omega)
  unfold n_settle at h
  rw [nu_self (by rw [nu_ne1 (by omega)])] at h
  exact ⟨h, Wb_nu F.2 (by omega)⟩
set_option maxRecDepth 16384 in
theorem n_rooms_in : ∀ (d B : Nat) (w : Nat → Nat), Wm B w → d ≤ 16 → (∀ r, r < 16 - d → w (96 + 6 * r) ≠ 0 → w 554 < w (96 + 6 * r + 1)) → Wm B (n_rooms d w) ∧ (∀ r, r < 16 → n_rooms d w (96 + 6 * r) ≠ 0 → w 554 < n_rooms d w (96 + 6 * r + 1)) ∧ ∀ i, (i < 96 ∨ 192 ≤ i) → n_rooms d w i = w i := by
  intro d
  induction d with
  | zero => intro B w F hd hx; exact ⟨F, hx, fun _ _ => rfl⟩
  | succ d ih =>
    intro B w F hd hx
    rw [n_rooms]
    have hr : 15 - d < 16 := by omega
    split
    · next c =>
      have I := ih B _ (Wm_room F hr) (by omega) (fun r' hr' => ?_)
      · refine ⟨I.1, ?_, fun i hi => by rw [I.2.2 i hi, nu_ne1 (by omega)]⟩
        have := I.2.1
        rw [nu_ne1 (show (554 : Nat) ≠ 96 + 6 * (15 - d) by omega)] at this
        exact this
      · rw [nu_ne1 (show (554 : Nat) ≠ 96 + 6 * (15 - d) by omega), nu_ne1 (show 96 + 6 * r' + 1 ≠ 96 + 6 * (15 - d) by omega)]
        unfold nu
        split
        · intro h; exact absurd rfl h
        · exact hx r' (by omega)
    · next c =>
      refine ih B w F (by omega) (fun r' hr' h0 => ?_)
      by_cases e : r' = 15 - d
      · subst e
        have : ¬ (w (96 + 6 * (15 - d) + 1) ≤ w 554) := fun h => c ⟨h0, h⟩
        omega
      · exact hx r' (by omega) h0
set_option maxRecDepth 16384 in
theorem Wm_time {B : Nat} {w : Nat → Nat} (F : Wm B w) (h9 : B + 1 ≤ 1000000000) : Wm (B + 1) (nu w 554 (w 554 + 1)) := by
  obtain ⟨⟨zg, ⟨zr1, zr2, zr3⟩, ⟨zm1, hm⟩, zn⟩, hB⟩ := F
  have b := hB.2 554
  have E : ∀ i, i ≠ 554 → nu w 554 (w 554 + 1) i = w i := fun i hi => nu_ne1 hi
  have e4 : nu w 554 (w 554 + 1) 554 = w 554 + 1 := nu_eq1 rfl
  refine ⟨⟨fun g' hg' => ?_, ⟨fun r' hr' => ?_, fun r1 r2 h1 h2 => ?_, fun r1 r2 h1 h2 => ?_⟩, ⟨fun p hp => ?_, ?_⟩, ?_⟩, Wb_nu (Wb_up hB (by omega) h9) (by omega)⟩
  · rw [e4, E _ (by omega), E _ (by omega), E _ (by omega), E _ (by omega), E _ (by omega), E _ (by omega), E _ (by omega), E _ (by omega)]
    have := zg g' hg'
    omega
  · rw [e4, E _ (by omega), E _ (by omega), E _ (by omega), E _ (by omega), E _ (by omega), E _ (by omega), E _ (by omega)]
    have := zr1 r' hr'
    omega
  · rw [E _ (by omega), E _ (by omega)]
    exact zr2 r1 r2 h1 h2
  · rw [E _ (by omega), E _ (by omega), E _ (by omega), E _ (by omega)]
    exact zr3 r1 r2 h1 h2
  · rw [E 552 (by omega)] at hp
    rw [E _ (by omega), E _ (by omega), E _ (by omega), E _ (by omega), E _ (by omega), E _ (by omega), E _ (by omega)]
    exact zm1 p hp
  · rw [E _ (by omega)]; exact hm
  · unfold WzN
    rw [E _ (by omega), E _ (by omega), E _ (by omega)]
    exact zn
set_option maxRecDepth 16384 in
theorem Wf_tick {B : Nat} {w : Nat → Nat} (F : Wf B w) (h9 : B + 6001 ≤ 1000000000) : Wf (B + 6001) (n_tick w).2 ∧ (n_tick w).1 ≤ 12 := by
  have F1 := Wm_time (B := B) ⟨F.1, F.2.2⟩ (by omega)
  have F2 := n_rooms_in 16 (B + 1) _ F1 (by omega) (fun r hr => by omega)
  have e := F2.2.2 554 (by omega)
  have F3 := n_guests_in 12 (B + 1) _ F2.1 (by omega) (by omega) (fun g hg => by omega) (fun r hr h => by rw [e]; exact F2.2.1 r hr h)
  unfold n_tick
  exact ⟨⟨F3.1.1, F3.1.2.1, Wb_up F3.1.2.2 (by omega) (by omega)⟩, F3.2.2⟩
set_option maxRecDepth 16384 in
theorem Wf_all : ∀ (d B : Nat) (w : Nat → Nat), Wf B w → n_ptot w ≤ d → B + d * 1001 + 1001 ≤ 1000000000 → Wf (B + d * 1001) (n_all d w).2 ∧ (n_all d w).2 552 = 0 ∧ (n_all d w).1 ≤ d := by
  intro d
  induction d with
  | zero =>
    intro B w F hp h9
    have h0 : w 552 = 0 := by
      have := (n_pot_le w (w 552)).1
      unfold n_ptot at hp
      omega
    rw [n_all]
    exact ⟨by rw [Nat.zero_mul]; exact F, h0, Nat.le_refl _⟩
  | succ d ih =>
    intro B w F hp h9
    rw [n_all]
    by_cases h0 : w 552 = 0
    · rw [if_pos h0]
      exact ⟨⟨F.1, F.2.1, Wb_up F.2.2 (by omega) (by omega)⟩, h0, Nat.zero_le _⟩
    · rw [if_neg h0]
      have hp2 := n_ptot_handle F.1 (by omega : 0 < w 552)
      have F1 := Wf_handle F (by omega : 0 < w 552) (by omega)
      have I := ih (B + 1001) (n_handle w 0) F1 (by omega) (by omega)
      refine ⟨?_, I.2.1, Nat.succ_le_succ I.2.2⟩
      rw [show B + (d + 1) * 1001 = B + 1001 + d * 1001 by omega]
      exact I.1
set_option maxRecDepth 16384 in
theorem Wf_each {B : Nat} {w : Nat → Nat} (F : Wf B w) (h9 : B + 400000 ≤ 1000000000) : Wf (B + 301000) (n_each w).2 ∧ (n_each w).2 552 = 0 ∧ (n_each w).1 ≤ 300 := by
  have h := Wf_all 300 B w F (n_ptot_le F.1.2.2.1.2) (by omega)
  exact ⟨⟨h.1.1, h.1.2.1, Wb_up h.1.2.2 (by omega) (by omega)⟩, h.2⟩
set_option maxRecDepth 16384 in
theorem Wf_gos : ∀ (d B : Nat) (w : Nat → Nat), Wf B w → B + d * 6001 + 6001 ≤ 1000000000 → Wf (B + d * 6001) (n_go d w).2 ∧ (n_go d w).1 ≤ 12 * d := by
  intro d
  induction d with
  | zero =>
    intro B w F h9
    rw [n_go]
    exact ⟨by rw [Nat.zero_mul]; exact F, Nat.le_refl _⟩
  | succ d ih =>
    intro B w F h9
    rw [n_go]
    have F1 := Wf_tick F (by omega)
    have I := ih (B + 6001) (n_tick w).2 F1.1 (by omega)
    refine ⟨?_, by have := I.2; have := F1.2; show (n_tick w).1 + (n_go d (n_tick w).2).1 ≤ _; omega⟩
    rw [show B + (d + 1) * 6001 = B + 6001 + d * 6001 by omega]
    exact I.1
set_option maxRecDepth 16384 in
theorem Wf_go {B : Nat} {w : Nat → Nat} (F : Wf B w) {t : Nat} (ht : t ≤ 100) (h9 : B + 700000 ≤ 1000000000) : Wf (B + 600100) (n_go t w).2 ∧ (n_go t w).1 ≤ 1200 := by
  have h := Wf_gos t B w F (by omega)
  exact ⟨⟨h.1.1, h.1.2.1, Wb_up h.1.2.2 (by omega) (by omega)⟩, by have := h.2; omega⟩

