set_option maxRecDepth 16384 in
theorem Wb_nu {B : Nat} {w : Nat → Nat} (hB : Wb B w) {k x : Nat} (hx : x ≤ B) : Wb B (nu w k x) := ⟨hB.1, fun i => by unfold nu; split; exact hx; exact hB.2 i⟩
set_option maxRecDepth 16384 in
theorem Wb_up {B B' : Nat} {w : Nat → Nat} (hB : Wb B w) (h : B ≤ B') (h9 : B' ≤ 1000000000) : Wb B' w := ⟨h9, fun i => Nat.le_trans (hB.2 i) h⟩
section POST
variable {w : Nat → Nat} {k g r a t : Nat}
set_option maxRecDepth 16384 in
theorem n_post_lo (hk : k < 7) (hm : w 552 ≤ 60) {i : Nat} (h : i < 192) : n_post w k g r a t i = w i := by
  unfold n_post
  split <;> (try simp (disch := omega) only [nn_add, nn_mul, nn_clamp, nn_in1, nn_inj, nn_lt, nn_le, nn_neg, nu_eq1, nu_ne1, nn_nb0, nn_true, nn_false, if_true, if_false, x_let_n, x_let_m, xb_some, eq_self, ite_true, ite_false, not_false_eq_true, not_true_eq_false, nneg1, nl0, nl1, nl2, nl3, nl4, nl5, nl6, nl7, nl8, nl9, nl10, nl11, nl12, nl15, nl16, nl60, nl96, nl192, nl552, nl553, nl554, nl555, nl556, nl557, nl558, nl559, nl560, nl561, nl562, nl563, nl570])
set_option maxRecDepth 16384 in
theorem n_post_hi (hk : k < 7) (hm : w 552 ≤ 60) {i : Nat} (h : 553 < i) (h1 : i ≠ 558) (h2 : i ≠ 563 + k) : n_post w k g r a t i = w i := by
  unfold n_post
  split <;> (try simp (disch := omega) only [nn_add, nn_mul, nn_clamp, nn_in1, nn_inj, nn_lt, nn_le, nn_neg, nu_eq1, nu_ne1, nn_nb0, nn_true, nn_false, if_true, if_false, x_let_n, x_let_m, xb_some, eq_self, ite_true, ite_false, not_false_eq_true, not_true_eq_false, nneg1, nl0, nl1, nl2, nl3, nl4, nl5, nl6, nl7, nl8, nl9, nl10, nl11, nl12, nl15, nl16, nl60, nl96, nl192, nl552, nl553, nl554, nl555, nl556, nl557, nl558, nl559, nl560, nl561, nl562, nl563, nl570])
set_option maxRecDepth 16384 in
theorem n_post_no (hk : k < 7) (hm : w 552 ≤ 60) : n_post w k g r a t 553 = w 553 + 1 := by
  unfold n_post
  split <;> (try simp (disch := omega) only [nn_add, nn_mul, nn_clamp, nn_in1, nn_inj, nn_lt, nn_le, nn_neg, nu_eq1, nu_ne1, nn_nb0, nn_true, nn_false, if_true, if_false, x_let_n, x_let_m, xb_some, eq_self, ite_true, ite_false, not_false_eq_true, not_true_eq_false, nneg1, nl0, nl1, nl2, nl3, nl4, nl5, nl6, nl7, nl8, nl9, nl10, nl11, nl12, nl15, nl16, nl60, nl96, nl192, nl552, nl553, nl554, nl555, nl556, nl557, nl558, nl559, nl560, nl561, nl562, nl563, nl570])
set_option maxRecDepth 16384 in
theorem n_post_many (hk : k < 7) (hm : w 552 ≤ 60) : n_post w k g r a t 552 = if w 552 = 60 then 60 else w 552 + 1 := by
  unfold n_post
  split
  · (try simp (disch := omega) only [nn_add, nn_mul, nn_clamp, nn_in1, nn_inj, nn_lt, nn_le, nn_neg, nu_eq1, nu_ne1, nn_nb0, nn_true, nn_false, if_true, if_false, x_let_n, x_let_m, xb_some, eq_self, ite_true, ite_false, not_false_eq_true, not_true_eq_false, nneg1, nl0, nl1, nl2, nl3, nl4, nl5, nl6, nl7, nl8, nl9, nl10, nl11, nl12, nl15, nl16, nl60, nl96, nl192, nl552, nl553, nl554, nl555, nl556, nl557, nl558, nl559, nl560, nl561, nl562, nl563, nl570])
  · (try simp (disch := omega) only [nn_add, nn_mul, nn_clamp, nn_in1, nn_inj, nn_lt, nn_le, nn_neg, nu_eq1, nu_ne1, nn_nb0, nn_true, nn_false, if_true, if_false, x_let_n, x_let_m, xb_some, eq_self, ite_true, ite_false, not_false_eq_true, not_true_eq_false, nneg1, nl0, nl1, nl2, nl3, nl4, nl5, nl6, nl7, nl8, nl9, nl10, nl11, nl12, nl15, nl16, nl60, nl96, nl192, nl552, nl553, nl554, nl555, nl556, nl557, nl558, nl559, nl560, nl561, nl562, nl563, nl570])
set_option maxRecDepth 16384 in
theorem n_post_old (hk : k < 7) (hm : w 552 ≤ 60) {p j : Nat} (hp : p < w 552) (hj : j < 6) : n_post w k g r a t (192 + 6 * p + j) = w (192 + 6 * p + j) := by
  unfold n_post
  split <;> (try simp (disch := omega) only [nn_add, nn_mul, nn_clamp, nn_in1, nn_inj, nn_lt, nn_le, nn_neg, nu_eq1, nu_ne1, nn_nb0, nn_true, nn_false, if_true, if_false, x_let_n, x_let_m, xb_some, eq_self, ite_true, ite_false, not_false_eq_true, not_true_eq_false, nneg1, nl0, nl1, nl2, nl3, nl4, nl5, nl6, nl7, nl8, nl9, nl10, nl11, nl12, nl15, nl16, nl60, nl96, nl192, nl552, nl553, nl554, nl555, nl556, nl557, nl558, nl559, nl560, nl561, nl562, nl563, nl570])
set_option maxRecDepth 16384 in
theorem n_post_new (hk : k < 7) (hm : w 552 < 60) : n_post w k g r a t (192 + 6 * w 552) = k ∧ n_post w k g r a t (192 + 6 * w 552 + 1) = g ∧ n_post w k g r a t (192 + 6 * w 552 + 2) = r ∧ n_post w k g r a t (192 + 6 * w 552 + 3) = w 553 + 1 ∧ n_post w k g r a t (192 + 6 * w 552 + 4) = a ∧ n_post w k g r a t (192 + 6 * w 552 + 5) = t := by
  unfold n_post
  rw [if_neg (by omega)]
  refine ⟨?_, ?_, ?_, ?_, ?_, ?_⟩ <;> (try simp (disch := omega) only [nn_add, nn_mul, nn_clamp, nn_in1, nn_inj, nn_lt, nn_le, nn_neg, nu_eq1, nu_ne1, nn_nb0, nn_true, nn_false, if_true, if_false, x_let_n, x_let_m, xb_some, eq_self, ite_true, ite_false, not_false_eq_true, not_true_eq_false, nneg1, nl0, nl1, nl2, nl3, nl4, nl5, nl6, nl7, nl8, nl9, nl10, nl11, nl12, nl15, nl16, nl60, nl96, nl192, nl552, nl553, nl554, nl555, nl556, nl557, nl558, nl559, nl560, nl561, nl562, nl563, nl570])
set_option maxRecDepth 16384 in
theorem Wb_post {B : Nat} (hB : Wb B w) (h9 : B + 1 ≤ 1000000000) (hm : w 552 ≤ 60) (hk : k ≤ B + 1) (hg : g ≤ B + 1) (hr : r ≤ B + 1) (ha : a ≤ B + 1) (ht : t ≤ B + 1) : Wb (B + 1) (n_post w k g r a t) := by
  have b1 := hB.2 553
  have b2 := hB.2 (563 + k)
  have b3 := hB.2 558
  have b5 := hB.2 552
  have h := Wb_up hB (Nat.le_succ B) h9
  unfold n_post
  split
  · exact Wb_nu (Wb_nu (Wb_nu h (by omega)) (by omega)) (by omega)
  · exact Wb_nu (Wb_nu (Wb_nu (Wb_nu (Wb_nu (Wb_nu (Wb_nu (Wb_nu (Wb_nu h (by omega)) (by omega)) hk) hg) hr) (by omega)) ha) ht) (by omega)
set_option maxRecDepth 16384 in
theorem Wz_post (Z : Wz w) (hk : k < 7) (hg : g < 12) (hr : r < 16) (ha : a ≤ w 553 + 1) (ht : t ≤ 200) : Wz (n_post w k g r a t) := by
  obtain ⟨zg, ⟨zr1, zr2, zr3⟩, ⟨zm1, hm⟩, zn⟩ := Z
  have L := fun i (h : i < 192) => n_post_lo (w := w) (k := k) (g := g) (r := r) (a := a) (t := t) hk hm h
  have e3 := n_post_no (w := w) (k := k) (g := g) (r := r) (a := a) (t := t) hk hm
  have e4 := n_post_hi (w := w) (k := k) (g := g) (r := r) (a := a) (t := t) hk hm (i := 554) (by omega) (by omega) (by omega)
  have e2 := n_post_many (w := w) (k := k) (g := g) (r := r) (a := a) (t := t) hk hm
  refine ⟨fun g' hg' => ?_, ⟨fun r' hr' => ?_, fun r1 r2 h1 h2 => ?_, fun r1 r2 h1 h2 => ?_⟩, ⟨fun p hp => ?_, ?_⟩, ?_⟩
  · rw [e3, e4, L _ (by omega), L _ (by omega), L _ (by omega), L _ (by omega), L _ (by omega), L _ (by omega), L _ (by omega)]
    have := zg g' hg'
    omega
  · rw [e3, e4, L _ (by omega), L _ (by omega), L _ (by omega), L _ (by omega), L _ (by omega), L _ (by omega)]
    have := zr1 r' hr'
    omega
  · rw [L _ (by omega), L _ (by omega)]
    exact zr2 r1 r2 h1 h2
  · rw [L _ (by omega), L _ (by omega), L _ (by omega), L _ (by omega)]
    exact zr3 r1 r2 h1 h2
  · rw [e2] at hp
    by_cases c : p < w 552
    · have O := fun j hj => n_post_old (w := w) (k := k) (g := g) (r := r) (a := a) (t := t) hk hm c (j := j) hj
      have O0 : n_post w k g r a t (192 + 6 * p) = w (192 + 6 * p) := O 0 (by omega)
      rw [O0, O 1 (by omega), O 2 (by omega), O 3 (by omega), O 4 (by omega), O 5 (by omega), e3]
      have := zm1 p c
      omega
    · have h6 : w 552 < 60 := by split at hp <;> omega
      have hpe : p = w 552 := by rw [if_neg (by omega)] at hp; omega
      rw [hpe, (n_post_new hk h6).1, (n_post_new hk h6).2.1, (n_post_new hk h6).2.2.1, (n_post_new hk h6).2.2.2.1, (n_post_new hk h6).2.2.2.2.1, (n_post_new hk h6).2.2.2.2.2, e3]
      omega
  · rw [e2]; split <;> omega
  · unfold WzN
    rw [n_post_hi hk hm (by omega) (by omega) (by omega), n_post_hi hk hm (by omega) (by omega) (by omega), n_post_hi hk hm (by omega) (by omega) (by omega)]
    exact zn
end POST
/- one number of a guest changes -/
set_option maxRecDepth 16384 in
theorem Wz_g {w : Nat → Nat} (Z : Wz w) {g j x : Nat} (hg : g < 12) (hj : j < 8) (hx : (j = 0 → x ≤ 3) ∧ (j = 1 → x < 16) ∧ (j = 2 → x ≤ w 554) ∧ (j = 3 → x ≤ 200) ∧ (j = 4 → x ≤ w 553) ∧ (j = 5 → x ≤ w 554) ∧ (j = 7 → x ≤ 16)) : Wz (nu w (8 * g + j) x) := by
  obtain ⟨zg, ⟨zr1, zr2, zr3⟩, ⟨zm1, hm⟩, zn⟩ := Z
  have E : ∀ i, 96 ≤ i → nu w (8 * g + j) x i = w i := fun i hi => nu_ne1 (by omega)
  refine ⟨fun g' hg' => ?_, ⟨fun r' hr' => ?_, fun r1 r2 h1 h2 => ?_, fun r1 r2 h1 h2 => ?_⟩, ⟨fun p hp => ?_, ?_⟩, ?_⟩
  · rw [E 553 (by omega), E 554 (by omega)]
    have := zg g' hg'
    unfold nu
    refine ⟨?_, ?_, ?_, ?_, ?_, ?_, ?_⟩ <;> split <;> omega
  · rw [E _ (by omega), E _ (by omega), E _ (by omega), E _ (by omega), E _ (by omega), E _ (by omega), E _ (by omega), E _ (by omega)]
    exact zr1 r' hr'
  · rw [E _ (by omega), E _ (by omega)]
    exact zr2 r1 r2 h1 h2
  · rw [E _ (by omega), E _ (by omega), E _ (by omega), E _ (by omega)]
    exact zr3 r1 r2 h1 h2
  · rw [E 552 (by omega)] at hp
    rw [E _ (by omega), E _ (by omega), E _ (by omega), E _ (by omega), E _ (by omega), E _ (by omega), E _ (by omega)]
    exact zm1 p hp
  · rw [E _ (by omega)]; exact hm
  · unfold WzN
    rw [E _ (by omega), E _ (by omega), E _ (by omega)]
    exact zn
/- a count changes -/
set_option maxRecDepth 16384 in
theorem Wz_c {w : Nat → Nat} (Z : Wz w) {k x : Nat} (hk : 558 ≤ k) : Wz (nu w k x) := by
  obtain ⟨zg, ⟨zr1, zr2, zr3⟩, ⟨zm1, hm⟩, zn⟩ := Z
  have E : ∀ i, i < 558 → nu w k x i = w i := fun i hi => nu_ne1 (by omega)
  refine ⟨fun g' hg' => ?_, ⟨fun r' hr' => ?_, fun r1 r2 h1 h2 => ?_, fun r1 r2 h1 h2 => ?_⟩, ⟨fun p hp => ?_, ?_⟩, ?_⟩
  · rw [E _ (by omega), E _ (by omega), E _ (by omega), E _ (by omega), E _ (by omega), E _ (by omega), E _ (by omega), E _ (by omega), E _ (by omega)]
    exact zg g' hg'
  · rw [E _ (by omega), E _ (by omega), E _ (by omega), E _ (by omega), E _ (by omega), E _ (by omega), E _ (by omega), E _ (by omega)]
    exact zr1 r' hr'
  · rw [E _ (by omega), E _ (by omega)]
    exact zr2 r1 r2 h1 h2
  · rw [E _ (by omega), E _ (by omega), E _ (by omega), E _ (by omega)]
    exact zr3 r1 r2 h1 h2
  · rw [E 552 (by omega)] at hp
    rw [E _ (by omega), E _ (by omega), E _ (by omega), E _ (by omega), E _ (by omega), E _ (by omega), E _ (by omega)]
    exact zm1 p hp
  · rw [E _ (by omega)]; exact hm
  · unfold WzN
    rw [E _ (by omega), E _ (by omega), E _ (by omega)]
    exact zn
/- a room's state, end and guest change -/
set_option maxRecDepth 16384 in
theorem Wz_r {w : Nat → Nat} (Z : Wz w) {r s u g : Nat} (hr : r < 16) (hs : s ≤ 3) (hu : u ≤ w 554 + 200) (hg : g < 12) (ho : s = 1 → ∀ r', r' < 16 → w (96 + 6 * r') = 1 → w (96 + 6 * r' + 2) = g → r' = r) : Wz (nu (n_settle w r s u) (96 + 6 * r + 2) g) := by
  obtain ⟨zg, ⟨zr1, zr2, zr3⟩, ⟨zm1, hm⟩, zn⟩ := Z
  unfold n_settle
  have E : ∀ i, (i < 96 ∨ 192 ≤ i) → nu (nu (nu w (96 + 6 * r) s) (96 + 6 * r + 1) u) (96 + 6 * r + 2) g i = w i := fun i hi => by rw [nu_ne1 (by omega), nu_ne1 (by omega), nu_ne1 (by omega)]
  have E3 : ∀ r', nu (nu (nu w (96 + 6 * r) s) (96 + 6 * r + 1) u) (96 + 6 * r + 2) g (96 + 6 * r' + 3) = w (96 + 6 * r' + 3) := fun r' => by rw [nu_ne1 (by omega), nu_ne1 (by omega), nu_ne1 (by omega)]
  have E4 : ∀ r', nu (nu (nu w (96 + 6 * r) s) (96 + 6 * r + 1) u) (96 + 6 * r + 2) g (96 + 6 * r' + 4) = w (96 + 6 * r' + 4) := fun r' => by rw [nu_ne1 (by omega), nu_ne1 (by omega), nu_ne1 (by omega)]
  have E5 : ∀ r', nu (nu (nu w (96 + 6 * r) s) (96 + 6 * r + 1) u) (96 + 6 * r + 2) g (96 + 6 * r' + 5) = w (96 + 6 * r' + 5) := fun r' => by rw [nu_ne1 (by omega), nu_ne1 (by omega), nu_ne1 (by omega)]
  have E0 : ∀ r', nu (nu (nu w (96 + 6 * r) s) (96 + 6 * r + 1) u) (96 + 6 * r + 2) g (96 + 6 * r') = if r' = r then s else w (96 + 6 * r') := fun r' => by
    rw [nu_ne1 (by omega), nu_ne1 (by omega)]
    unfold nu
    by_cases c : r' = r
    · rw [if_pos c, if_pos (by omega)]
    · rw [if_neg c, if_neg (by omega)]
  have E1 : ∀ r', nu (nu (nu w (96 + 6 * r) s) (96 + 6 * r + 1) u) (96 + 6 * r + 2) g (96 + 6 * r' + 1) = if r' = r then u else w (96 + 6 * r' + 1) := fun r' => by
    rw [nu_ne1 (by omega)]
    by_cases c : r' = r
    · rw [if_pos c, nu_eq1 (by omega)]
    · rw [if_neg c, nu_ne1 (by omega), nu_ne1 (by omega)]
  have E2 : ∀ r', nu (nu (nu w (96 + 6 * r) s) (96 + 6 * r + 1) u) (96 + 6 * r + 2) g (96 + 6 * r' + 2) = if r' = r then g else w (96 + 6 * r' + 2) := fun r' => by
    by_cases c : r' = r
    · rw [if_pos c, nu_eq1 (by omega)]
    · rw [if_neg c, nu_ne1 (by omega), nu_ne1 (by omega), nu_ne1 (by omega)]
  refine ⟨fun g' hg' => ?_, ⟨fun r' hr' => ?_, fun r1 r2 h1 h2 => ?_, fun r1 r2 h1 h2 => ?_⟩, ⟨fun p hp => ?_, ?_⟩, ?_⟩
  · rw [E _ (by omega), E _ (by omega), E _ (by omega), E _ (by omega), E _ (by omega), E _ (by omega), E _ (by omega), E _ (by omega), E _ (by omega)]
    exact zg g' hg'
  · rw [E0, E1, E2, E3, E4, E5, E 553 (by omega), E 554 (by omega)]
    have := zr1 r' hr'
    by_cases c : r' = r
    · rw [if_pos c, if_pos c, if_pos c]; omega
    · rw [if_neg c, if_neg c, if_neg c]; omega
  · rw [E4, E4]
    exact zr2 r1 r2 h1 h2
  · rw [E0, E0, E2, E2]
    by_cases c1 : r1 = r <;> by_cases c2 : r2 = r
    · intro _ _ _; omega
    · rw [if_pos c1, if_neg c2, if_pos c1, if_neg c2]
      intro q1 q2 q3
      have := ho q1 r2 h2 q2 q3.symm
      omega
    · rw [if_neg c1, if_pos c2, if_neg c1, if_pos c2]
      intro q1 q2 q3
      have := ho q2 r1 h1 q1 q3
      omega
    · rw [if_neg c1, if_neg c2, if_neg c1, if_neg c2]
      exact zr3 r1 r2 h1 h2
  · rw [E 552 (by omega)] at hp
    rw [E _ (by omega), E _ (by omega), E _ (by omega), E _ (by omega), E _ (by omega), E _ (by omega), E _ (by omega)]
    exact zm1 p hp
  · rw [E _ (by omega)]; exact hm
  · unfold WzN
    rw [E _ (by omega), E _ (by omega), E _ (by omega)]
    exact zn
set_option maxRecDepth 16384 in
theorem nu_self {w : Nat → Nat} {k x : Nat} (h : w k = x) : nu w k x = w := by
  funext i
  unfold nu
  split
  · next e => rw [e, h]
  · rfl
set_option maxRecDepth 16384 in
theorem Wz_settle {w : Nat → Nat} (Z : Wz w) {r s u : Nat} (hr : r < 16) (hs : s ≤ 3) (hu : u ≤ w 554 + 200) (h1 : s ≠ 1) : Wz (n_settle w r s u) := by
  have h := Wz_r (g := w (96 + 6 * r + 2)) Z hr hs hu (Z.2.1.1 r hr).2.2.1 (fun h => absurd h h1)
  rw [nu_self] at h
  · exact h
  · unfold n_settle
    rw [nu_ne1 (by omega), nu_ne1 (by omega)]
/- the number of the latest yes changes -/
set_option maxRecDepth 16384 in
theorem Wz_y {w : Nat → Nat} (Z : Wz w) {r x : Nat} (hr : r < 16) (hx : x ≤ w 553) : Wz (nu w (96 + 6 * r + 3) x) := by
  obtain ⟨zg, ⟨zr1, zr2, zr3⟩, ⟨zm1, hm⟩, zn⟩ := Z
  have E : ∀ i, (i < 96 ∨ 192 ≤ i) → nu w (96 + 6 * r + 3) x i = w i := fun i hi => nu_ne1 (by omega)
  have F : ∀ r' j, j < 6 → j ≠ 3 → nu w (96 + 6 * r + 3) x (96 + 6 * r' + j) = w (96 + 6 * r' + j) := fun r' j h1 h2 => nu_ne1 (by omega)
  have F0 : ∀ r', nu w (96 + 6 * r + 3) x (96 + 6 * r') = w (96 + 6 * r') := fun r' => F r' 0 (by omega) (by omega)
  refine ⟨fun g' hg' => ?_, ⟨fun r' hr' => ?_, fun r1 r2 h1 h2 => ?_, fun r1 r2 h1 h2 => ?_⟩, ⟨fun p hp => ?_, ?_⟩, ?_⟩
  · rw [E _ (by omega), E _ (by omega), E _ (by omega), E _ (by omega), E _ (by omega), E _ (by omega), E _ (by omega), E _ (by omega), E _ (by omega)]
    exact zg g' hg'
  · rw [F0, F r' 1 (by omega) (by omega), F r' 2 (by omega) (by omega), F r' 4 (by omega) (by omega), F r' 5 (by omega) (by omega), E 553 (by omega), E 554 (by omega)]
    have := zr1 r' hr'
    refine ⟨this.1, this.2.1, this.2.2.1, ?_, this.2.2.2.2⟩
    unfold nu
    split <;> omega
  · rw [F r1 4 (by omega) (by omega), F r2 4 (by omega) (by omega)]
    exact zr2 r1 r2 h1 h2
  · rw [F0, F0, F r1 2 (by omega) (by omega), F r2 2 (by omega) (by omega)]
    exact zr3 r1 r2 h1 h2
  · rw [E 552 (by omega)] at hp
    rw [E _ (by omega), E _ (by omega), E _ (by omega), E _ (by omega), E _ (by omega), E _ (by omega), E _ (by omega)]
    exact zm1 p hp
  · rw [E _ (by omega)]; exact hm
  · unfold WzN
    rw [E _ (by omega), E _ (by omega), E _ (by omega)]
    exact zn
