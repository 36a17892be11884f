/-! ===== .. and what keeps it: each call's rows ===== -/
set_option maxRecDepth 16384 in
theorem nu_out {w : Nat → Nat} {j k x y : Nat} (h : j < 192) (hk : 192 ≤ k) : nu (nu w j y) k x = nu (nu w k x) j y := by
  funext i
  unfold nu
  by_cases c : i = k
  · rw [if_pos c, if_neg (by omega), if_pos c]
  · rw [if_neg c]
    by_cases d : i = j
    · rw [if_pos d, if_pos d]
    · rw [if_neg d, if_neg d, if_neg c]
set_option maxRecDepth 16384 in
theorem n_post_nu {w : Nat → Nat} {k g r a t j y : Nat} (h : j < 192) : n_post (nu w j y) k g r a t = nu (n_post w k g r a t) j y := by
  unfold n_post
  rw [nu_ne1 (w := w) (k := j) (x := y) (j := 552) (by omega)]
  by_cases c : w 552 = 60
  · rw [if_pos c, if_pos c]
    (try simp (disch := omega) only [nn_add, nn_mul, nn_clamp, nn_in1, nn_inj, nn_lt, nn_le, nn_neg, nu_eq1, nu_ne1, nn_nb0, nn_true, nn_false, if_true, if_false, x_let_n, x_let_m, xb_some, eq_self, ite_true, ite_false, not_false_eq_true, not_true_eq_false, nneg1, nl0, nl1, nl2, nl3, nl4, nl5, nl6, nl7, nl8, nl9, nl10, nl11, nl12, nl15, nl16, nl60, nl96, nl192, nl552, nl553, nl554, nl555, nl556, nl557, nl558, nl559, nl560, nl561, nl562, nl563, nl570])
    rw [nu_out h (by omega), nu_out h (by omega), nu_out h (by omega)]
  · rw [if_neg c, if_neg c]
    (try simp (disch := omega) only [nn_add, nn_mul, nn_clamp, nn_in1, nn_inj, nn_lt, nn_le, nn_neg, nu_eq1, nu_ne1, nn_nb0, nn_true, nn_false, if_true, if_false, x_let_n, x_let_m, xb_some, eq_self, ite_true, ite_false, not_false_eq_true, not_true_eq_false, nneg1, nl0, nl1, nl2, nl3, nl4, nl5, nl6, nl7, nl8, nl9, nl10, nl11, nl12, nl15, nl16, nl60, nl96, nl192, nl552, nl553, nl554, nl555, nl556, nl557, nl558, nl559, nl560, nl561, nl562, nl563, nl570])
    rw [nu_out h (by omega), nu_out h (by omega), nu_out h (by omega), nu_out h (by omega), nu_out h (by omega), nu_out h (by omega), nu_out h (by omega), nu_out h (by omega), nu_out h (by omega)]
section KB
variable {w w' : Nat → Nat} {g r e k a t : Nat}
set_option maxRecDepth 16384 in
theorem Wk_of (Z : Wy w) (h : Wk w) (e1 : ∀ i, (i < 96 ∧ i % 8 ≠ 7) ∨ (96 ≤ i ∧ i < 192 ∧ i % 6 ≤ 3) ∨ (192 ≤ i ∧ i ≤ 554) ∨ (558 ≤ i ∧ i ≤ 560) ∨ (563 ≤ i ∧ i ≤ 569) → w' i = w i) : Wk w' := by
  refine ⟨WvQ_mono (WvQ_same Z h.1 (fun i h1 h2 => e1 i (by omega)) (fun i h1 h2 => e1 i (by omega))) (fun g r e q => ?_), Ws_of h.2.1 (fun i hi => e1 i (by omega)), Wc_of h.2.2 (fun g hg h3 => ?_)⟩
  · exact Gv_same Z.1 q (fun i h1 h2 h3 => e1 i (by omega)) (fun i h1 h2 => e1 i (by omega)) (by rw [e1 554 (by omega)]; omega)
  · rw [e1 _ (by omega)] at h3
    exact ⟨h3, by rw [e1 _ (by omega)]; omega⟩
/- one guest changes, nothing else but counts -/
set_option maxRecDepth 16384 in
theorem Wv_guest (Z : Wy w) (h : Wv w) (hg : g < 12) (e1 : ∀ i, i < 8 * g ∨ (8 * g + 8 ≤ i ∧ i ≤ 552) → w' i = w i) (et : w' 554 = w 554)
    (h3 : w' (8 * g) = 3 → Gv w g (w' (8 * g + 1)) (w' (8 * g + 2) + w' (8 * g + 3)))
    (hy : ∀ p, p < w 552 → w (192 + 6 * p) = 3 → w (192 + 6 * p + 1) = g → n_heeds w' g (w (192 + 6 * p + 2)) (w (192 + 6 * p + 4)) → Gv w g (w (192 + 6 * p + 2)) (w' (8 * g + 5) + w (192 + 6 * p + 5))) : Wv w' :=
  WvQ_mono (WvQ_guest Z h g e1 (fun _ => h3) hy hg) (fun g r e q => Gv_same Z.1 q (fun i h1 h2 _ => e1 i (by omega)) (fun i h1 h2 => e1 i (by omega)) (by omega))
/- .. to rest or to seek -/
set_option maxRecDepth 16384 in
theorem Wv_idle (Z : Wy w) (h : Wv w) (hg : g < 12) (e1 : ∀ i, i < 8 * g ∨ (8 * g + 8 ≤ i ∧ i ≤ 552) → w' i = w i) (et : w' 554 = w 554) (h0 : w' (8 * g) ≤ 1) : Wv w' :=
  Wv_guest Z h hg e1 et (fun q => by omega) (fun p hp q1 q2 q3 => by have := q3.1; omega)
/- .. with a want that is new -/
set_option maxRecDepth 16384 in
theorem Wv_wants (Z : Wz w) (h : Wv w) (hg : g < 12) (e1 : ∀ i, i < 8 * g ∨ (8 * g + 8 ≤ i ∧ i ≤ 552) → w' i = w i) (et : w' 554 = w 554) (h4 : w' (8 * g + 4) = w 553 + 1)
    (h3 : w' (8 * g) = 3 → w (8 * g) = 3 ∧ w' (8 * g + 1) = w (8 * g + 1) ∧ w' (8 * g + 2) = w (8 * g + 2) ∧ w' (8 * g + 3) = w (8 * g + 3)) : Wv w' := by
  refine Wv_guest (Wy_of Z) h hg e1 et (fun q => ?_) (fun p hp q1 q2 q3 => ?_)
  · obtain ⟨a, b, c, d⟩ := h3 q
    rw [b, c, d]
    exact h.1 g hg a
  · have z := Z.2.2.1.1 p hp
    have q4 := q3.2.2
    omega
set_option maxRecDepth 16384 in
theorem Wy_post (Z : Wy w) (hk : k < 7) (hg : g < 12) : Wy (n_post w k g r a t) := by
  refine ⟨?_, fun p hp => ?_⟩
  · rw [n_post_many hk Z.1]; have := Z.1; split <;> omega
  · by_cases c : p < w 552
    · rw [n_post_old (j := 1) hk Z.1 c (by omega)]; exact Z.2 p c
    · rw [n_post_many hk Z.1] at hp
      by_cases c6 : w 552 = 60
      · rw [if_pos c6] at hp; omega
      · rw [if_neg c6] at hp
        have hm := Z.1
        have hp' : p = w 552 := by omega
        rw [hp', (n_post_new (w := w) (k := k) (g := g) (r := r) (a := a) (t := t) hk (by omega)).2.1]; exact hg
set_option maxRecDepth 16384 in
theorem Wy_guest (Z : Wy w) (hg : g < 12) (e1 : ∀ i, i < 8 * g ∨ (8 * g + 8 ≤ i ∧ i ≤ 552) → w' i = w i) : Wy w' := ⟨by rw [e1 552 (by omega)]; exact Z.1, fun p hp => by
  rw [e1 552 (by omega)] at hp
  have hm := Z.1
  rw [e1 (192 + 6 * p + 1) (by omega)]; exact Z.2 p hp⟩
set_option maxRecDepth 16384 in
theorem Wv_post (Z : Wy w) (h : Wv w) (hk : k < 7) (hg : g < 12) (h3 : k = 3 → n_heeds w g r a → Gv w g r (w (8 * g + 5) + t)) (hc : k = 5 ∨ k = 6 → w (8 * g) ≤ 1) : Wv (n_post w k g r a t) := by
  by_cases c : k = 5 ∨ k = 6
  · exact WvQ_mono (WvQ_post Z (WvQ_clean Z h (hc c)) hk hg (fun q => by omega)) (fun g' r' e q => Gv_post Z q.2 hk (fun _ => q.1))
  · exact WvQ_mono (WvQ_post Z h hk hg h3) (fun g' r' e q => Gv_post Z q hk (fun q => absurd q c))
set_option maxRecDepth 16384 in
theorem n_want_is : n_want w g = n_post (nu (nu w (8 * g + 4) (w 553 + 1)) (8 * g + 5) (w 554)) 2 g (w (8 * g + 1)) 0 0 ∨ ¬ g < 12 := by
  by_cases hg : g < 12
  · left
    rw [n_post_nu (by omega), n_post_nu (by omega)]
    rfl
  · exact Or.inr hg
set_option maxRecDepth 16384 in
theorem n_leave_is (hg : g < 12) : n_leave w g = n_post (nu w (8 * g) 0) 6 g (w (8 * g + 1)) 0 0 := by
  rw [n_post_nu (by omega)]
  rfl
set_option maxRecDepth 16384 in
theorem Wk_want (Z : Wz w) (h : Wk w) (hg : g < 12) : Wk (n_want w g) := by
  obtain ⟨hv, hs, hc⟩ := h
  have hm := Z.2.2.1.2
  rcases n_want_is (w := w) (g := g) with e | e
  · rw [e]
    have e1 : ∀ i, i < 8 * g ∨ (8 * g + 8 ≤ i ∧ i ≤ 552) → nu (nu w (8 * g + 4) (w 553 + 1)) (8 * g + 5) (w 554) i = w i := fun i hi => by rw [nu_ne1 (by omega), nu_ne1 (by omega)]
    have Z1 := Wy_guest (Wy_of Z) hg e1
    refine ⟨Wv_post Z1 (Wv_wants Z hv hg e1 (by (try simp (disch := omega) only [nn_add, nn_mul, nn_clamp, nn_in1, nn_inj, nn_lt, nn_le, nn_neg, nu_eq1, nu_ne1, nn_nb0, nn_true, nn_false, if_true, if_false, x_let_n, x_let_m, xb_some, eq_self, ite_true, ite_false, not_false_eq_true, not_true_eq_false, nneg1, nl0, nl1, nl2, nl3, nl4, nl5, nl6, nl7, nl8, nl9, nl10, nl11, nl12, nl15, nl16, nl60, nl96, nl192, nl552, nl553, nl554, nl555, nl556, nl557, nl558, nl559, nl560, nl561, nl562, nl563, nl570])) (by (try simp (disch := omega) only [nn_add, nn_mul, nn_clamp, nn_in1, nn_inj, nn_lt, nn_le, nn_neg, nu_eq1, nu_ne1, nn_nb0, nn_true, nn_false, if_true, if_false, x_let_n, x_let_m, xb_some, eq_self, ite_true, ite_false, not_false_eq_true, not_true_eq_false, nneg1, nl0, nl1, nl2, nl3, nl4, nl5, nl6, nl7, nl8, nl9, nl10, nl11, nl12, nl15, nl16, nl60, nl96, nl192, nl552, nl553, nl554, nl555, nl556, nl557, nl558, nl559, nl560, nl561, nl562, nl563, nl570])) (fun q => ?_)) (by omega) hg (fun q => by omega) (fun q => by omega), Ws_post (Ws_of hs (fun i hi => by (try simp (disch := omega) only [nn_add, nn_mul, nn_clamp, nn_in1, nn_inj, nn_lt, nn_le, nn_neg, nu_eq1, nu_ne1, nn_nb0, nn_true, nn_false, if_true, if_false, x_let_n, x_let_m, xb_some, eq_self, ite_true, ite_false, not_false_eq_true, not_true_eq_false, nneg1, nl0, nl1, nl2, nl3, nl4, nl5, nl6, nl7, nl8, nl9, nl10, nl11, nl12, nl15, nl16, nl60, nl96, nl192, nl552, nl553, nl554, nl555, nl556, nl557, nl558, nl559, nl560, nl561, nl562, nl563, nl570]))) (by omega) Z1.1 (by omega), Wc_of hc (fun g' hg' q => ?_)⟩
    · rw [nu_ne1 (by omega), nu_ne1 (by omega)] at q
      exact ⟨q, by (try simp (disch := omega) only [nn_add, nn_mul, nn_clamp, nn_in1, nn_inj, nn_lt, nn_le, nn_neg, nu_eq1, nu_ne1, nn_nb0, nn_true, nn_false, if_true, if_false, x_let_n, x_let_m, xb_some, eq_self, ite_true, ite_false, not_false_eq_true, not_true_eq_false, nneg1, nl0, nl1, nl2, nl3, nl4, nl5, nl6, nl7, nl8, nl9, nl10, nl11, nl12, nl15, nl16, nl60, nl96, nl192, nl552, nl553, nl554, nl555, nl556, nl557, nl558, nl559, nl560, nl561, nl562, nl563, nl570]), by (try simp (disch := omega) only [nn_add, nn_mul, nn_clamp, nn_in1, nn_inj, nn_lt, nn_le, nn_neg, nu_eq1, nu_ne1, nn_nb0, nn_true, nn_false, if_true, if_false, x_let_n, x_let_m, xb_some, eq_self, ite_true, ite_false, not_false_eq_true, not_true_eq_false, nneg1, nl0, nl1, nl2, nl3, nl4, nl5, nl6, nl7, nl8, nl9, nl10, nl11, nl12, nl15, nl16, nl60, nl96, nl192, nl552, nl553, nl554, nl555, nl556, nl557, nl558, nl559, nl560, nl561, nl562, nl563, nl570]), by (try simp (disch := omega) only [nn_add, nn_mul, nn_clamp, nn_in1, nn_inj, nn_lt, nn_le, nn_neg, nu_eq1, nu_ne1, nn_nb0, nn_true, nn_false, if_true, if_false, x_let_n, x_let_m, xb_some, eq_self, ite_true, ite_false, not_false_eq_true, not_true_eq_false, nneg1, nl0, nl1, nl2, nl3, nl4, nl5, nl6, nl7, nl8, nl9, nl10, nl11, nl12, nl15, nl16, nl60, nl96, nl192, nl552, nl553, nl554, nl555, nl556, nl557, nl558, nl559, nl560, nl561, nl562, nl563, nl570])⟩
    · rw [n_post_lo (by omega) Z1.1 (by omega), nu_ne1 (by omega), nu_ne1 (by omega)] at q
      exact ⟨q, by rw [n_post_lo (by omega) Z1.1 (by omega), nu_ne1 (by omega), nu_ne1 (by omega)]; omega⟩
  · exact absurd hg e
set_option maxRecDepth 16384 in
theorem Wk_rest (Z : Wz w) (h : Wk w) (hg : g < 12) : Wk (nu w (8 * g) 0) := by
  obtain ⟨hv, hs, hc⟩ := h
  have hm := Z.2.2.1.2
  refine ⟨Wv_idle (Wy_of Z) hv hg (fun i hi => nu_ne1 (by omega)) (by (try simp (disch := omega) only [nn_add, nn_mul, nn_clamp, nn_in1, nn_inj, nn_lt, nn_le, nn_neg, nu_eq1, nu_ne1, nn_nb0, nn_true, nn_false, if_true, if_false, x_let_n, x_let_m, xb_some, eq_self, ite_true, ite_false, not_false_eq_true, not_true_eq_false, nneg1, nl0, nl1, nl2, nl3, nl4, nl5, nl6, nl7, nl8, nl9, nl10, nl11, nl12, nl15, nl16, nl60, nl96, nl192, nl552, nl553, nl554, nl555, nl556, nl557, nl558, nl559, nl560, nl561, nl562, nl563, nl570])) (by rw [nu_eq1 rfl]; omega), Ws_of hs (fun i hi => nu_ne1 (by omega)), Wc_of hc (fun g' hg' q => ?_)⟩
  by_cases c : g' = g
  · rw [c, nu_eq1 rfl] at q; omega
  · rw [nu_ne1 (by omega)] at q
    exact ⟨q, by rw [nu_ne1 (by omega)]; omega⟩
/- a guest rests, and says so -/
set_option maxRecDepth 16384 in
theorem Wk_off (Z : Wz w) (h : Wk w) (hg : g < 12) {x : Nat} (hk : k < 7) (h3 : k ≠ 3) (hx : x ≤ 1) : Wk (n_post (nu w (8 * g) x) k g r 0 0) := by
  obtain ⟨hv, hs, hc⟩ := h
  have e1 : ∀ i, i < 8 * g ∨ (8 * g + 8 ≤ i ∧ i ≤ 552) → nu w (8 * g) x i = w i := fun i hi => nu_ne1 (by omega)
  have Z1 := Wy_guest (Wy_of Z) hg e1
  refine ⟨Wv_post Z1 (Wv_idle (Wy_of Z) hv hg e1 (by (try simp (disch := omega) only [nn_add, nn_mul, nn_clamp, nn_in1, nn_inj, nn_lt, nn_le, nn_neg, nu_eq1, nu_ne1, nn_nb0, nn_true, nn_false, if_true, if_false, x_let_n, x_let_m, xb_some, eq_self, ite_true, ite_false, not_false_eq_true, not_true_eq_false, nneg1, nl0, nl1, nl2, nl3, nl4, nl5, nl6, nl7, nl8, nl9, nl10, nl11, nl12, nl15, nl16, nl60, nl96, nl192, nl552, nl553, nl554, nl555, nl556, nl557, nl558, nl559, nl560, nl561, nl562, nl563, nl570])) (by rw [nu_eq1 rfl]; exact hx)) hk hg (fun q => absurd q h3) (fun _ => by rw [nu_eq1 rfl]; exact hx), Ws_post (Ws_of hs (fun i hi => nu_ne1 (by omega))) hk Z1.1 h3, Wc_of hc (fun g' hg' q => ?_)⟩
  rw [n_post_lo hk Z1.1 (by omega)] at q
  by_cases c : g' = g
  · rw [c, nu_eq1 rfl] at q; omega
  · rw [nu_ne1 (by omega)] at q
    exact ⟨q, by rw [n_post_lo hk Z1.1 (by omega), nu_ne1 (by omega)]; omega⟩
set_option maxRecDepth 16384 in
theorem Wk_leave (Z : Wz w) (h : Wk w) (hg : g < 12) : Wk (n_leave w g) := by
  rw [n_leave_is hg]
  exact Wk_off Z h hg (by omega) (by omega) (by omega)
set_option maxRecDepth 16384 in
theorem Wk_seek (Z : Wz w) (h : Wk w) (hg : g < 12) : Wk (n_seek w g) := by
  show Wk (n_post (nu w (8 * g) 1) 0 g 0 0 0)
  exact Wk_off Z h hg (by omega) (by omega) (by omega)
set_option maxRecDepth 16384 in
theorem Wk_gone (Z : Wz w) (h : Wk w) {p : Nat} (hp : p < w 552) : Wk (nu (n_take w p) 559 (w 559 + 1)) := by
  obtain ⟨hv, hs, hc⟩ := h
  have hm := Z.2.2.1.2
  have G := fun i h => n_gone (p := p) hm (i := i) h
  refine ⟨WvQ_mono (WvQ_gone (Wy_of Z) hv hp) (fun g r e q => Gv_gone (Wy_of Z) hp q), Ws_gone hs hp hm, Wc_of hc (fun g hg q => ?_)⟩
  rw [G _ (by omega)] at q
  exact ⟨q, by rw [G _ (by omega)]; omega⟩
set_option maxRecDepth 16384 in
theorem Wk_lose (Z : Wz w) (h : Wk w) {p : Nat} (hp : p < w 552) : Wk (n_lose w p) := by
  have hm := Z.2.2.1.2
  have H := Wk_gone Z h hp
  have Z1 := Wz_gone Z hp
  obtain ⟨hv, hs, hc⟩ := H
  have E : ∀ i, i ≠ 558 → i ≠ 559 → n_lose w p i = nu (n_take w p) 559 (w 559 + 1) i := fun i h1 h2 => by unfold n_lose; rw [nu_ne1 h1, nu_ne1 h2]
  have e8 : n_lose w p 558 = w 558 + 1 := by unfold n_lose; rw [nu_eq1 rfl]
  have e9 : n_lose w p 559 = w 559 := by unfold n_lose; rw [nu_ne1 (by omega), n_take_at w p _ hm, if_neg (by omega), if_neg (by omega)]
  have f8 : nu (n_take w p) 559 (w 559 + 1) 558 = w 558 := n_gone hm (by omega)
  have f9 : nu (n_take w p) 559 (w 559 + 1) 559 = w 559 + 1 := nu_eq1 rfl
  refine ⟨WvQ_mono (WvQ_same (Wy_of Z1) hv (fun i h1 h2 => E i (by omega) (by omega)) (fun i h1 h2 => E i (by omega) (by omega))) (fun g r e q => Gv_same Z1.2.2.1.2 q (fun i h1 h2 _ => E i (by omega) (by omega)) (fun i h1 h2 => E i (by omega) (by omega)) (by rw [E 554 (by omega) (by omega)]; omega)), ⟨?_, ?_⟩, Wc_of hc (fun g hg q => ?_)⟩
  · have s1 := hs.1
    unfold n_sk at s1 ⊢
    rw [E 563 (by omega) (by omega), E 564 (by omega) (by omega), E 565 (by omega) (by omega), E 566 (by omega) (by omega), E 567 (by omega) (by omega), E 568 (by omega) (by omega), E 569 (by omega) (by omega), E 552 (by omega) (by omega), e8, e9]
    rw [f8, f9] at s1
    omega
  · rw [E 560 (by omega) (by omega), E 566 (by omega) (by omega)]; exact hs.2
  · rw [E _ (by omega) (by omega)] at q
    exact ⟨q, by rw [E _ (by omega) (by omega)]; omega⟩
end KB
