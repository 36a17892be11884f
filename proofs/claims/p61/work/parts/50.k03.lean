/-! ===== the inn's answers, the guests', ticks, courses ===== -/
section KC
variable {w w' v : Nat → Nat} {g r e k a t m d : Nat} {Q : Nat → Nat → Nat → Prop}
set_option maxRecDepth 16384 in
theorem Gv_room (hm : w 552 ≤ 60) (h : Gv w g r e) (e1 : ∀ i, (96 ≤ i ∧ i < 96 + 6 * d) ∨ (96 + 6 * d + 6 ≤ i ∧ i ≤ 552) → w' i = w i) (hd : d < 16) (et : w' 554 = w 554) (hr : r = d → Gd w g d e → Gv w' g d e) : Gv w' g r e := by
  rcases h with h | G
  · left; omega
  · by_cases c : r = d
    · rw [c] at G ⊢
      exact hr c G
    · obtain ⟨h1, h2, h3, h4, h5⟩ := G
      right
      refine ⟨h1, by rw [e1 _ (by omega)]; exact h2, by rw [e1 _ (by omega)]; exact h3, by rw [e1 _ (by omega)]; exact h4, fun q hq c1 c2 c3 => ?_⟩
      rw [e1 552 (by omega)] at hq
      rw [e1 _ (by omega)] at c1 c2 c3
      rw [e1 (192 + 6 * q + 3) (by omega), e1 (96 + 6 * r + 3) (by omega)]
      exact h5 q hq c1 c2 c3
set_option maxRecDepth 16384 in
theorem Wk_room (Z : Wy w) (h : Wk w) (hd : d < 16) (e0 : ∀ i, i < 96 → i % 8 ≠ 7 → w' i = w i) (e1 : ∀ i, (96 ≤ i ∧ i < 96 + 6 * d) ∨ (96 + 6 * d + 6 ≤ i ∧ i ≤ 552) → w' i = w i) (et : w' 554 = w 554) (es : Ws w') (hr : ∀ g e, Gd w g d e → Gv w' g d e) : Wk w' := by
  refine ⟨WvQ_mono (WvQ_same Z h.1 e0 (fun i h1 h2 => e1 i (by omega))) (fun g r e q => Gv_room Z.1 q e1 hd et (fun _ G => hr g e G)), es, Wc_of h.2.2 (fun g hg q => ?_)⟩
  rw [e0 _ (by omega) (by omega)] at q
  exact ⟨q, by rw [e0 _ (by omega) (by omega)]; omega⟩
set_option maxRecDepth 16384 in
theorem Wk_post (Z : Wy w) (h : Wk w) (hk : k < 7) (hk3 : k ≠ 3 ∧ k ≠ 5 ∧ k ≠ 6) (hg : g < 12) : Wk (n_post w k g r a t) := by
  refine ⟨Wv_post Z h.1 hk hg (fun q => by omega) (fun q => by omega), Ws_post h.2.1 hk Z.1 hk3.1, Wc_of h.2.2 (fun g' hg' q => ?_)⟩
  rw [n_post_lo hk Z.1 (by omega)] at q
  exact ⟨q, by rw [n_post_lo hk Z.1 (by omega)]; omega⟩
set_option maxRecDepth 16384 in
theorem Wy_room (Z : Wy w) (e1 : ∀ i, 192 ≤ i → i ≤ 552 → w' i = w i) : Wy w' := ⟨by rw [e1 552 (by omega) (by omega)]; exact Z.1, fun p hp => by
  rw [e1 552 (by omega) (by omega)] at hp
  have hm := Z.1
  rw [e1 _ (by omega) (by omega)]; exact Z.2 p hp⟩
set_option maxRecDepth 16384 in
theorem Wk_innSeeks (Z : Wz w) (h : Wk w) (hg : g < 12) : Wk (n_innSeeks w g) := by
  unfold n_innSeeks
  split
  · exact h
  · next c =>
    obtain ⟨d, hd⟩ : ∃ d, n_choice w g = d + 1 := ⟨n_choice w g - 1, by omega⟩
    have hc := n_choice_le Z hg
    have hi := n_choice_is hd
    rw [hd, Nat.add_sub_cancel]
    have hm := Z.2.2.1.2
    have E : ∀ i, i ≠ 96 + 6 * d → i ≠ 96 + 6 * d + 1 → i ≠ 96 + 6 * d + 2 → nu (n_settle w d 1 (w 554 + w 556)) (96 + 6 * d + 2) g i = w i := fun i h1 h2 h3 => by rw [nu_ne1 h3, n_settle_at h1 h2]
    refine Wk_post (Wy_room (Wy_of Z) (fun i h1 h2 => E i (by omega) (by omega) (by omega))) (Wk_room (d := d) (Wy_of Z) h (by omega) (fun i h1 h2 => E i (by omega) (by omega) (by omega)) (fun i h1 => E i (by omega) (by omega) (by omega)) (E 554 (by omega) (by omega) (by omega)) (Ws_of h.2.1 (fun i hi => E i (by omega) (by omega) (by omega))) (fun g' e G => ?_)) (by omega) (by omega) hg
    have h2 := G.2.1
    rcases hi with hi | hi
    · have := hi.1; omega
    · omega
set_option maxRecDepth 16384 in
theorem Wk_innWants (Z : Wz w) (h : Wk w) (hg : g < 12) (hr : r < 16) : Wk (n_innWants w g r m) := by
  have hm := Z.2.2.1.2
  unfold n_innWants
  by_cases c : ¬ n_has w r 2 g ∧ ¬ n_has w r 1 g
  · rw [if_pos c]
    exact Wk_post (Wy_of Z) h (by omega) (by omega) hg
  · rw [if_neg c]
    obtain ⟨u, hu⟩ : ∃ u, u = (if n_has w r 2 g ∧ w 554 + w 555 < w (96 + 6 * r + 1) then w (96 + 6 * r + 1) else w 554 + w 555) := ⟨_, rfl⟩
    rw [← hu]
    have hu1 : w 554 + w 555 ≤ u := by rw [hu]; split <;> omega
    have hu2 : n_has w r 2 g → w (96 + 6 * r + 1) ≤ u := fun q => by
      rw [hu]
      by_cases c2 : w 554 + w 555 < w (96 + 6 * r + 1)
      · rw [if_pos ⟨q, c2⟩]; omega
      · rw [if_neg (fun q => c2 q.2)]; omega
    clear hu
    rw [← n_post_nu (by omega)]
    obtain ⟨W, hW⟩ : ∃ W, W = nu (nu (nu (n_settle w r 2 u) (8 * g + 7) (r + 1)) 560 (w 560 + 1)) (96 + 6 * r + 3) (w 553 + 1) := ⟨_, rfl⟩
    rw [← hW]
    have E : ∀ i, i ≠ 96 + 6 * r → i ≠ 96 + 6 * r + 1 → i ≠ 96 + 6 * r + 3 → i ≠ 8 * g + 7 → i ≠ 560 → W i = w i := fun i h1 h2 h3 h4 h5 => by rw [hW, nu_ne1 h3, nu_ne1 h5, nu_ne1 h4, n_settle_at h1 h2]
    have w0 : W (96 + 6 * r) = 2 := by rw [hW]; unfold n_settle; (try simp (disch := omega) only [nn_add, nn_mul, nn_clamp, nn_in1, nn_inj, nn_lt, nn_le, nn_neg, nu_eq1, nu_ne1, nn_nb0, nn_true, nn_false, if_true, if_false, x_let_n, x_let_m, xb_some, eq_self, ite_true, ite_false, not_false_eq_true, not_true_eq_false, nneg1, nl0, nl1, nl2, nl3, nl4, nl5, nl6, nl7, nl8, nl9, nl10, nl11, nl12, nl15, nl16, nl60, nl96, nl192, nl552, nl553, nl554, nl555, nl556, nl557, nl558, nl559, nl560, nl561, nl562, nl563, nl570])
    have w1 : W (96 + 6 * r + 1) = u := by rw [hW]; unfold n_settle; (try simp (disch := omega) only [nn_add, nn_mul, nn_clamp, nn_in1, nn_inj, nn_lt, nn_le, nn_neg, nu_eq1, nu_ne1, nn_nb0, nn_true, nn_false, if_true, if_false, x_let_n, x_let_m, xb_some, eq_self, ite_true, ite_false, not_false_eq_true, not_true_eq_false, nneg1, nl0, nl1, nl2, nl3, nl4, nl5, nl6, nl7, nl8, nl9, nl10, nl11, nl12, nl15, nl16, nl60, nl96, nl192, nl552, nl553, nl554, nl555, nl556, nl557, nl558, nl559, nl560, nl561, nl562, nl563, nl570])
    have w3 : W (96 + 6 * r + 3) = w 553 + 1 := by rw [hW]; (try simp (disch := omega) only [nn_add, nn_mul, nn_clamp, nn_in1, nn_inj, nn_lt, nn_le, nn_neg, nu_eq1, nu_ne1, nn_nb0, nn_true, nn_false, if_true, if_false, x_let_n, x_let_m, xb_some, eq_self, ite_true, ite_false, not_false_eq_true, not_true_eq_false, nneg1, nl0, nl1, nl2, nl3, nl4, nl5, nl6, nl7, nl8, nl9, nl10, nl11, nl12, nl15, nl16, nl60, nl96, nl192, nl552, nl553, nl554, nl555, nl556, nl557, nl558, nl559, nl560, nl561, nl562, nl563, nl570])
    have w6 : W 560 = w 560 + 1 := by rw [hW]; (try simp (disch := omega) only [nn_add, nn_mul, nn_clamp, nn_in1, nn_inj, nn_lt, nn_le, nn_neg, nu_eq1, nu_ne1, nn_nb0, nn_true, nn_false, if_true, if_false, x_let_n, x_let_m, xb_some, eq_self, ite_true, ite_false, not_false_eq_true, not_true_eq_false, nneg1, nl0, nl1, nl2, nl3, nl4, nl5, nl6, nl7, nl8, nl9, nl10, nl11, nl12, nl15, nl16, nl60, nl96, nl192, nl552, nl553, nl554, nl555, nl556, nl557, nl558, nl559, nl560, nl561, nl562, nl563, nl570])
    clear hW
    have ZW : Wy W := Wy_room (Wy_of Z) (fun i h1 h2 => E i (by omega) (by omega) (by omega) (by omega) (by omega))
    have hN : ∀ g', Nf W g' r := fun g' p hp c1 c2 c3 => by
      rw [E 552 (by omega) (by omega) (by omega) (by omega) (by omega)] at hp
      have z := Z.2.2.1.1 p hp
      rw [E _ (by omega) (by omega) (by omega) (by omega) (by omega), w3]
      omega
    have hv : Wv W := by
      refine WvQ_mono (WvQ_same (Wy_of Z) h.1 (fun i h1 h2 => E i (by omega) (by omega) (by omega) (by omega) (by omega)) (fun i h1 h2 => E i (by omega) (by omega) (by omega) (by omega) (by omega))) (fun g' r' e q => Gv_room (d := r) hm q (fun i h1 => E i (by omega) (by omega) (by omega) (by omega) (by omega)) hr (E 554 (by omega) (by omega) (by omega) (by omega) (by omega)) (fun _ G => ?_))
      obtain ⟨h1, h2, h3, h4, -⟩ := G
      have h2' : n_has w r 2 g := by
        by_cases c2 : n_has w r 2 g
        · exact c2
        · by_cases c3 : n_has w r 1 g
          · have := c3.1; omega
          · exact absurd ⟨c2, c3⟩ c
      have q1 := hu2 h2'
      right
      exact ⟨hr, w0, by rw [E _ (by omega) (by omega) (by omega) (by omega) (by omega)]; exact h3, by rw [w1]; omega, hN g'⟩
    have e2 : W (96 + 6 * r + 2) = g := by
      rw [E _ (by omega) (by omega) (by omega) (by omega) (by omega)]
      by_cases c2 : n_has w r 2 g
      · exact c2.2
      · by_cases c3 : n_has w r 1 g
        · exact c3.2
        · exact absurd ⟨c2, c3⟩ c
    have zg := Z.1 g hg
    have S := n_post_s (w := W) (k := 3) (g := g) (r := r) (a := m) (t := w 555) (by omega) ZW.1
    refine ⟨Wv_post ZW hv (by omega) hg (fun _ q => ?_) (fun q => by omega), ⟨?_, ?_⟩, Wc_of h.2.2 (fun g' hg' q => ?_)⟩
    · right
      refine ⟨hr, w0, e2, ?_, hN g⟩
      rw [w1, E (8 * g + 5) (by omega) (by omega) (by omega) (by omega) (by omega)]
      omega
    · rw [S.1, S.2]
      have s1 := h.2.1.1
      unfold n_sk at s1 ⊢
      rw [E 563 (by omega) (by omega) (by omega) (by omega) (by omega), E 564 (by omega) (by omega) (by omega) (by omega) (by omega), E 565 (by omega) (by omega) (by omega) (by omega) (by omega), E 566 (by omega) (by omega) (by omega) (by omega) (by omega), E 567 (by omega) (by omega) (by omega) (by omega) (by omega), E 568 (by omega) (by omega) (by omega) (by omega) (by omega), E 569 (by omega) (by omega) (by omega) (by omega) (by omega), E 558 (by omega) (by omega) (by omega) (by omega) (by omega), E 559 (by omega) (by omega) (by omega) (by omega) (by omega), E 552 (by omega) (by omega) (by omega) (by omega) (by omega)]
      omega
    · have k3 : n_post W 3 g r m (w 555) 566 = W 566 + 1 := n_post_kind (k := 3) (by omega) ZW.1
      rw [n_post_hi (by omega) ZW.1 (i := 560) (by omega) (by omega) (by omega), k3, w6, E 566 (by omega) (by omega) (by omega) (by omega) (by omega), h.2.1.2]
    · rw [n_post_lo (by omega) ZW.1 (by omega), E _ (by omega) (by omega) (by omega) (by omega) (by omega)] at q
      exact ⟨q, by rw [n_post_lo (by omega) ZW.1 (by omega), E _ (by omega) (by omega) (by omega) (by omega) (by omega)]; omega⟩
set_option maxRecDepth 16384 in
theorem Wk_innEnds (Z : Wz v) (h : WvQ v Q) (hs : Ws v) (hc : Wc v) (hr : r < 16) (hQ : ∀ g' r' e, Q g' r' e → Gv v g' r' e ∧ (g' = g → r' = r → e ≤ v 554 ∨ m ≤ v (96 + 6 * r + 3))) : Wk (n_innEnds v k g r m) := by
  have hm := Z.2.2.1.2
  unfold n_innEnds
  by_cases c : ¬ n_has v r 2 g ∨ m ≤ v (96 + 6 * r + 3)
  · rw [if_pos c]
    exact ⟨WvQ_mono h (fun g' r' e q => (hQ g' r' e q).1), hs, hc⟩
  · rw [if_neg c]
    have c2 : n_has v r 2 g := Decidable.byContradiction (fun q => c (Or.inl q))
    have c3 : ¬ m ≤ v (96 + 6 * r + 3) := fun q => c (Or.inr q)
    obtain ⟨W, hW⟩ : ∃ W, W = nu (n_settle v r (if k = 5 then 3 else 0) (v 554 + v 557)) 562 (v 562 + if k = 5 then 1 else 0) := ⟨_, rfl⟩
    rw [← hW]
    have E : ∀ i, i ≠ 96 + 6 * r → i ≠ 96 + 6 * r + 1 → i ≠ 562 → W i = v i := fun i h1 h2 h3 => by rw [hW, nu_ne1 h3, n_settle_at h1 h2]
    refine ⟨WvQ_mono (WvQ_same (Wy_of Z) h (fun i h1 h2 => E i (by omega) (by omega) (by omega)) (fun i h1 h2 => E i (by omega) (by omega) (by omega))) (fun g' r' e q => ?_), Ws_of hs (fun i hi => E i (by omega) (by omega) (by omega)), Wc_of hc (fun g hg q => ?_)⟩
    · obtain ⟨q1, q2⟩ := hQ g' r' e q
      refine Gv_room (d := r) hm q1 (fun i h1 => E i (by omega) (by omega) (by omega)) hr (E 554 (by omega) (by omega) (by omega)) (fun hd G => ?_)
      left
      rw [E 554 (by omega) (by omega) (by omega)]
      rcases q2 (G.2.2.1.symm.trans c2.2) hd with q3 | q3
      · exact q3
      · exact absurd q3 c3
    · rw [E _ (by omega) (by omega) (by omega)] at q
      exact ⟨q, by rw [E _ (by omega) (by omega) (by omega)]; omega⟩
set_option maxRecDepth 16384 in
theorem Wk_offer (Z : Wz w) (h : Wk w) (hg : g < 12) : Wk (n_want (nu (nu w (8 * g) 2) (8 * g + 1) r) g) := by
  obtain ⟨hv, hs, hc⟩ := h
  have hm := Z.2.2.1.2
  rcases n_want_is (w := nu (nu w (8 * g) 2) (8 * g + 1) r) (g := g) with e | e
  · rw [e]
    obtain ⟨W, hW⟩ : ∃ W, W = nu (nu (nu (nu w (8 * g) 2) (8 * g + 1) r) (8 * g + 4) (nu (nu w (8 * g) 2) (8 * g + 1) r 553 + 1)) (8 * g + 5) (nu (nu w (8 * g) 2) (8 * g + 1) r 554) := ⟨_, rfl⟩
    rw [← hW]
    have E : ∀ i, i < 8 * g ∨ 8 * g + 6 ≤ i → W i = w i := fun i hi => by rw [hW, nu_ne1 (by omega), nu_ne1 (by omega), nu_ne1 (by omega), nu_ne1 (by omega)]
    have w0 : W (8 * g) = 2 := by rw [hW]; (try simp (disch := omega) only [nn_add, nn_mul, nn_clamp, nn_in1, nn_inj, nn_lt, nn_le, nn_neg, nu_eq1, nu_ne1, nn_nb0, nn_true, nn_false, if_true, if_false, x_let_n, x_let_m, xb_some, eq_self, ite_true, ite_false, not_false_eq_true, not_true_eq_false, nneg1, nl0, nl1, nl2, nl3, nl4, nl5, nl6, nl7, nl8, nl9, nl10, nl11, nl12, nl15, nl16, nl60, nl96, nl192, nl552, nl553, nl554, nl555, nl556, nl557, nl558, nl559, nl560, nl561, nl562, nl563, nl570])
    have w4 : W (8 * g + 4) = w 553 + 1 := by rw [hW]; (try simp (disch := omega) only [nn_add, nn_mul, nn_clamp, nn_in1, nn_inj, nn_lt, nn_le, nn_neg, nu_eq1, nu_ne1, nn_nb0, nn_true, nn_false, if_true, if_false, x_let_n, x_let_m, xb_some, eq_self, ite_true, ite_false, not_false_eq_true, not_true_eq_false, nneg1, nl0, nl1, nl2, nl3, nl4, nl5, nl6, nl7, nl8, nl9, nl10, nl11, nl12, nl15, nl16, nl60, nl96, nl192, nl552, nl553, nl554, nl555, nl556, nl557, nl558, nl559, nl560, nl561, nl562, nl563, nl570])
    have ZW := Wy_guest (Wy_of Z) hg (fun i hi => E i (by omega))
    refine ⟨Wv_post ZW (Wv_wants Z hv hg (fun i hi => E i (by omega)) (E 554 (by omega)) w4 (fun q => by omega)) (by omega) hg (fun q => by omega) (fun q => by omega), Ws_post (Ws_of hs (fun i hi => E i (by omega))) (by omega) ZW.1 (by omega), Wc_of hc (fun g' hg' q => ?_)⟩
    rw [n_post_lo (by omega) ZW.1 (by omega)] at q
    by_cases c : g' = g
    · rw [c, w0] at q; omega
    · rw [E _ (by omega)] at q
      exact ⟨q, by rw [n_post_lo (by omega) ZW.1 (by omega), E _ (by omega)]; omega⟩
  · exact absurd hg e
set_option maxRecDepth 16384 in
theorem Wk_guestYes (Z : Wz w) (h : Wk w) (hg : g < 12) (hh : n_heeds w g r a) (hq : Gv w g r (w (8 * g + 5) + t)) : Wk (n_guestYes w g r t) := by
  unfold n_guestYes
  split
  · exact Wk_rest Z h hg
  split
  · rw [← n_post_nu (by omega)]
    exact Wk_off Z h hg (by omega) (by omega) (by omega)
  · obtain ⟨hv, hs, hc⟩ := h
    have hm := Z.2.2.1.2
    obtain ⟨W, hW⟩ : ∃ W, W = nu (nu (nu (nu w (8 * g + 6) (w (8 * g + 6) + if w (8 * g) = 2 then 1 else 0)) (8 * g) 3) (8 * g + 2) (w (8 * g + 5))) (8 * g + 3) t := ⟨_, rfl⟩
    rw [← hW]
    have E : ∀ i, i ≠ 8 * g + 6 → i ≠ 8 * g → i ≠ 8 * g + 2 → i ≠ 8 * g + 3 → W i = w i := fun i h1 h2 h3 h4 => by rw [hW, nu_ne1 h4, nu_ne1 h3, nu_ne1 h2, nu_ne1 h1]
    have w2 : W (8 * g + 2) = w (8 * g + 5) := by rw [hW]; (try simp (disch := omega) only [nn_add, nn_mul, nn_clamp, nn_in1, nn_inj, nn_lt, nn_le, nn_neg, nu_eq1, nu_ne1, nn_nb0, nn_true, nn_false, if_true, if_false, x_let_n, x_let_m, xb_some, eq_self, ite_true, ite_false, not_false_eq_true, not_true_eq_false, nneg1, nl0, nl1, nl2, nl3, nl4, nl5, nl6, nl7, nl8, nl9, nl10, nl11, nl12, nl15, nl16, nl60, nl96, nl192, nl552, nl553, nl554, nl555, nl556, nl557, nl558, nl559, nl560, nl561, nl562, nl563, nl570])
    have w3 : W (8 * g + 3) = t := by rw [hW]; (try simp (disch := omega) only [nn_add, nn_mul, nn_clamp, nn_in1, nn_inj, nn_lt, nn_le, nn_neg, nu_eq1, nu_ne1, nn_nb0, nn_true, nn_false, if_true, if_false, x_let_n, x_let_m, xb_some, eq_self, ite_true, ite_false, not_false_eq_true, not_true_eq_false, nneg1, nl0, nl1, nl2, nl3, nl4, nl5, nl6, nl7, nl8, nl9, nl10, nl11, nl12, nl15, nl16, nl60, nl96, nl192, nl552, nl553, nl554, nl555, nl556, nl557, nl558, nl559, nl560, nl561, nl562, nl563, nl570])
    have w6 : W (8 * g + 6) = w (8 * g + 6) + if w (8 * g) = 2 then 1 else 0 := by rw [hW]; (try simp (disch := omega) only [nn_add, nn_mul, nn_clamp, nn_in1, nn_inj, nn_lt, nn_le, nn_neg, nu_eq1, nu_ne1, nn_nb0, nn_true, nn_false, if_true, if_false, x_let_n, x_let_m, xb_some, eq_self, ite_true, ite_false, not_false_eq_true, not_true_eq_false, nneg1, nl0, nl1, nl2, nl3, nl4, nl5, nl6, nl7, nl8, nl9, nl10, nl11, nl12, nl15, nl16, nl60, nl96, nl192, nl552, nl553, nl554, nl555, nl556, nl557, nl558, nl559, nl560, nl561, nl562, nl563, nl570])
    refine ⟨Wv_guest (Wy_of Z) hv hg (fun i hi => E i (by omega) (by omega) (by omega) (by omega)) (E 554 (by omega) (by omega) (by omega) (by omega)) (fun q => ?_) (fun p hp q1 q2 q3 => ?_), Ws_of hs (fun i hi => E i (by omega) (by omega) (by omega) (by omega)), fun g' hg' q => ?_⟩
    · rw [w2, w3, E (8 * g + 1) (by omega) (by omega) (by omega) (by omega), hh.2.1]
      exact hq
    · rw [E (8 * g + 5) (by omega) (by omega) (by omega) (by omega)]
      have f := hv.2 p hp q1
      rw [q2] at f
      refine f ?_
      unfold n_heeds at q3 ⊢
      rw [E (8 * g + 1) (by omega) (by omega) (by omega) (by omega), E (8 * g + 4) (by omega) (by omega) (by omega) (by omega)] at q3
      exact ⟨hh.1, q3.2⟩
    · by_cases c : g' = g
      · rw [c, w6]
        have z := (Z.1 g hg).1
        have h1 := hh.1
        by_cases c2 : w (8 * g) = 2
        · rw [if_pos c2]; omega
        · have := hc g hg (by omega)
          omega
      · rw [E _ (by omega) (by omega) (by omega) (by omega)] at q
        rw [E _ (by omega) (by omega) (by omega) (by omega)]
        exact hc g' hg' q
set_option maxRecDepth 16384 in
theorem Wk_handle (Z : Wz w) (h : Wk w) {p : Nat} (hp : p < w 552) : Wk (n_handle w p) := by
  have hm := Z.2.2.1.2
  have Zv := Wz_gone Z hp
  have hk := Wk_gone Z h hp
  have z := Z.2.2.1.1 p hp
  have G := fun i h => n_gone (p := p) hm (i := i) h
  unfold n_handle n_act
  split
  · exact Wk_innSeeks Zv hk z.2.1
  split
  · split
    · exact Wk_offer Zv hk z.2.1
    · exact hk
  split
  · exact Wk_innWants Zv hk z.2.1 z.2.2.1
  split
  · next c3 =>
    split
    · next hh =>
      refine Wk_guestYes Zv hk z.2.1 hh ?_
      have hh2 : n_heeds w (w (192 + 6 * p + 1)) (w (192 + 6 * p + 2)) (w (192 + 6 * p + 4)) := by
        unfold n_heeds at hh ⊢
        rw [G _ (by omega), G (8 * w (192 + 6 * p + 1) + 1) (by omega), G (8 * w (192 + 6 * p + 1) + 4) (by omega)] at hh
        exact hh
      rw [G (8 * w (192 + 6 * p + 1) + 5) (by omega)]
      exact Gv_gone (Wy_of Z) hp (h.1.2 p hp c3 hh2)
    · exact hk
  split
  · split
    · exact Wk_rest Zv hk z.2.1
    · exact hk
  · next c0 c1 c2 c3 c4 =>
    refine Wk_innEnds (Q := Gv w) Zv (WvQ_gone (Wy_of Z) h.1 hp) hk.2.1 hk.2.2 z.2.2.1 (fun g' r' e q => ⟨Gv_gone (Wy_of Z) hp q, fun h1 h2 => ?_⟩)
    rw [G 554 (by omega), G (96 + 6 * w (192 + 6 * p + 2) + 3) (by omega)]
    rcases q with q | q
    · exact Or.inl q
    · rw [h1, h2] at q
      exact Or.inr (q.2.2.2.2 p hp (by omega) rfl rfl)
set_option maxRecDepth 16384 in
theorem Wk_time (Z : Wz w) (h : Wk w) : Wk (nu w 554 (w 554 + 1)) := by
  have hm := Z.2.2.1.2
  refine ⟨WvQ_mono (WvQ_same (Wy_of Z) h.1 (fun i h1 h2 => nu_ne1 (by omega)) (fun i h1 h2 => nu_ne1 (by omega))) (fun g r e q => Gv_same hm q (fun i h1 h2 _ => nu_ne1 (by omega)) (fun i h1 h2 => nu_ne1 (by omega)) (by rw [nu_eq1 rfl]; omega)), Ws_of h.2.1 (fun i hi => nu_ne1 (by omega)), Wc_of h.2.2 (fun g hg q => ?_)⟩
  rw [nu_ne1 (by omega)] at q
  exact ⟨q, by rw [nu_ne1 (by omega)]; omega⟩
set_option maxRecDepth 16384 in
theorem Wk_rooms {B : Nat} : ∀ (d : Nat) (w : Nat → Nat), Wm B w → d ≤ 16 → Wk w → Wk (n_rooms d w) := by
  intro d
  induction d with
  | zero => intro w F hd h; exact h
  | succ d ih =>
    intro w F hd h
    rw [n_rooms]
    have hr : 15 - d < 16 := by omega
    split
    · next c =>
      refine ih _ (Wm_room F hr) (by omega) (Wk_room (d := 15 - d) (Wy_of F.1) h hr (fun i h1 h2 => nu_ne1 (by omega)) (fun i h1 => nu_ne1 (by omega)) (nu_ne1 (by omega)) (Ws_of h.2.1 (fun i hi => nu_ne1 (by omega))) (fun g e G => ?_))
      left
      rw [nu_ne1 (by omega)]
      have := G.2.2.2.1
      omega
    · exact ih w F (by omega) h
set_option maxRecDepth 16384 in
theorem Wk_guests : ∀ (d B : Nat) (w : Nat → Nat), Wm B w → d ≤ 12 → B + d * 500 ≤ 1000000000 → Wk w → Wk (n_guests d w).2 := by
  intro d
  induction d with
  | zero => intro B w F hd h9 h; exact h
  | succ d ih =>
    intro B w F hd h9 h
    rw [n_guests]
    have hg : 11 - d < 12 := by omega
    have hm := F.1.2.2.1.2
    split
    · refine ih (B + 500) _ (Wm_out F hg (by omega)) (by omega) (by omega) (Wk_of ⟨?_, fun p hp => ?_⟩ (Wk_rest F.1 h hg) (fun i hi => nu_ne1 (by omega)))
      · rw [nu_ne1 (by omega)]; exact hm
      · rw [nu_ne1 (by omega)] at hp
        rw [nu_ne1 (by omega)]
        exact (F.1.2.2.1.1 p hp).2.1
    split
    · exact ih (B + 500) _ (Wm_want F hg (by omega)) (by omega) (by omega) (Wk_want F.1 h hg)
    · exact ih (B + 500) _ ⟨F.1, Wb_up F.2 (by omega) (by omega)⟩ (by omega) (by omega) h
set_option maxRecDepth 16384 in
theorem Wk_tick {B : Nat} (F : Wf B w) (h9 : B + 6001 ≤ 1000000000) (h : Wk w) : Wk (n_tick w).2 := by
  have F1 := Wm_time (B := B) ⟨F.1, F.2.2⟩ (by omega)
  have F2 := n_rooms_in 16 (B + 1) _ F1 (by omega) (fun r hr => by omega)
  unfold n_tick
  exact Wk_guests 12 (B + 1) _ F2.1 (by omega) (by omega) (Wk_rooms 16 _ F1 (by omega) (Wk_time F.1 h))
set_option maxRecDepth 16384 in
theorem Wk_go : ∀ (d B : Nat) (w : Nat → Nat), Wf B w → B + d * 6001 + 6001 ≤ 1000000000 → Wk w → Wk (n_go d w).2 := by
  intro d
  induction d with
  | zero => intro B w F h9 h; exact h
  | succ d ih =>
    intro B w F h9 h
    rw [n_go]
    exact ih (B + 6001) _ (Wf_tick F (by omega)).1 (by omega) (Wk_tick F (by omega) h)
set_option maxRecDepth 16384 in
theorem Wk_all : ∀ (d B : Nat) (w : Nat → Nat), Wf B w → B + d * 1001 + 1001 ≤ 1000000000 → Wk w → Wk (n_all d w).2 := by
  intro d
  induction d with
  | zero => intro B w F h9 h; exact h
  | succ d ih =>
    intro B w F h9 h
    rw [n_all]
    split
    · exact h
    · exact ih (B + 1001) _ (Wf_handle F (by omega) (by omega)) (by omega) (Wk_handle F.1 h (by omega))
set_option maxRecDepth 16384 in
theorem Wk_do {B : Nat} (F : Wf B w) (h9 : B + 700000 ≤ 1000000000) {c x : Nat} (hc : n_L c) (hx : x ≤ n_hi c) (ho : n_ok w c x) (h : Wk w) : Wk (n_do w c x) := by
  unfold n_hi at hx
  rcases hc with rfl | rfl | rfl | rfl | rfl | rfl
  · rw [if_neg (by decide), if_neg (by decide)] at hx
    exact Wk_seek F.1 h (g := x) (by omega)
  · rw [if_neg (by decide), if_neg (by decide)] at hx
    exact Wk_leave F.1 h (g := x) (by omega)
  · rw [if_neg (by decide), if_neg (by decide)] at hx
    exact Wk_want F.1 h (g := x) (by omega)
  · exact Wk_handle F.1 h (p := x) (by omega)
  · exact Wk_lose F.1 h (p := x) (by omega)
  · rw [if_pos rfl] at hx
    exact Wk_go x B w F (by omega) h
set_option maxRecDepth 16384 in
theorem Wk_ef {B : Nat} (F : Wf B w) (h9 : B + 700000 ≤ 1000000000) {c x : Nat} (hc : n_L c) (hx : x ≤ n_hi c) (o : Nat) (h : Wk w) : Wk (n_ef o w c x).2 := by
  by_cases q : o = 1 ∧ n_ok w c x
  · rw [n_ef_y q]; exact Wk_do F h9 hc hx q.2 h
  · rw [n_ef_n q]; exact h
set_option maxRecDepth 16384 in
theorem Wk_tx {x : Nat → Nat} {l : Nat} : ∀ (d B p k o : Nat) (w : Nat → Nat), p + k = l → k < d → Wf B w → B + 600200 * k + 700000 ≤ 1000000000 → Wk w → Wk (n_tx x l d p o w).2.2.2 := by
  intro d
  induction d with
  | zero => intro B p k o w h1 h2; omega
  | succ d ih =>
    intro B p k o w h1 h2 F H hw
    obtain ⟨p1, p2, p3, p4⟩ := n_pt_is (x := x) (l := l) (p := p) (by omega)
    rw [n_tx]
    by_cases cg : (n_pt x l p).1 = 0
    · rw [if_pos cg]; exact hw
    · have cg1 : (n_pt x l p).1 = 1 := by omega
      obtain ⟨q1, q2, q3, q4⟩ := p4 cg1
      have E := Wf_ef F (bud5 H) q2 q4 o
      have E2 := Wk_ef F (bud5 H) q2 q4 o hw
      rw [if_neg cg]
      by_cases cl : (n_pt x l p).2.1 < l
      · rw [if_pos cl]
        by_cases cx : x (n_pt x l p).2.1 = 59
        · rw [if_pos cx]
          have hk : l - ((n_pt x l p).2.1 + 1) + 1 ≤ k := by omega
          exact ih (B + 600100) ((n_pt x l p).2.1 + 1) (l - ((n_pt x l p).2.1 + 1)) (n_ef o w (n_pt x l p).2.2.1 (n_pt x l p).2.2.2).1 (n_ef o w (n_pt x l p).2.2.1 (n_pt x l p).2.2.2).2 (by omega) (by omega) E.1 (bud6 hk H) E2
        · rw [if_neg cx]; exact E2
      · rw [if_neg cl]; exact E2
set_option maxRecDepth 16384 in
theorem Wk_drop (Z : Wz w) (h : Wk w) : Wk (n_drop w g) := by
  rcases n_res_is (w := w) (g := g) 16 (by omega) with ⟨q, -⟩ | ⟨r, q, hr, -⟩
  · rw [n_drop_no q]; exact h
  · rw [n_drop_at q]
    exact Wk_of (Wy_of Z) h (fun i hi => nu_ne1 (by omega))
set_option maxRecDepth 16384 in
theorem Wk_resv (Z : Wz w) (h : Wk w) (hg : g < 12) (hr : r < 16) : Wk (n_resv w g r) := Wk_of (Wy_of (Wz_drop Z hg).1) (Wk_drop Z h) (fun i hi => nu_ne1 (by omega))
set_option maxRecDepth 16384 in
theorem Wk_tog (Z : Wz w) (h : Wk w) (hr : r < 16) : Wk (n_tog w r) := Wk_of (Wy_of Z) h (fun i hi => nu_ne1 (by omega))
set_option maxRecDepth 16384 in
theorem Wk_chg (Z : Wz w) (h : Wk w) (hk : 555 ≤ k ∧ k ≤ 557) {y : Nat} : Wk (nu w k y) := Wk_of (Wy_of Z) h (fun i hi => nu_ne1 (by omega))
end KC
