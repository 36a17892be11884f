set_option maxRecDepth 16384 in
theorem Wf_handle {B : Nat} {w : Nat → Nat} (F : Wf B w) {p : Nat} (hp : p < w 552) (h9 : B + 1001 ≤ 1000000000) : Wf (B + 1001) (n_handle w p) := by
  have hm := F.1.2.2.1.2
  obtain ⟨p0, p1, p2, p3, p4, p5⟩ := F.1.2.2.1.1 p hp
  have F1 : Wf (B + 1) (nu (n_take w p) 559 (w 559 + 1)) := ⟨Wz_gone F.1 hp, Wx_lo F.2.1 (fun i hi => n_gone hm (by omega)) (n_gone hm (by omega)), Wb_gone F.2.2 hm (by omega)⟩
  exact Wf_act F1 p1 p2 (by rw [n_gone hm (by omega)]; exact p3) p5 h9
/- how many messages a message can still bring, itself counted -/
def n_wt (k : Nat) : Nat := if k = 0 then 5 else if k = 1 then 4 else if k = 2 then 3 else if k = 3 then 2 else 1
def n_pot : (Nat → Nat) → Nat → Nat
  | _, 0 => 0
  | w, p + 1 => n_pot w p + n_wt (w (192 + 6 * p))
set_option maxRecDepth 16384 in
theorem n_wt_le (k : Nat) : 1 ≤ n_wt k ∧ n_wt k ≤ 5 := by
  unfold n_wt
  repeat' split
  all_goals omega
set_option maxRecDepth 16384 in
theorem n_pot_le (w : Nat → Nat) (p : Nat) : p ≤ n_pot w p ∧ n_pot w p ≤ 5 * p := by
  induction p with
  | zero => exact ⟨Nat.le_refl _, Nat.le_refl _⟩
  | succ p ih =>
    have := n_wt_le (w (192 + 6 * p))
    unfold n_pot
    omega
set_option maxRecDepth 16384 in
theorem n_pot_congr {w w' : Nat → Nat} : ∀ p, (∀ q, q < p → w' (192 + 6 * q) = w (192 + 6 * q)) → n_pot w' p = n_pot w p := by
  intro p
  induction p with
  | zero => intro _; rfl
  | succ p ih => intro h; unfold n_pot; rw [ih (fun q hq => h q (by omega)), h p (by omega)]
set_option maxRecDepth 16384 in
theorem n_pot_tail {w w' : Nat → Nat} : ∀ p, (∀ q, q < p → w' (192 + 6 * q) = w (192 + 6 * (q + 1))) → n_pot w (p + 1) = n_wt (w 192) + n_pot w' p := by
  intro p
  induction p with
  | zero => intro _; show 0 + n_wt (w 192) = n_wt (w 192) + 0; omega
  | succ p ih =>
    intro h
    have := ih (fun q hq => h q (by omega))
    show n_pot w (p + 1) + n_wt (w (192 + 6 * (p + 1))) = n_wt (w 192) + (n_pot w' p + n_wt (w' (192 + 6 * p)))
    rw [this, h p (by omega)]
    omega
/- a message's own weight -/
def n_ptot (w : Nat → Nat) : Nat := n_pot w (w 552)
set_option maxRecDepth 16384 in
theorem n_ptot_post {w : Nat → Nat} {k g r a t : Nat} (hk : k < 7) (hm : w 552 ≤ 60) : n_ptot (n_post w k g r a t) ≤ n_ptot w + n_wt k := by
  unfold n_ptot
  rw [n_post_many hk hm]
  have O : ∀ q, q < w 552 → n_post w k g r a t (192 + 6 * q) = w (192 + 6 * q) := fun q hq => n_post_old hk hm hq (j := 0) (by omega)
  split
  · next c => rw [← c, n_pot_congr _ O]; omega
  · next c =>
    show n_pot (n_post w k g r a t) (w 552) + n_wt (n_post w k g r a t (192 + 6 * w 552)) ≤ _
    rw [n_pot_congr _ O, (n_post_new hk (by omega)).1]
    exact Nat.le_refl _
set_option maxRecDepth 16384 in
theorem n_ptot_lo {w w' : Nat → Nat} (h : ∀ i, 192 ≤ i → i ≤ 552 → w' i = w i) (hm : w 552 ≤ 60) : n_ptot w' = n_ptot w := by
  unfold n_ptot
  rw [h 552 (by omega) (by omega)]
  exact n_pot_congr _ (fun q hq => h _ (by omega) (by omega))
set_option maxRecDepth 16384 in
theorem n_ptot_act {w : Nat → Nat} (Z : Wz w) {k g r m a t : Nat} (hk : k ≤ 6) (hg : g < 12) (hr : r < 16) : n_ptot (n_act w k g r m a t) + 1 ≤ n_ptot w + n_wt k := by
  have hm := Z.2.2.1.2
  have hc := n_choice_le Z hg
  have S : ∀ (r s u i : Nat), r < 16 → 192 ≤ i → n_settle w r s u i = w i := fun r s u i h1 h2 => n_settle_at (by omega) (by omega)
  rcases (show k = 0 ∨ k = 1 ∨ k = 2 ∨ k = 3 ∨ k = 4 ∨ k = 5 ∨ k = 6 by omega) with rfl | rfl | rfl | rfl | rfl | rfl | rfl
  · show n_ptot (n_innSeeks w g) + 1 ≤ n_ptot w + 5
    unfold n_innSeeks
    split
    · omega
    · next c =>
      obtain ⟨d, hd⟩ : ∃ d, n_choice w g = d + 1 := ⟨n_choice w g - 1, by omega⟩
      rw [hd, Nat.add_sub_cancel]
      have E : ∀ i, 192 ≤ i → nu (n_settle w d 1 (w 554 + w 556)) (96 + 6 * d + 2) g i = w i := fun i hi => by rw [nu_ne1 (by omega), S _ _ _ _ (by omega) hi]
      have h1 := n_ptot_post (w := nu (n_settle w d 1 (w 554 + w 556)) (96 + 6 * d + 2) g) (k := 1) (g := g) (r := d) (a := 0) (t := 0) (by omega) (by rw [E _ (by omega)]; exact hm)
      rw [n_ptot_lo (fun i h1 h2 => E i h1) hm] at h1
      have : n_wt 1 = 4 := rfl
      omega
  · show n_ptot (if w (8 * g) = 1 then n_want (nu (nu w (8 * g) 2) (8 * g + 1) r) g else w) + 1 ≤ n_ptot w + 4
    split
    · unfold n_want
      have E : ∀ i, 192 ≤ i → nu (nu w (8 * g) 2) (8 * g + 1) r i = w i := fun i hi => by rw [nu_ne1 (by omega), nu_ne1 (by omega)]
      have hm2 : nu (nu w (8 * g) 2) (8 * g + 1) r 552 ≤ 60 := by rw [E _ (by omega)]; exact hm
      have h1 := n_ptot_post (w := nu (nu w (8 * g) 2) (8 * g + 1) r) (k := 2) (g := g) (r := nu (nu w (8 * g) 2) (8 * g + 1) r (8 * g + 1)) (a := 0) (t := 0) (by omega) hm2
      rw [n_ptot_lo (fun i h1 h2 => E i h1) hm] at h1
      have e5 : n_post (nu (nu w (8 * g) 2) (8 * g + 1) r) 2 g (nu (nu w (8 * g) 2) (8 * g + 1) r (8 * g + 1)) 0 0 552 ≤ 60 := by
        rw [n_post_many (by omega) hm2]; split <;> omega
      rw [n_ptot_lo (w := n_post (nu (nu w (8 * g) 2) (8 * g + 1) r) 2 g (nu (nu w (8 * g) 2) (8 * g + 1) r (8 * g + 1)) 0 0) (fun i h1 h2 => by rw [nu_ne1 (by omega), nu_ne1 (by omega)]) e5]
      have : n_wt 2 = 3 := rfl
      omega
    · omega
  · show n_ptot (n_innWants w g r m) + 1 ≤ n_ptot w + 3
    unfold n_innWants
    split
    · have h1 := n_ptot_post (w := w) (k := 4) (g := g) (r := r) (a := m) (t := 0) (by omega) hm
      have : n_wt 4 = 1 := rfl
      omega
    · obtain ⟨u, hu⟩ : ∃ u, u = (if n_has w r 2 g ∧ w 554 + w 555 < w (96 + 6 * r + 1) then w (96 + 6 * r + 1) else w 554 + w 555) := ⟨_, rfl⟩
      rw [← hu]
      have E : ∀ i, 192 ≤ i → i ≤ 552 → nu (nu (n_settle w r 2 u) (8 * g + 7) (r + 1)) 560 (w 560 + 1) i = w i := fun i hi h2 => by rw [nu_ne1 (by omega), nu_ne1 (by omega), S _ _ _ _ hr hi]
      have hm2 : nu (nu (n_settle w r 2 u) (8 * g + 7) (r + 1)) 560 (w 560 + 1) 552 ≤ 60 := by rw [E _ (by omega) (by omega)]; exact hm
      have h1 := n_ptot_post (w := nu (nu (n_settle w r 2 u) (8 * g + 7) (r + 1)) 560 (w 560 + 1)) (k := 3) (g := g) (r := r) (a := m) (t := w 555) (by omega) hm2
      rw [n_ptot_lo E hm] at h1
      have e5 : n_post (nu (nu (n_settle w r 2 u) (8 * g + 7) (r + 1)) 560 (w 560 + 1)) 3 g r m (w 555) 552 ≤ 60 := by
        rw [n_post_many (by omega) hm2]; split <;> omega
      rw [n_ptot_lo (w := n_post (nu (nu (n_settle w r 2 u) (8 * g + 7) (r + 1)) 560 (w 560 + 1)) 3 g r m (w 555)) (fun i h1 h2 => by rw [nu_ne1 (by omega)]) e5]
      have : n_wt 3 = 2 := rfl
      omega
  · show n_ptot (if n_heeds w g r a then n_guestYes w g r t else w) + 1 ≤ n_ptot w + 2
    split
    · unfold n_guestYes
      split
      · rw [n_ptot_lo (fun i h1 h2 => by rw [nu_ne1 (by omega)]) hm]; omega
      · split
        · have h1 := n_ptot_post (w := w) (k := 5) (g := g) (r := r) (a := 0) (t := 0) (by omega) hm
          have e5 : n_post w 5 g r 0 0 552 ≤ 60 := by
            rw [n_post_many (by omega) hm]; split <;> omega
          rw [n_ptot_lo (w := n_post w 5 g r 0 0) (fun i h1 h2 => by rw [nu_ne1 (by omega)]) e5]
          have : n_wt 5 = 1 := rfl
          omega
        · rw [n_ptot_lo (w := w) (fun i h1 h2 => by rw [nu_ne1 (by omega), nu_ne1 (by omega), nu_ne1 (by omega), nu_ne1 (by omega)]) hm]; omega
    · omega
  · show n_ptot (if n_heeds w g r a then nu w (8 * g) 0 else w) + 1 ≤ n_ptot w + 1
    split
    · rw [n_ptot_lo (fun i h1 h2 => by rw [nu_ne1 (by omega)]) hm]; omega
    · omega
  · show n_ptot (n_innEnds w 5 g r m) + 1 ≤ n_ptot w + 1
    unfold n_innEnds
    split
    · omega
    · rw [n_ptot_lo (w := w) (fun i h1 h2 => by rw [nu_ne1 (by omega), S _ _ _ _ hr h1]) hm]; omega
  · show n_ptot (n_innEnds w 6 g r m) + 1 ≤ n_ptot w + 1
    unfold n_innEnds
    split
    · omega
    · rw [n_ptot_lo (w := w) (fun i h1 h2 => by rw [nu_ne1 (by omega), S _ _ _ _ hr h1]) hm]; omega
set_option maxRecDepth 16384 in
theorem n_ptot_handle {w : Nat → Nat} (Z : Wz w) (h : 0 < w 552) : n_ptot (n_handle w 0) + 1 ≤ n_ptot w := by
  have hm := Z.2.2.1.2
  obtain ⟨p0, p1, p2, p3, p4, p5⟩ := Z.2.2.1.1 0 h
  have h1 := n_ptot_act (m := w (192 + 6 * 0 + 3)) (a := w (192 + 6 * 0 + 4)) (t := w (192 + 6 * 0 + 5)) (Wz_gone Z h) p0 p1 p2
  have e2 : nu (n_take w 0) 559 (w 559 + 1) 552 = w 552 - 1 := by rw [nu_ne1 (by omega), n_take_at w 0 _ hm, if_pos rfl]
  have h2 : n_ptot w = n_wt (w 192) + n_ptot (nu (n_take w 0) 559 (w 559 + 1)) := by
    unfold n_ptot
    rw [e2]
    obtain ⟨d, hd⟩ : ∃ d, w 552 = d + 1 := ⟨w 552 - 1, by omega⟩
    rw [hd, Nat.add_sub_cancel]
    refine n_pot_tail d (fun q hq => ?_)
    rw [nu_ne1 (by omega), n_take_at w 0 _ hm, if_neg (by omega), if_pos (by omega)]
    congr 1
  unfold n_handle
  rw [h2]
  have e0 : w (192 + 6 * 0) = w 192 := rfl
  rw [← e0]
  omega
def n_all : Nat → (Nat → Nat) → Nat × (Nat → Nat)
  | 0, w => (0, w)
  | d + 1, w => if w 552 = 0 then (0, w) else ((n_all d (n_handle w 0)).1 + 1, (n_all d (n_handle w 0)).2)
set_option maxRecDepth 16384 in
theorem v_all : ∀ (d n B : Nat) (v : x_V) (w : Nat → Nat) (c : Nat), Rv v w → Wf B w → n_ptot w ≤ d → d < n → B + d * 1001 + 1001 ≤ 1000000000 → Ok (fX7_handleAll_b2 n v (nn c)) (fun q => q.1 = nn (c + (n_all d w).1) ∧ Rv q.2 (n_all d w).2) ∧ Wf (B + d * 1001) (n_all d w).2 ∧ (n_all d w).2 552 = 0 ∧ (n_all d w).1 ≤ d := by
  intro d
  induction d with
  | zero =>
    intro n B v w c R F hp hn h9
    obtain ⟨n, rfl⟩ : ∃ m, n = m + 1 := ⟨n - 1, by omega⟩
    have h0 : w 552 = 0 := by
      have := (n_pot_le w (w 552)).1
      unfold n_ptot at hp
      omega
    have e1 : v (Int32.toNatClampNeg 552) = nn 0 := by (try simp (disch := omega) only [nn_add, nn_mul, nn_clamp, nn_in1, nn_inj, nn_lt, nn_le, nn_neg, nu_eq1, nu_ne1, nn_nb0, nn_true, nn_false, if_true, if_false, x_let_n, x_let_m, xb_some, eq_self, ite_true, ite_false, not_false_eq_true, not_true_eq_false, nneg1, nl0, nl1, nl2, nl3, nl4, nl5, nl6, nl7, nl8, nl9, nl10, nl11, nl12, nl15, nl16, nl60, nl96, nl192, nl552, nl553, nl554, nl555, nl556, nl557, nl558, nl559, nl560, nl561, nl562, nl563, nl570, R])
    rw [fX7_handleAll_b2, n_all, e1, if_pos (by decide)]
    exact ⟨Ok_some ⟨rfl, R⟩, by rw [Nat.zero_mul]; exact F, h0, Nat.le_refl _⟩
  | succ d ih =>
    intro n B v w c R F hp hn h9
    obtain ⟨n, rfl⟩ : ∃ m, n = m + 1 := ⟨n - 1, by omega⟩
    have hm := F.1.2.2.1.2
    have e1 : v (Int32.toNatClampNeg 552) = nn (w 552) := by (try simp (disch := omega) only [nn_add, nn_mul, nn_clamp, nn_in1, nn_inj, nn_lt, nn_le, nn_neg, nu_eq1, nu_ne1, nn_nb0, nn_true, nn_false, if_true, if_false, x_let_n, x_let_m, xb_some, eq_self, ite_true, ite_false, not_false_eq_true, not_true_eq_false, nneg1, nl0, nl1, nl2, nl3, nl4, nl5, nl6, nl7, nl8, nl9, nl10, nl11, nl12, nl15, nl16, nl60, nl96, nl192, nl552, nl553, nl554, nl555, nl556, nl557, nl558, nl559, nl560, nl561, nl562, nl563, nl570, R])
    rw [fX7_handleAll_b2, n_all, e1]
    by_cases h0 : w 552 = 0
    · rw [if_pos h0, if_pos (show nn (w 552) ≤ (0 : Int32) from (nn_le (b := 0) (by omega) (by omega)).mpr (by omega))]
      exact ⟨Ok_some ⟨rfl, R⟩, ⟨F.1, F.2.1, Wb_up F.2.2 (by omega) (by omega)⟩, h0, Nat.zero_le _⟩
    · rw [if_neg h0, if_neg (show ¬ nn (w 552) ≤ (0 : Int32) from fun h => by have := (nn_le (b := 0) (by omega) (by omega)).mp h; omega)]
      have hp2 := n_ptot_handle F.1 (by omega : 0 < w 552)
      have F1 := Wf_handle F (by omega : 0 < w 552) (by omega)
      obtain ⟨q, hq, hq1, R1⟩ := v_handle R F.1 F.2.2 (by omega) (by omega : 0 < w 552)
      have hq' : fX7_handle v (0 : Int32) = some q := hq
      have I := ih n (B + 1001) q.2 (n_handle w 0) (c + 1) R1 F1 (by omega) (by omega) (by omega)
      rw [hq', xb_some]
      have e3 : nn c + (1 : Int32) = nn (c + 1) := nn_add c 1
      rw [e3, x_let_n]
      refine ⟨Ok_mono I.1 (fun q' hq' => ⟨?_, hq'.2⟩), ?_, I.2.2.1, by have := I.2.2.2; omega⟩
      · rw [hq'.1]
        congr 1
        omega
      · have F2 := I.2.1
        rw [show B + (d + 1) * 1001 = B + 1001 + d * 1001 by omega]
        exact F2
set_option maxRecDepth 16384 in
theorem n_ptot_le {w : Nat → Nat} (hm : w 552 ≤ 60) : n_ptot w ≤ 300 := by
  have := (n_pot_le w (w 552)).2
  unfold n_ptot
  omega
def n_each (w : Nat → Nat) : Nat × (Nat → Nat) := n_all 300 w
set_option maxRecDepth 16384 in
theorem v_each {B : Nat} {v : x_V} {w : Nat → Nat} (R : Rv v w) (F : Wf B w) (h9 : B + 400000 ≤ 1000000000) : Ok (fX7_handleAll v) (fun q => q.1 = nn (n_each w).1 ∧ Rv q.2 (n_each w).2) ∧ Wf (B + 301000) (n_each w).2 ∧ (n_each w).2 552 = 0 ∧ (n_each w).1 ≤ 300 := by
  have h := v_all 300 2000 B v w 0 R F (n_ptot_le F.1.2.2.1.2) (by omega) (by omega)
  unfold n_each fX7_handleAll
  refine ⟨Ok_mono h.1 (fun q hq => ⟨?_, hq.2⟩), ⟨h.2.1.1, h.2.1.2.1, Wb_up h.2.1.2.2 (by omega) (by omega)⟩, h.2.2⟩
  rw [hq.1, Nat.zero_add]
