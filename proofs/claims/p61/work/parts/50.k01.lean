/-! ===== what kept() asks for: a guest who has a room has its lease, not behind the inn; the sums ===== -/
def WvQ (w : Nat → Nat) (Q : Nat → Nat → Nat → Prop) : Prop :=
  (∀ g, g < 12 → w (8 * g) = 3 → Q g (w (8 * g + 1)) (w (8 * g + 2) + w (8 * g + 3))) ∧
  (∀ p, p < w 552 → w (192 + 6 * p) = 3 → n_heeds w (w (192 + 6 * p + 1)) (w (192 + 6 * p + 2)) (w (192 + 6 * p + 4)) → Q (w (192 + 6 * p + 1)) (w (192 + 6 * p + 2)) (w (8 * w (192 + 6 * p + 1) + 5) + w (192 + 6 * p + 5)))
/- no message about this lease that came behind its latest yes waits -/
def Nf (w : Nat → Nat) (g r : Nat) : Prop := ∀ p, p < w 552 → (w (192 + 6 * p) = 5 ∨ w (192 + 6 * p) = 6) → w (192 + 6 * p + 1) = g → w (192 + 6 * p + 2) = r → w (192 + 6 * p + 3) ≤ w (96 + 6 * r + 3)
def Gd (w : Nat → Nat) (g r e : Nat) : Prop := r < 16 ∧ w (96 + 6 * r) = 2 ∧ w (96 + 6 * r + 2) = g ∧ e ≤ w (96 + 6 * r + 1) ∧ Nf w g r
def Gv (w : Nat → Nat) (g r e : Nat) : Prop := e ≤ w 554 ∨ Gd w g r e
def Wv (w : Nat → Nat) : Prop := WvQ w (Gv w)
def n_sk (w : Nat → Nat) : Nat := w 563 + w 564 + w 565 + w 566 + w 567 + w 568 + w 569
def Ws (w : Nat → Nat) : Prop := n_sk w = w 558 + w 559 + w 552 ∧ w 560 = w 566
def Wc (w : Nat → Nat) : Prop := ∀ g, g < 12 → w (8 * g) = 3 → 1 ≤ w (8 * g + 6)
def Wk (w : Nat → Nat) : Prop := Wv w ∧ Ws w ∧ Wc w
def Wy (w : Nat → Nat) : Prop := w 552 ≤ 60 ∧ ∀ p, p < w 552 → w (192 + 6 * p + 1) < 12
set_option maxRecDepth 16384 in
theorem Wy_of {w : Nat → Nat} (Z : Wz w) : Wy w := ⟨Z.2.2.1.2, fun p hp => (Z.2.2.1.1 p hp).2.1⟩
section KA
variable {w w' : Nat → Nat} {Q Q' : Nat → Nat → Nat → Prop} {g r e k a t : Nat}
set_option maxRecDepth 16384 in
theorem WvQ_mono (h : WvQ w Q) (hQ : ∀ g r e, Q g r e → Q' g r e) : WvQ w Q' := ⟨fun g hg h3 => hQ _ _ _ (h.1 g hg h3), fun p hp h3 hh => hQ _ _ _ (h.2 p hp h3 hh)⟩
/- guests and messages as they were -/
set_option maxRecDepth 16384 in
theorem WvQ_same (Z : Wy w) (h : WvQ w Q) (e1 : ∀ i, i < 96 → i % 8 ≠ 7 → w' i = w i) (e2 : ∀ i, 192 ≤ i → i ≤ 552 → w' i = w i) : WvQ w' Q := by
  have hm := Z.1
  refine ⟨fun g hg h3 => ?_, fun p hp h3 hh => ?_⟩
  · rw [e1 _ (by omega) (by omega)] at h3
    rw [e1 (8 * g + 1) (by omega) (by omega), e1 (8 * g + 2) (by omega) (by omega), e1 (8 * g + 3) (by omega) (by omega)]
    exact h.1 g hg h3
  · rw [e2 552 (by omega) (by omega)] at hp
    have z := Z.2 p hp
    have m0 := e2 (192 + 6 * p) (by omega) (by omega)
    have m1 := e2 (192 + 6 * p + 1) (by omega) (by omega)
    have m2 := e2 (192 + 6 * p + 2) (by omega) (by omega)
    have m4 := e2 (192 + 6 * p + 4) (by omega) (by omega)
    have m5 := e2 (192 + 6 * p + 5) (by omega) (by omega)
    rw [m0] at h3
    rw [m1, m2, m4] at hh
    rw [m1, m2, m5, e1 (8 * w (192 + 6 * p + 1) + 5) (by omega) (by omega)]
    refine h.2 p hp h3 ?_
    unfold n_heeds at hh ⊢
    rw [e1 _ (by omega) (by omega), e1 (8 * w (192 + 6 * p + 1) + 1) (by omega) (by omega), e1 (8 * w (192 + 6 * p + 1) + 4) (by omega) (by omega)] at hh
    exact hh
/- one guest changes -/
set_option maxRecDepth 16384 in
theorem WvQ_guest (Z : Wy w) (h : WvQ w Q) (g : Nat) (e1 : ∀ i, i < 8 * g ∨ (8 * g + 8 ≤ i ∧ i ≤ 552) → w' i = w i)
    (h3 : g < 12 → w' (8 * g) = 3 → Q g (w' (8 * g + 1)) (w' (8 * g + 2) + w' (8 * g + 3)))
    (hy : ∀ p, p < w 552 → w (192 + 6 * p) = 3 → w (192 + 6 * p + 1) = g → n_heeds w' g (w (192 + 6 * p + 2)) (w (192 + 6 * p + 4)) → Q g (w (192 + 6 * p + 2)) (w' (8 * g + 5) + w (192 + 6 * p + 5))) (hg : g < 12) : WvQ w' Q := by
  have hm := Z.1
  refine ⟨fun g' hg' q3 => ?_, fun p hp q3 hh => ?_⟩
  · by_cases c : g' = g
    · rw [c] at q3 ⊢
      exact h3 hg q3
    · rw [e1 _ (by omega)] at q3
      rw [e1 (8 * g' + 1) (by omega), e1 (8 * g' + 2) (by omega), e1 (8 * g' + 3) (by omega)]
      exact h.1 g' hg' q3
  · rw [e1 552 (by omega)] at hp
    have z := Z.2 p hp
    rw [e1 (192 + 6 * p) (by omega)] at q3
    rw [e1 (192 + 6 * p + 1) (by omega), e1 (192 + 6 * p + 2) (by omega), e1 (192 + 6 * p + 4) (by omega)] at hh
    rw [e1 (192 + 6 * p + 1) (by omega), e1 (192 + 6 * p + 2) (by omega), e1 (192 + 6 * p + 5) (by omega)]
    by_cases c : w (192 + 6 * p + 1) = g
    · rw [c] at hh ⊢
      exact hy p hp q3 c hh
    · rw [e1 (8 * w (192 + 6 * p + 1) + 5) (by omega)]
      refine h.2 p hp q3 ?_
      unfold n_heeds at hh ⊢
      rw [e1 _ (by omega), e1 (8 * w (192 + 6 * p + 1) + 1) (by omega), e1 (8 * w (192 + 6 * p + 1) + 4) (by omega)] at hh
      exact hh
/- a guest who neither wants nor has a room tells nothing of leases -/
set_option maxRecDepth 16384 in
theorem WvQ_clean (Z : Wy w) (h : WvQ w Q) (hc : w (8 * g) ≤ 1) : WvQ w (fun g' r e => g' ≠ g ∧ Q g' r e) := by
  refine ⟨fun g' hg' q3 => ⟨fun c => ?_, h.1 g' hg' q3⟩, fun p hp q3 hh => ⟨fun c => ?_, h.2 p hp q3 hh⟩⟩
  · rw [c] at q3; omega
  · rw [c] at hh
    have := hh.1
    omega
set_option maxRecDepth 16384 in
theorem WvQ_post (Z : Wy w) (h : WvQ w Q) (hk : k < 7) (hg : g < 12) (h3 : k = 3 → n_heeds w g r a → Q g r (w (8 * g + 5) + t)) : WvQ (n_post w k g r a t) Q := by
  have hm := Z.1
  have lo : ∀ i, i < 192 → n_post w k g r a t i = w i := fun i hi => n_post_lo hk hm hi
  refine ⟨fun g' hg' q3 => ?_, fun p hp q3 hh => ?_⟩
  · rw [lo _ (by omega)] at q3
    rw [lo (8 * g' + 1) (by omega), lo (8 * g' + 2) (by omega), lo (8 * g' + 3) (by omega)]
    exact h.1 g' hg' q3
  · by_cases c : p < w 552
    · have z := Z.2 p c
      have o0 : n_post w k g r a t (192 + 6 * p) = w (192 + 6 * p) := n_post_old (j := 0) hk hm c (by omega)
      have o1 := n_post_old (k := k) (g := g) (r := r) (a := a) (t := t) (j := 1) hk hm c (by omega)
      have o2 := n_post_old (k := k) (g := g) (r := r) (a := a) (t := t) (j := 2) hk hm c (by omega)
      have o4 := n_post_old (k := k) (g := g) (r := r) (a := a) (t := t) (j := 4) hk hm c (by omega)
      have o5 := n_post_old (k := k) (g := g) (r := r) (a := a) (t := t) (j := 5) hk hm c (by omega)
      rw [o0] at q3
      rw [o1, o2, o4] at hh
      rw [o1, o2, o5, lo (8 * w (192 + 6 * p + 1) + 5) (by omega)]
      refine h.2 p c q3 ?_
      unfold n_heeds at hh ⊢
      rw [lo _ (by omega), lo (8 * w (192 + 6 * p + 1) + 1) (by omega), lo (8 * w (192 + 6 * p + 1) + 4) (by omega)] at hh
      exact hh
    · rw [n_post_many hk hm] at hp
      by_cases c6 : w 552 = 60
      · rw [if_pos c6] at hp; omega
      · rw [if_neg c6] at hp
        have hp' : p = w 552 := by omega
        obtain ⟨n0, n1, n2, -, n4, n5⟩ := n_post_new (w := w) (k := k) (g := g) (r := r) (a := a) (t := t) hk (by omega)
        rw [← hp'] at n0 n1 n2 n4 n5
        rw [n0] at q3
        rw [n1, n2, n4] at hh
        rw [n1, n2, n5, lo (8 * g + 5) (by omega)]
        refine h3 q3 ?_
        unfold n_heeds at hh ⊢
        rw [lo _ (by omega), lo (8 * g + 1) (by omega), lo (8 * g + 4) (by omega)] at hh
        exact hh
/- the row without a message -/
set_option maxRecDepth 16384 in
theorem gone_552 (hm : w 552 ≤ 60) (p : Nat) : nu (n_take w p) 559 (w 559 + 1) 552 = w 552 - 1 := by rw [nu_ne1 (by omega), n_take_at w p _ hm, if_pos rfl]
set_option maxRecDepth 16384 in
theorem gone_m (hm : w 552 ≤ 60) {p q j : Nat} (hq : q < w 552 - 1) (hj : j < 6) (x : Nat) : nu (n_take w p) 559 x (192 + 6 * q + j) = w (192 + 6 * (if q < p then q else q + 1) + j) := by
  rw [nu_ne1 (by omega), n_take_at w p _ hm, if_neg (by omega)]
  by_cases c : q < p
  · rw [if_neg (by omega), if_pos c]
  · rw [if_pos (by omega), if_neg c]
    congr 1
    omega
set_option maxRecDepth 16384 in
theorem WvQ_gone (Z : Wy w) (h : WvQ w Q) {p : Nat} (hp : p < w 552) : WvQ (nu (n_take w p) 559 (w 559 + 1)) Q := by
  have hm := Z.1
  have G := fun i h => n_gone (p := p) hm (i := i) h
  refine ⟨fun g hg h3 => ?_, fun q hq h3 hh => ?_⟩
  · rw [G _ (by omega)] at h3
    rw [G (8 * g + 1) (by omega), G (8 * g + 2) (by omega), G (8 * g + 3) (by omega)]
    exact h.1 g hg h3
  · rw [gone_552 hm] at hq
    have K0 : nu (n_take w p) 559 (w 559 + 1) (192 + 6 * q) = w (192 + 6 * (if q < p then q else q + 1)) := gone_m hm hq (j := 0) (by omega) _
    have K := fun j hj => gone_m hm (p := p) (q := q) (j := j) hq hj (w 559 + 1)
    have hq' : (if q < p then q else q + 1) < w 552 := by split <;> omega
    have z := Z.2 _ hq'
    rw [K0] at h3
    rw [K 1 (by omega), K 2 (by omega), K 4 (by omega)] at hh
    rw [K 1 (by omega), K 2 (by omega), K 5 (by omega), G (8 * w (192 + 6 * (if q < p then q else q + 1) + 1) + 5) (by omega)]
    refine h.2 _ hq' h3 ?_
    unfold n_heeds at hh ⊢
    rw [G _ (by omega), G (8 * w (192 + 6 * (if q < p then q else q + 1) + 1) + 1) (by omega), G (8 * w (192 + 6 * (if q < p then q else q + 1) + 1) + 4) (by omega)] at hh
    exact hh
/- what holds of a lease goes on to hold: rooms and messages as they were (or fewer) -/
set_option maxRecDepth 16384 in
theorem Gv_gone (Z : Wy w) {p : Nat} (hp : p < w 552) (h : Gv w g r e) : Gv (nu (n_take w p) 559 (w 559 + 1)) g r e := by
  have hm := Z.1
  have G := fun i h => n_gone (p := p) hm (i := i) h
  rcases h with h | ⟨h1, h2, h3, h4, h5⟩
  · left; rw [G 554 (by omega)]; exact h
  · right
    refine ⟨h1, by rw [G _ (by omega)]; exact h2, by rw [G _ (by omega)]; exact h3, by rw [G _ (by omega)]; exact h4, fun q hq c1 c2 c3 => ?_⟩
    rw [gone_552 hm] at hq
    have K0 : nu (n_take w p) 559 (w 559 + 1) (192 + 6 * q) = w (192 + 6 * (if q < p then q else q + 1)) := gone_m hm hq (j := 0) (by omega) _
    have K := fun j hj => gone_m hm (p := p) (q := q) (j := j) hq hj (w 559 + 1)
    have hq' : (if q < p then q else q + 1) < w 552 := by split <;> omega
    rw [K0] at c1
    rw [K 1 (by omega)] at c2
    rw [K 2 (by omega)] at c3
    rw [K 3 (by omega), G (96 + 6 * r + 3) (by omega)]
    exact h5 _ hq' c1 c2 c3
set_option maxRecDepth 16384 in
theorem Gv_same (hm : w 552 ≤ 60) (h : Gv w g r e) (e1 : ∀ i, 96 ≤ i → i < 192 → i % 6 ≤ 3 → w' i = w i) (e2 : ∀ i, 192 ≤ i → i ≤ 552 → w' i = w i) (et : w 554 ≤ w' 554) : Gv w' g r e := by
  rcases h with h | ⟨h1, h2, h3, h4, h5⟩
  · left; omega
  · right
    refine ⟨h1, by rw [e1 _ (by omega) (by omega) (by omega)]; exact h2, by rw [e1 _ (by omega) (by omega) (by omega)]; exact h3, by rw [e1 _ (by omega) (by omega) (by omega)]; exact h4, fun q hq c1 c2 c3 => ?_⟩
    rw [e2 552 (by omega) (by omega)] at hq
    rw [e2 _ (by omega) (by omega)] at c1 c2 c3
    rw [e2 _ (by omega) (by omega), e1 (96 + 6 * r + 3) (by omega) (by omega) (by omega)]
    exact h5 q hq c1 c2 c3
set_option maxRecDepth 16384 in
theorem Gv_post (Z : Wy w) (h : Gv w g r e) {g0 r0 : Nat} (hk : k < 7) (hn : k = 5 ∨ k = 6 → g ≠ g0) : Gv (n_post w k g0 r0 a t) g r e := by
  have hm := Z.1
  have lo : ∀ i, i < 192 → n_post w k g0 r0 a t i = w i := fun i hi => n_post_lo hk hm hi
  rcases h with h | ⟨h1, h2, h3, h4, h5⟩
  · left; rw [n_post_554 hk hm]; exact h
  · right
    refine ⟨h1, by rw [lo _ (by omega)]; exact h2, by rw [lo _ (by omega)]; exact h3, by rw [lo _ (by omega)]; exact h4, fun p hp c1 c2 c3 => ?_⟩
    rw [lo (96 + 6 * r + 3) (by omega)]
    by_cases c : p < w 552
    · have o0 : n_post w k g0 r0 a t (192 + 6 * p) = w (192 + 6 * p) := n_post_old (j := 0) hk hm c (by omega)
      rw [o0] at c1
      rw [n_post_old (j := 1) hk hm c (by omega)] at c2
      rw [n_post_old (j := 2) hk hm c (by omega)] at c3
      rw [n_post_old (j := 3) hk hm c (by omega)]
      exact h5 p c c1 c2 c3
    · rw [n_post_many hk hm] at hp
      by_cases c6 : w 552 = 60
      · rw [if_pos c6] at hp; omega
      · rw [if_neg c6] at hp
        have hp' : p = w 552 := by omega
        obtain ⟨n0, n1, -⟩ := n_post_new (w := w) (k := k) (g := g0) (r := r0) (a := a) (t := t) hk (by omega)
        rw [← hp'] at n0 n1
        rw [n0] at c1
        rw [n1] at c2
        exact absurd c2.symm (hn c1)
/-! sums -/
set_option maxRecDepth 16384 in
theorem Ws_of (h : Ws w) (e : ∀ i, i = 552 ∨ i = 558 ∨ i = 559 ∨ i = 560 ∨ (563 ≤ i ∧ i ≤ 569) → w' i = w i) : Ws w' := by
  obtain ⟨h1, h2⟩ := h
  refine ⟨?_, ?_⟩
  · unfold n_sk at h1 ⊢
    rw [e 563 (by omega), e 564 (by omega), e 565 (by omega), e 566 (by omega), e 567 (by omega), e 568 (by omega), e 569 (by omega), e 558 (by omega), e 559 (by omega), e 552 (by omega)]
    exact h1
  · rw [e 560 (by omega), e 566 (by omega)]; exact h2
set_option maxRecDepth 16384 in
theorem n_post_558 (hk : k < 7) (hm : w 552 ≤ 60) : n_post w k g r a t 558 = if w 552 = 60 then w 558 + 1 else w 558 := by
  unfold n_post
  split <;> (try simp (disch := omega) only [nn_add, nn_mul, nn_clamp, nn_in1, nn_inj, nn_lt, nn_le, nn_neg, nu_eq1, nu_ne1, nn_nb0, nn_true, nn_false, if_true, if_false, x_let_n, x_let_m, xb_some, eq_self, ite_true, ite_false, not_false_eq_true, not_true_eq_false, nneg1, nl0, nl1, nl2, nl3, nl4, nl5, nl6, nl7, nl8, nl9, nl10, nl11, nl12, nl15, nl16, nl60, nl96, nl192, nl552, nl553, nl554, nl555, nl556, nl557, nl558, nl559, nl560, nl561, nl562, nl563, nl570])
set_option maxRecDepth 16384 in
theorem n_post_kind (hk : k < 7) (hm : w 552 ≤ 60) : n_post w k g r a t (563 + k) = w (563 + k) + 1 := by
  unfold n_post
  split <;> (try simp (disch := omega) only [nn_add, nn_mul, nn_clamp, nn_in1, nn_inj, nn_lt, nn_le, nn_neg, nu_eq1, nu_ne1, nn_nb0, nn_true, nn_false, if_true, if_false, x_let_n, x_let_m, xb_some, eq_self, ite_true, ite_false, not_false_eq_true, not_true_eq_false, nneg1, nl0, nl1, nl2, nl3, nl4, nl5, nl6, nl7, nl8, nl9, nl10, nl11, nl12, nl15, nl16, nl60, nl96, nl192, nl552, nl553, nl554, nl555, nl556, nl557, nl558, nl559, nl560, nl561, nl562, nl563, nl570])
set_option maxRecDepth 16384 in
theorem n_post_k (hk : k < 7) (hm : w 552 ≤ 60) {j : Nat} (hj : j < 7) : n_post w k g r a t (563 + j) = w (563 + j) + if j = k then 1 else 0 := by
  by_cases c : j = k
  · rw [c, if_pos rfl]; exact n_post_kind hk hm
  · rw [if_neg c]; exact n_post_hi hk hm (by omega) (by omega) (by omega)
set_option maxRecDepth 16384 in
theorem n_post_s (hk : k < 7) (hm : w 552 ≤ 60) : n_sk (n_post w k g r a t) = n_sk w + 1 ∧ n_post w k g r a t 558 + n_post w k g r a t 559 + n_post w k g r a t 552 = w 558 + w 559 + w 552 + 1 := by
  have K := fun j hj => n_post_k (w := w) (k := k) (g := g) (r := r) (a := a) (t := t) hk hm (j := j) hj
  refine ⟨?_, ?_⟩
  · unfold n_sk
    have q0 : n_post w k g r a t 563 = w 563 + (if 0 = k then 1 else 0) := K 0 (by omega)
    have q1 : n_post w k g r a t 564 = w 564 + (if 1 = k then 1 else 0) := K 1 (by omega)
    have q2 : n_post w k g r a t 565 = w 565 + (if 2 = k then 1 else 0) := K 2 (by omega)
    have q3 : n_post w k g r a t 566 = w 566 + (if 3 = k then 1 else 0) := K 3 (by omega)
    have q4 : n_post w k g r a t 567 = w 567 + (if 4 = k then 1 else 0) := K 4 (by omega)
    have q5 : n_post w k g r a t 568 = w 568 + (if 5 = k then 1 else 0) := K 5 (by omega)
    have q6 : n_post w k g r a t 569 = w 569 + (if 6 = k then 1 else 0) := K 6 (by omega)
    rw [q0, q1, q2, q3, q4, q5, q6]
    clear q0 q1 q2 q3 q4 q5 q6 K
    rcases (show k = 0 ∨ k = 1 ∨ k = 2 ∨ k = 3 ∨ k = 4 ∨ k = 5 ∨ k = 6 by omega) with rfl | rfl | rfl | rfl | rfl | rfl | rfl <;> simp only [if_true, if_false, reduceIte, Nat.reduceEqDiff] <;> omega
  · rw [n_post_558 hk hm, n_post_many hk hm, n_post_hi hk hm (i := 559) (by omega) (by omega) (by omega)]
    split <;> omega
set_option maxRecDepth 16384 in
theorem Ws_post (h : Ws w) (hk : k < 7) (hm : w 552 ≤ 60) (h3 : k ≠ 3) : Ws (n_post w k g r a t) := by
  have S := n_post_s (w := w) (k := k) (g := g) (r := r) (a := a) (t := t) hk hm
  refine ⟨by rw [S.1, S.2, h.1], ?_⟩
  rw [n_post_hi hk hm (i := 560) (by omega) (by omega) (by omega), n_post_hi hk hm (i := 566) (by omega) (by omega) (by omega)]
  exact h.2
set_option maxRecDepth 16384 in
theorem Ws_gone (h : Ws w) {p : Nat} (hp : p < w 552) (hm : w 552 ≤ 60) : Ws (nu (n_take w p) 559 (w 559 + 1)) := by
  have G := fun i h => n_gone (p := p) hm (i := i) h
  refine ⟨?_, by rw [G 560 (by omega), G 566 (by omega)]; exact h.2⟩
  have h1 := h.1
  unfold n_sk at h1 ⊢
  rw [G 563 (by omega), G 564 (by omega), G 565 (by omega), G 566 (by omega), G 567 (by omega), G 568 (by omega), G 569 (by omega), G 558 (by omega), gone_552 hm, nu_eq1 rfl]
  omega
set_option maxRecDepth 16384 in
theorem Wc_of (h : Wc w) (e : ∀ g, g < 12 → w' (8 * g) = 3 → w (8 * g) = 3 ∧ w (8 * g + 6) ≤ w' (8 * g + 6)) : Wc w' := fun g hg h3 => Nat.le_trans (h g hg (e g hg h3).1) (e g hg h3).2
end KA
