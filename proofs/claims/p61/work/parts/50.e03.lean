def n_hs : Nat → (Nat → Nat) → Nat
  | 0, _ => 0
  | d + 1, w => (if w (8 * (11 - d)) = 3 then 1 else 0) + n_hs d w
def n_ls (w : Nat → Nat) (g : Nat) : Nat → Nat
  | 0 => 0
  | r + 1 => n_ls w g r + if w (96 + 6 * r) = 2 ∧ w (96 + 6 * r + 2) = g then 1 else 0
def RuG (u : x_H) (w : Nat → Nat) : Prop := ∀ g, g < 12 → u 5 g = nn (w (8 * g)) ∧ u 6 g = mm (if 2 ≤ w (8 * g) then w (8 * g + 1) + 1 else 0) ∧ u 7 g = mm (w (8 * g + 4)) ∧ u 8 g = nn (w (8 * g + 5)) ∧ u 9 g = nn (w (8 * g + 2)) ∧ u 10 g = nn (w (8 * g + 3)) ∧ u 11 g = nn (w (8 * g + 6)) ∧ u 17 g = mm (w (8 * g + 7))
def RuI (u : x_H) (w : Nat → Nat) : Prop := ∀ r, r < 16 → u 12 r = nn (w (96 + 6 * r)) ∧ u 13 r = mm (if w (96 + 6 * r) = 1 ∨ w (96 + 6 * r) = 2 then w (96 + 6 * r + 2) + 1 else 0) ∧ (w (96 + 6 * r) ≠ 0 → u 14 r = nn (w (96 + 6 * r + 1))) ∧ (w (96 + 6 * r) = 2 → u 15 r = mm (w (96 + 6 * r + 3))) ∧ u 16 r = mm (w (96 + 6 * r + 4))
def RuL (u : x_H) (w : Nat → Nat) : Prop := ∀ g, g < 12 → u 18 g = nn (n_ls w g 16)
def RuH (u : x_H) (w : Nat → Nat) : Prop := ∀ r, r < 16 → (u 2 0).toBitVec.getLsbD r = decide (w (96 + 6 * r + 5) = 1)
def RuM (u : x_H) (w : Nat → Nat) : Prop := u 3 0 = nn (w 552) ∧ ∀ p, p < w 552 → u 19 p = nn (w (192 + 6 * p)) ∧ u 20 p = nn (w (192 + 6 * p + 1)) ∧ u 21 p = mm (if w (192 + 6 * p) = 0 then 0 else w (192 + 6 * p + 2) + 1) ∧ u 22 p = mm (w (192 + 6 * p + 3)) ∧ u 23 p = mm (w (192 + 6 * p + 4)) ∧ u 24 p = nn (w (192 + 6 * p + 5))
def RuN (u : x_H) (w : Nat → Nat) : Prop := (u 0 0 = nn (w 554) ∧ u 0 1 = nn (w 553) ∧ u 0 2 = nn (w 558) ∧ u 0 3 = nn (w 559) ∧ u 0 4 = nn (w 560) ∧ u 0 5 = nn (w 561) ∧ u 0 6 = nn (w 562)) ∧ (u 2 1 = nn (w 555) ∧ u 2 2 = nn (w 556) ∧ u 2 3 = nn (w 557)) ∧ ∀ k, k < 7 → u 4 k = nn (w (563 + k))
def Ru (u : x_H) (w : Nat → Nat) : Prop := RuG u w ∧ RuI u w ∧ RuL u w ∧ RuH u w ∧ RuM u w ∧ RuN u w
set_option maxRecDepth 16384 in
theorem x_hu_ne {u : x_H} {k i k' i' : Nat} {x : Int32} (h : k' ≠ k) : x_hu u k i x k' i' = u k' i' := by
  unfold x_hu
  rw [x_hs_ne _ _ h]
set_option maxRecDepth 16384 in
theorem x_hu_ni {u : x_H} {k i k' i' : Nat} {x : Int32} (h : i' ≠ i) : x_hu u k i x k' i' = u k' i' := by
  by_cases c : k' = k
  · subst c
    unfold x_hu
    rw [x_hs_eq]
    exact if_neg h
  · exact x_hu_ne c
set_option maxRecDepth 16384 in
theorem x_hu_eq {u : x_H} {k i k' i' : Nat} {x : Int32} (h : k' = k) (h1 : i' = i) : x_hu u k i x k' i' = x := by
  subst h; subst h1
  unfold x_hu
  rw [x_hs_eq]
  exact if_pos rfl
set_option maxRecDepth 16384 in
theorem RuG_of {u u' : x_H} {w w' : Nat → Nat} (R : RuG u w) (h : ∀ k i, (5 ≤ k ∧ k ≤ 11) ∨ k = 17 → u' k i = u k i) (hw : ∀ i, i < 96 → w' i = w i) : RuG u' w' := by
  intro g hg
  rw [h _ _ (by omega), h _ _ (by omega), h _ _ (by omega), h _ _ (by omega), h _ _ (by omega), h _ _ (by omega), h _ _ (by omega), h _ _ (by omega)]
  rw [hw _ (by omega), hw _ (by omega), hw _ (by omega), hw _ (by omega), hw _ (by omega), hw _ (by omega), hw _ (by omega), hw _ (by omega)]
  exact R g hg
set_option maxRecDepth 16384 in
theorem RuI_of {u u' : x_H} {w w' : Nat → Nat} (R : RuI u w) (h : ∀ k i, 12 ≤ k ∧ k ≤ 16 → u' k i = u k i) (hw : ∀ i, 96 ≤ i → i < 192 → w' i = w i) : RuI u' w' := by
  intro r hr
  rw [h _ _ (by omega), h _ _ (by omega), h _ _ (by omega), h _ _ (by omega), h _ _ (by omega)]
  rw [hw _ (by omega) (by omega), hw _ (by omega) (by omega), hw _ (by omega) (by omega), hw _ (by omega) (by omega), hw _ (by omega) (by omega)]
  exact R r hr
set_option maxRecDepth 16384 in
theorem n_ls_of {w w' : Nat → Nat} {g : Nat} : ∀ d, d ≤ 16 → (∀ r, r < d → (w' (96 + 6 * r) = 2 ∧ w' (96 + 6 * r + 2) = g ↔ w (96 + 6 * r) = 2 ∧ w (96 + 6 * r + 2) = g)) → n_ls w' g d = n_ls w g d := by
  intro d
  induction d with
  | zero => intro _ _; rfl
  | succ d ih =>
    intro hd h
    show n_ls w' g d + _ = n_ls w g d + _
    rw [ih (by omega) (fun r hr => h r (by omega))]
    simp only [h d (by omega)]
set_option maxRecDepth 16384 in
theorem RuL_of {u u' : x_H} {w w' : Nat → Nat} (R : RuL u w) (h : ∀ i, u' 18 i = u 18 i) (hw : ∀ i, 96 ≤ i → i < 192 → w' i = w i) : RuL u' w' := by
  intro g hg
  rw [h, R g hg, n_ls_of (w := w) (w' := w') 16 (by omega) (fun r hr => by rw [hw _ (by omega) (by omega), hw _ (by omega) (by omega)])]
set_option maxRecDepth 16384 in
theorem RuH_of {u u' : x_H} {w w' : Nat → Nat} (R : RuH u w) (h : u' 2 0 = u 2 0) (hw : ∀ r, r < 16 → w' (96 + 6 * r + 5) = w (96 + 6 * r + 5)) : RuH u' w' := by
  intro r hr
  rw [h, hw r hr]; exact R r hr
set_option maxRecDepth 16384 in
theorem RuM_of {u u' : x_H} {w w' : Nat → Nat} (R : RuM u w) (h : ∀ k i, k = 3 ∨ (19 ≤ k ∧ k ≤ 24) → u' k i = u k i) (hw : ∀ i, 192 ≤ i → i ≤ 552 → w' i = w i) (hm : w 552 ≤ 60) : RuM u' w' := by
  refine ⟨?_, fun p hp => ?_⟩
  · rw [h _ _ (by omega), hw _ (by omega) (by omega)]; exact R.1
  · rw [hw 552 (by omega) (by omega)] at hp
    rw [h _ _ (by omega), h _ _ (by omega), h _ _ (by omega), h _ _ (by omega), h _ _ (by omega), h _ _ (by omega)]
    rw [hw _ (by omega) (by omega), hw _ (by omega) (by omega), hw _ (by omega) (by omega), hw _ (by omega) (by omega), hw _ (by omega) (by omega), hw _ (by omega) (by omega)]
    exact R.2 p hp
set_option maxRecDepth 16384 in
theorem RuN_of {u u' : x_H} {w w' : Nat → Nat} (R : RuN u w) (h : ∀ k i, k = 0 ∨ (k = 2 ∧ 1 ≤ i) ∨ k = 4 → u' k i = u k i) (hw : ∀ i, 553 ≤ i → w' i = w i) : RuN u' w' := by
  refine ⟨?_, ?_, fun k hk => ?_⟩
  · rw [h _ _ (by omega), h _ _ (by omega), h _ _ (by omega), h _ _ (by omega), h _ _ (by omega), h _ _ (by omega), h _ _ (by omega)]
    rw [hw _ (by omega), hw _ (by omega), hw _ (by omega), hw _ (by omega), hw _ (by omega), hw _ (by omega), hw _ (by omega)]
    exact R.1
  · rw [h _ _ (by omega), h _ _ (by omega), h _ _ (by omega), hw _ (by omega), hw _ (by omega), hw _ (by omega)]
    exact R.2.1
  · rw [h _ _ (by omega), hw _ (by omega)]
    exact R.2.2 k hk
set_option maxRecDepth 16384 in
theorem u_isGuest {g : Nat} (h : g < 12) : fX6_isGuest (nn g) = some (1 : Int32) := by
  unfold fX6_isGuest
  rw [if_neg (fun h => (nn_neg (by omega)).mp h), if_neg (fun h => by have := (nn_le (a := 12) (by omega) (by omega)).mp h; omega)]
set_option maxRecDepth 16384 in
theorem u_isRoom {g : Nat} (h : g < 16) : fX6_isRoom (nn g) = some (1 : Int32) := by
  unfold fX6_isRoom
  rw [if_neg (fun h => (nn_neg (by omega)).mp h), if_neg (fun h => by have := (nn_le (a := 16) (by omega) (by omega)).mp h; omega)]
set_option maxRecDepth 16384 in
theorem nn_one : ¬ (1 : Int32) = 0 := by decide
set_option maxRecDepth 16384 in
theorem u_send {u : x_H} {w : Nat → Nat} {B : Nat} (R : Ru u w) (hB : Wb B w) (hm : w 552 ≤ 60) {k g r a t : Nat} (hk : k < 7) {a3 : Int32} (ha3 : a3 = mm (if k = 0 then 0 else r + 1)) : Ok (fX2_send u (nn k) (nn g) a3 (mm a) (nn t)) (fun q => q.1 = mm (w 553 + 1) ∧ Ru q.2 (n_post w k g r a t)) := by
  obtain ⟨RG, RI, RL, RH, RM, RN⟩ := R
  have b0 := hB.1
  unfold fX2_send fX2_send_j36
  have e01 : u 0 1 = nn (w 553) := RN.1.2.1
  have e02 : u 0 2 = nn (w 558) := RN.1.2.2.1
  have e30 : u 3 0 = nn (w 552) := RM.1
  have e4 : u 4 k = nn (w (563 + k)) := RN.2.2 k hk
  have L := fun i (h : i < 192) => n_post_lo (w := w) (k := k) (g := g) (r := r) (a := a) (t := t) hk hm h
  have N3 := n_post_no (w := w) (k := k) (g := g) (r := r) (a := a) (t := t) hk hm
  have N2 := n_post_many (w := w) (k := k) (g := g) (r := r) (a := a) (t := t) hk hm
  have NH := fun i (h : 553 < i) (h1 : i ≠ 558) (h2 : i ≠ 563 + k) => n_post_hi (w := w) (k := k) (g := g) (r := r) (a := a) (t := t) hk hm h h1 h2
  rw [e01, x_let_n]
  have f4 : x_hu u 0 1 (nn (w 553) + 1) 4 k = nn (w (563 + k)) := by rw [x_hu_ne (by omega), e4]
  have f30 : ∀ x, x_hu (x_hu u 0 1 (nn (w 553) + 1)) 4 k x 3 0 = nn (w 552) := fun x => by rw [x_hu_ne (by omega), x_hu_ne (by omega), e30]
  have f02 : ∀ x, x_hu (x_hu u 0 1 (nn (w 553) + 1)) 4 k x 0 2 = nn (w 558) := fun x => by rw [x_hu_ne (by omega), x_hu_ni (by omega), e02]
  refine Ok_let (fun u1 e1 => ?_)
  subst e1
  rw [if_neg (fun h => (nn_neg (by omega)).mp h), if_neg (fun h => by have := (nn_le (a := 7) (by omega) (by omega)).mp h; omega), if_pos (nn_in (by omega) hk)]
  refine Ok_let (fun u2 e2 => ?_)
  rw [nn_clamp (by omega : k < 2147483648), f4] at e2
  subst e2
  rw [f30, x_let_n, if_neg (fun h => (nn_neg (by omega)).mp h)]
  have e1n : nn (w 553) + 1 = nn (w 553 + 1) := nn_add _ 1
  have e2n : nn (w (563 + k)) + 1 = nn (w (563 + k) + 1) := nn_add _ 1
  have K4 : ∀ k', k' < 7 → n_post w k g r a t (563 + k') = if k' = k then w (563 + k) + 1 else w (563 + k') := by
    intro k' hk'
    by_cases c : k' = k
    · subst c
      rw [if_pos rfl]
      unfold n_post
      split <;> (try simp (disch := omega) only [nn_add, nn_mul, nn_clamp, nn_in1, nn_inj, nn_lt, nn_le, nn_neg, nu_eq1, nu_ne1, nn_nb0, nn_true, nn_false, if_true, if_false, x_let_n, x_let_m, xb_some, eq_self, ite_true, ite_false, not_false_eq_true, not_true_eq_false, nneg1, nl0, nl1, nl2, nl3, nl4, nl5, nl6, nl7, nl8, nl9, nl10, nl11, nl12, nl15, nl16, nl60, nl96, nl192, nl552, nl553, nl554, nl555, nl556, nl557, nl558, nl559, nl560, nl561, nl562, nl563, nl570])
    · rw [if_neg c, NH _ (by omega) (by omega) (by omega)]
  by_cases c : w 552 = 60
  · rw [if_neg (fun h => by have := (nn_lt (b := 60) (by omega) (by omega)).mp h; omega), f02]
    have N8 : n_post w k g r a t 558 = w 558 + 1 := by unfold n_post; rw [if_pos c]; (try simp (disch := omega) only [nn_add, nn_mul, nn_clamp, nn_in1, nn_inj, nn_lt, nn_le, nn_neg, nu_eq1, nu_ne1, nn_nb0, nn_true, nn_false, if_true, if_false, x_let_n, x_let_m, xb_some, eq_self, ite_true, ite_false, not_false_eq_true, not_true_eq_false, nneg1, nl0, nl1, nl2, nl3, nl4, nl5, nl6, nl7, nl8, nl9, nl10, nl11, nl12, nl15, nl16, nl60, nl96, nl192, nl552, nl553, nl554, nl555, nl556, nl557, nl558, nl559, nl560, nl561, nl562, nl563, nl570])
    refine Ok_some ⟨(mm_succ _).symm, show Ru (x_hu (x_hu (x_hu u 0 1 (nn (w 553) + 1)) 4 k (nn (w (563 + k)) + 1)) 0 2 (nn (w 558) + 1)) _ from ⟨RuG_of RG (fun k' i h => ?_) (fun i h => L i (by omega)), RuI_of RI (fun k' i h => ?_) (fun i h h2 => L i h2), RuL_of RL (fun i => ?_) (fun i h h2 => L i h2), RuH_of RH ?_ (fun r hr => L _ (by omega)), ⟨?_, fun p hp => ?_⟩, ⟨?_, ?_, fun k' hk' => ?_⟩⟩⟩
    · rw [x_hu_ne (by omega), x_hu_ne (by omega), x_hu_ne (by omega)]
    · rw [x_hu_ne (by omega), x_hu_ne (by omega), x_hu_ne (by omega)]
    · rw [x_hu_ne (by omega), x_hu_ne (by omega), x_hu_ne (by omega)]
    · rw [x_hu_ne (by omega), x_hu_ne (by omega), x_hu_ne (by omega)]
    · rw [x_hu_ne (by omega), x_hu_ne (by omega), x_hu_ne (by omega), N2, if_pos c, e30, c]
    · rw [N2, if_pos c] at hp
      have O := fun j hj => n_post_old (w := w) (k := k) (g := g) (r := r) (a := a) (t := t) hk hm (show p < w 552 by omega) (j := j) hj
      have O0 : n_post w k g r a t (192 + 6 * p) = w (192 + 6 * p) := O 0 (by omega)
      have h := RM.2 p (by omega)
      rw [O0, O 1 (by omega), O 2 (by omega), O 3 (by omega), O 4 (by omega), O 5 (by omega)]
      repeat rw [x_hu_ne (show (19 : Nat) ≠ _ by omega)]
      repeat rw [x_hu_ne (show (20 : Nat) ≠ _ by omega)]
      repeat rw [x_hu_ne (show (21 : Nat) ≠ _ by omega)]
      repeat rw [x_hu_ne (show (22 : Nat) ≠ _ by omega)]
      repeat rw [x_hu_ne (show (23 : Nat) ≠ _ by omega)]
      repeat rw [x_hu_ne (show (24 : Nat) ≠ _ by omega)]
      exact h
    · obtain ⟨n0, n1, n2, n3, n4, n5, n6⟩ := RN.1
      rw [N3, N8, NH 554 (by omega) (by omega) (by omega), NH 559 (by omega) (by omega) (by omega), NH 560 (by omega) (by omega) (by omega), NH 561 (by omega) (by omega) (by omega), NH 562 (by omega) (by omega) (by omega)]
      refine ⟨?_, ?_, ?_, ?_, ?_, ?_, ?_⟩
      · rw [x_hu_ni (by omega), x_hu_ne (by omega), x_hu_ni (by omega)]; exact n0
      · rw [x_hu_ni (by omega), x_hu_ne (by omega), x_hu_eq rfl rfl]; exact e1n
      · rw [x_hu_eq rfl rfl]; exact nn_add _ 1
      · rw [x_hu_ni (by omega), x_hu_ne (by omega), x_hu_ni (by omega)]; exact n3
      · rw [x_hu_ni (by omega), x_hu_ne (by omega), x_hu_ni (by omega)]; exact n4
      · rw [x_hu_ni (by omega), x_hu_ne (by omega), x_hu_ni (by omega)]; exact n5
      · rw [x_hu_ni (by omega), x_hu_ne (by omega), x_hu_ni (by omega)]; exact n6
    · rw [NH 555 (by omega) (by omega) (by omega), NH 556 (by omega) (by omega) (by omega), NH 557 (by omega) (by omega) (by omega)]
      rw [x_hu_ne (by omega), x_hu_ne (by omega), x_hu_ne (by omega), x_hu_ne (by omega), x_hu_ne (by omega), x_hu_ne (by omega), x_hu_ne (by omega), x_hu_ne (by omega), x_hu_ne (by omega)]
      exact RN.2.1
    · rw [K4 k' hk', x_hu_ne (by omega)]
      by_cases ck : k' = k
      · rw [if_pos ck, x_hu_eq rfl ck]; exact e2n
      · rw [if_neg ck, x_hu_ni ck, x_hu_ne (by omega)]; exact RN.2.2 k' hk'
  · rw [if_pos (show nn (w 552) < (60 : Int32) from (nn_lt (b := 60) (by omega) (by omega)).mpr (by omega)), if_pos (nn_in (by omega) (by omega)), nn_clamp (by omega : w 552 < 2147483648)]
    have N8 : n_post w k g r a t 558 = w 558 := by unfold n_post; rw [if_neg c]; (try simp (disch := omega) only [nn_add, nn_mul, nn_clamp, nn_in1, nn_inj, nn_lt, nn_le, nn_neg, nu_eq1, nu_ne1, nn_nb0, nn_true, nn_false, if_true, if_false, x_let_n, x_let_m, xb_some, eq_self, ite_true, ite_false, not_false_eq_true, not_true_eq_false, nneg1, nl0, nl1, nl2, nl3, nl4, nl5, nl6, nl7, nl8, nl9, nl10, nl11, nl12, nl15, nl16, nl60, nl96, nl192, nl552, nl553, nl554, nl555, nl556, nl557, nl558, nl559, nl560, nl561, nl562, nl563, nl570])
    obtain ⟨w0, w1, w2, w3, w4, w5⟩ := n_post_new (w := w) (k := k) (g := g) (r := r) (a := a) (t := t) hk (by omega)
    refine Ok_let (fun u3 e3 => ?_)
    refine Ok_let (fun u4 e4 => ?_)
    refine Ok_let (fun u5 e5 => ?_)
    refine Ok_let (fun u6 e6 => ?_)
    refine Ok_let (fun u7 e7 => ?_)
    refine Ok_let (fun u8 e8 => ?_)
    refine Ok_let (fun u9 e9 => ?_)
    have D : ∀ k' i, k' ≠ 19 → k' ≠ 20 → k' ≠ 21 → k' ≠ 22 → k' ≠ 23 → k' ≠ 24 → u8 k' i = x_hu (x_hu u 0 1 (nn (w 553) + 1)) 4 k (nn (w (563 + k)) + 1) k' i := by
      intro k' i h1 h2 h3 h4 h5 h6
      rw [e8, x_hu_ne h6, e7, x_hu_ne h5, e6, x_hu_ne h4, e5, x_hu_ne h3, e4, x_hu_ne h2, e3, x_hu_ne h1]
    have D9 : ∀ k' i, k' ≠ 3 → k' ≠ 19 → k' ≠ 20 → k' ≠ 21 → k' ≠ 22 → k' ≠ 23 → k' ≠ 24 → u9 k' i = x_hu (x_hu u 0 1 (nn (w 553) + 1)) 4 k (nn (w (563 + k)) + 1) k' i := by
      intro k' i h0 h1 h2 h3 h4 h5 h6
      rw [e9, x_hu_ne h0, D k' i h1 h2 h3 h4 h5 h6]
    have D3 : u9 3 0 = nn (w 552 + 1) := by rw [e9, x_hu_eq rfl rfl, D 3 0 (by omega) (by omega) (by omega) (by omega) (by omega) (by omega), x_hu_ne (by omega), x_hu_ne (by omega), e30]; exact nn_add _ 1
    refine Ok_some ⟨(mm_succ _).symm, show Ru u9 _ from ⟨RuG_of RG (fun k' i h => ?_) (fun i h => L i (by omega)), RuI_of RI (fun k' i h => ?_) (fun i h h2 => L i h2), RuL_of RL (fun i => ?_) (fun i h h2 => L i h2), RuH_of RH ?_ (fun r hr => L _ (by omega)), ⟨?_, fun p hp => ?_⟩, ⟨?_, ?_, fun k' hk' => ?_⟩⟩⟩
    · rw [D9 _ _ (by omega) (by omega) (by omega) (by omega) (by omega) (by omega) (by omega), x_hu_ne (by omega), x_hu_ne (by omega)]
    · rw [D9 _ _ (by omega) (by omega) (by omega) (by omega) (by omega) (by omega) (by omega), x_hu_ne (by omega), x_hu_ne (by omega)]
    · rw [D9 _ _ (by omega) (by omega) (by omega) (by omega) (by omega) (by omega) (by omega), x_hu_ne (by omega), x_hu_ne (by omega)]
    · rw [D9 _ _ (by omega) (by omega) (by omega) (by omega) (by omega) (by omega) (by omega), x_hu_ne (by omega), x_hu_ne (by omega)]
    · rw [D3, N2, if_neg c]
    · rw [N2, if_neg c] at hp
      by_cases cp : p = w 552
      · subst cp
        rw [w0, w1, w2, w3, w4, w5]
        refine ⟨?_, ?_, ?_, ?_, ?_, ?_⟩
        · rw [e9, x_hu_ne (by omega), e8, x_hu_ne (by omega), e7, x_hu_ne (by omega), e6, x_hu_ne (by omega), e5, x_hu_ne (by omega), e4, x_hu_ne (by omega), e3, x_hu_eq rfl rfl]
        · rw [e9, x_hu_ne (by omega), e8, x_hu_ne (by omega), e7, x_hu_ne (by omega), e6, x_hu_ne (by omega), e5, x_hu_ne (by omega), e4, x_hu_eq rfl rfl]
        · rw [e9, x_hu_ne (by omega), e8, x_hu_ne (by omega), e7, x_hu_ne (by omega), e6, x_hu_ne (by omega), e5, x_hu_eq rfl rfl, ha3]
        · rw [e9, x_hu_ne (by omega), e8, x_hu_ne (by omega), e7, x_hu_ne (by omega), e6, x_hu_eq rfl rfl, mm_succ]
        · rw [e9, x_hu_ne (by omega), e8, x_hu_ne (by omega), e7, x_hu_eq rfl rfl]
        · rw [e9, x_hu_ne (by omega), e8, x_hu_eq rfl rfl]
      · have O := fun j hj => n_post_old (w := w) (k := k) (g := g) (r := r) (a := a) (t := t) hk hm (show p < w 552 by omega) (j := j) hj
        have O0 : n_post w k g r a t (192 + 6 * p) = w (192 + 6 * p) := O 0 (by omega)
        have h := RM.2 p (by omega)
        rw [O0, O 1 (by omega), O 2 (by omega), O 3 (by omega), O 4 (by omega), O 5 (by omega)]
        have D5 : ∀ k', k' ≠ 3 → k' ≠ 0 → k' ≠ 4 → u9 k' p = u k' p := by
          intro k' h3 h0 h4
          rw [e9, x_hu_ne h3, e8, x_hu_ni cp, e7, x_hu_ni cp, e6, x_hu_ni cp, e5, x_hu_ni cp, e4, x_hu_ni cp, e3, x_hu_ni cp, x_hu_ne h4, x_hu_ne h0]
        rw [D5 _ (by omega) (by omega) (by omega), D5 _ (by omega) (by omega) (by omega), D5 _ (by omega) (by omega) (by omega), D5 _ (by omega) (by omega) (by omega), D5 _ (by omega) (by omega) (by omega), D5 _ (by omega) (by omega) (by omega)]
        exact h
    · obtain ⟨n0, n1, n2, n3, n4, n5, n6⟩ := RN.1
      rw [N3, N8, NH 554 (by omega) (by omega) (by omega), NH 559 (by omega) (by omega) (by omega), NH 560 (by omega) (by omega) (by omega), NH 561 (by omega) (by omega) (by omega), NH 562 (by omega) (by omega) (by omega)]
      have D0 : ∀ i, u9 0 i = x_hu (x_hu u 0 1 (nn (w 553) + 1)) 4 k (nn (w (563 + k)) + 1) 0 i := fun i => D9 0 i (by omega) (by omega) (by omega) (by omega) (by omega) (by omega) (by omega)
      rw [D0, D0, D0, D0, D0, D0, D0]
      refine ⟨?_, ?_, ?_, ?_, ?_, ?_, ?_⟩
      · rw [x_hu_ne (by omega), x_hu_ni (by omega)]; exact n0
      · rw [x_hu_ne (by omega), x_hu_eq rfl rfl]; exact e1n
      · rw [x_hu_ne (by omega), x_hu_ni (by omega)]; exact n2
      · rw [x_hu_ne (by omega), x_hu_ni (by omega)]; exact n3
      · rw [x_hu_ne (by omega), x_hu_ni (by omega)]; exact n4
      · rw [x_hu_ne (by omega), x_hu_ni (by omega)]; exact n5
      · rw [x_hu_ne (by omega), x_hu_ni (by omega)]; exact n6
    · rw [NH 555 (by omega) (by omega) (by omega), NH 556 (by omega) (by omega) (by omega), NH 557 (by omega) (by omega) (by omega)]
      have D0 : ∀ i, u9 2 i = u 2 i := fun i => by rw [D9 2 i (by omega) (by omega) (by omega) (by omega) (by omega) (by omega) (by omega), x_hu_ne (by omega), x_hu_ne (by omega)]
      rw [D0, D0, D0]
      exact RN.2.1
    · rw [K4 k' hk', D9 4 k' (by omega) (by omega) (by omega) (by omega) (by omega) (by omega) (by omega)]
      by_cases ck : k' = k
      · rw [if_pos ck, x_hu_eq rfl ck]; exact e2n
      · rw [if_neg ck, x_hu_ni ck, x_hu_ne (by omega)]; exact RN.2.2 k' hk'

set_option maxRecDepth 16384 in
theorem Ru_g {u u' : x_H} {w w' : Nat → Nat} (R : Ru u w) (hm : w 552 ≤ 60) {g : Nat} (hg : g < 12) (h1 : ∀ k i, ¬ (5 ≤ k ∧ k ≤ 11) → u' k i = u k i) (h2 : ∀ k i, i ≠ g → u' k i = u k i) (h3 : ∀ i, (i < 8 * g ∨ 8 * g + 7 ≤ i) → w' i = w i)
    (h : u' 5 g = nn (w' (8 * g)) ∧ u' 6 g = mm (if 2 ≤ w' (8 * g) then w' (8 * g + 1) + 1 else 0) ∧ u' 7 g = mm (w' (8 * g + 4)) ∧ u' 8 g = nn (w' (8 * g + 5)) ∧ u' 9 g = nn (w' (8 * g + 2)) ∧ u' 10 g = nn (w' (8 * g + 3)) ∧ u' 11 g = nn (w' (8 * g + 6))) : Ru u' w' := by
  obtain ⟨RG, RI, RL, RH, RM, RN⟩ := R
  refine ⟨fun g' hg' => ?_, RuI_of RI (fun k i hk => h1 k i (by omega)) (fun i hi hi2 => h3 i (by omega)), RuL_of RL (fun i => h1 18 i (by omega)) (fun i hi hi2 => h3 i (by omega)), RuH_of RH (h1 2 0 (by omega)) (fun r hr => h3 _ (by omega)), RuM_of RM (fun k i hk => h1 k i (by omega)) (fun i hi hi2 => h3 i (by omega)) hm, RuN_of RN (fun k i hk => h1 k i (by omega)) (fun i hi => h3 i (by omega))⟩
  by_cases c : g' = g
  · subst c
    obtain ⟨a1, a2, a3, a4, a5, a6, a7⟩ := h
    refine ⟨a1, a2, a3, a4, a5, a6, a7, ?_⟩
    rw [h1 17 g' (by omega), h3 _ (by omega)]
    exact (RG g' hg').2.2.2.2.2.2.2
  · rw [h2 _ _ c, h2 _ _ c, h2 _ _ c, h2 _ _ c, h2 _ _ c, h2 _ _ c, h2 _ _ c, h2 _ _ c]
    rw [h3 _ (by omega), h3 _ (by omega), h3 _ (by omega), h3 _ (by omega), h3 _ (by omega), h3 _ (by omega), h3 _ (by omega), h3 _ (by omega)]
    exact RG g' hg'
set_option maxRecDepth 16384 in
theorem u_rest {u : x_H} {w : Nat → Nat} (R : Ru u w) (hm : w 552 ≤ 60) {g : Nat} (hg : g < 12) : Ok (fX1_rest u (nn g)) (fun u' => Ru u' (nu w (8 * g) 0)) := by
  unfold fX1_rest
  rw [u_isGuest hg, xb_some, if_neg nn_one, if_pos (nn_in (by omega) hg), nn_clamp (by omega)]
  refine Ok_let (fun u1 e1 => ?_)
  refine Ok_let (fun u2 e2 => Ok_some ?_)
  obtain ⟨a1, a2, a3, a4, a5, a6, a7, -⟩ := R.1 g hg
  refine Ru_g R hm hg (fun k i hk => ?_) (fun k i hi => ?_) (fun i hi => nu_ne1 (by omega)) ⟨?_, ?_, ?_, ?_, ?_, ?_, ?_⟩
  · rw [e2, x_hu_ne (by omega), e1, x_hu_ne (by omega)]
  · rw [e2, x_hu_ni hi, e1, x_hu_ni hi]
  · rw [e2, x_hu_ne (by omega), e1, x_hu_eq rfl rfl, nu_eq1 rfl]; rfl
  · rw [e2, x_hu_eq rfl rfl, nu_eq1 rfl, if_neg (by omega)]; rfl
  · rw [e2, x_hu_ne (by omega), e1, x_hu_ne (by omega), nu_ne1 (by omega)]; exact a3
  · rw [e2, x_hu_ne (by omega), e1, x_hu_ne (by omega), nu_ne1 (by omega)]; exact a4
  · rw [e2, x_hu_ne (by omega), e1, x_hu_ne (by omega), nu_ne1 (by omega)]; exact a5
  · rw [e2, x_hu_ne (by omega), e1, x_hu_ne (by omega), nu_ne1 (by omega)]; exact a6
  · rw [e2, x_hu_ne (by omega), e1, x_hu_ne (by omega), nu_ne1 (by omega)]; exact a7
set_option maxRecDepth 16384 in
theorem u_beginSeeking {u : x_H} {w : Nat → Nat} {B : Nat} (R : Ru u w) (hB : Wb B w) (hm : w 552 ≤ 60) (h1 : 1 ≤ B) {g : Nat} (hg : g < 12) (h0 : w (8 * g) = 0) : Ok (fX2_beginSeeking u (nn g)) (fun u' => Ru u' (n_seek w g)) := by
  unfold fX2_beginSeeking n_seek
  rw [u_isGuest hg, xb_some, if_neg nn_one, if_pos (nn_in (by omega) hg), nn_clamp (by omega)]
  refine Ok_let (fun u1 e1 => ?_)
  obtain ⟨a1, a2, a3, a4, a5, a6, a7, -⟩ := R.1 g hg
  have R1 : Ru u1 (nu w (8 * g) 1) := by
    refine Ru_g R hm hg (fun k i hk => ?_) (fun k i hi => ?_) (fun i hi => nu_ne1 (by omega)) ⟨?_, ?_, ?_, ?_, ?_, ?_, ?_⟩
    · rw [e1, x_hu_ne (by omega)]
    · rw [e1, x_hu_ni hi]
    · rw [e1, x_hu_eq rfl rfl, nu_eq1 rfl]; rfl
    · rw [e1, x_hu_ne (by omega), nu_eq1 rfl, if_neg (by omega), a2, if_neg (by omega)]
    · rw [e1, x_hu_ne (by omega), nu_ne1 (by omega)]; exact a3
    · rw [e1, x_hu_ne (by omega), nu_ne1 (by omega)]; exact a4
    · rw [e1, x_hu_ne (by omega), nu_ne1 (by omega)]; exact a5
    · rw [e1, x_hu_ne (by omega), nu_ne1 (by omega)]; exact a6
    · rw [e1, x_hu_ne (by omega), nu_ne1 (by omega)]; exact a7
  refine Ok_bind (u_send (k := 0) (g := g) (r := 0) (a := 0) (t := 0) R1 (Wb_nu hB h1) (by rw [nu_ne1 (by omega)]; exact hm) (by omega) rfl) (fun q hq => Ok_some hq.2)
set_option maxRecDepth 16384 in
theorem Ru_lo {u u' : x_H} {w w' : Nat → Nat} (R : Ru u w) (hm : w 552 ≤ 60) (h1 : ∀ k i, u' k i = u k i) (h3 : ∀ i, w' i = w i) : Ru u' w' := ⟨RuG_of R.1 (fun k i _ => h1 k i) (fun i _ => h3 i), RuI_of R.2.1 (fun k i _ => h1 k i) (fun i _ _ => h3 i), RuL_of R.2.2.1 (fun i => h1 18 i) (fun i _ _ => h3 i), RuH_of R.2.2.2.1 (h1 2 0) (fun r _ => h3 _), RuM_of R.2.2.2.2.1 (fun k i _ => h1 k i) (fun i _ _ => h3 i) hm, RuN_of R.2.2.2.2.2 (fun k i _ => h1 k i) (fun i _ => h3 i)⟩
set_option maxRecDepth 16384 in
theorem u_sendWant {u : x_H} {w : Nat → Nat} {B : Nat} (R : Ru u w) (hB : Wb B w) (hm : w 552 ≤ 60) {g : Nat} (hg : g < 12) (h2 : 2 ≤ w (8 * g)) : Ok (fX2_sendWant u (nn g)) (fun u' => Ru u' (n_want w g)) := by
  unfold fX2_sendWant n_want
  rw [u_isGuest hg, xb_some, if_neg nn_one, if_pos (nn_in (by omega) hg), nn_clamp (by omega)]
  obtain ⟨a1, a2, a3, a4, a5, a6, a7, -⟩ := R.1 g hg
  rw [a2, if_pos h2]
  refine Ok_bind (u_send (k := 2) (g := g) (r := w (8 * g + 1)) (a := 0) (t := 0) R hB hm (by omega) rfl) (fun q hq => ?_)
  obtain ⟨q1, R1⟩ := hq
  have hm2 : n_post w 2 g (w (8 * g + 1)) 0 0 552 ≤ 60 := by rw [n_post_many (by omega) hm]; split <;> omega
  obtain ⟨b1, b2, b3, b4, b5, b6, b7, -⟩ := R1.1 g hg
  rw [q1]
  refine Ok_let (fun u1 e1 => ?_)
  have e0 : u1 0 0 = nn (w 554) := by rw [e1, x_hu_ne (by omega), R1.2.2.2.2.2.1.1, n_post_554 (by omega) hm]
  rw [e0]
  refine Ok_let (fun u2 e2 => Ok_some ?_)
  refine Ru_g R1 hm2 hg (fun k i hk => ?_) (fun k i hi => ?_) (fun i hi => by rw [nu_ne1 (by omega), nu_ne1 (by omega)]) ⟨?_, ?_, ?_, ?_, ?_, ?_, ?_⟩
  · rw [e2, x_hu_ne (by omega), e1, x_hu_ne (by omega)]
  · rw [e2, x_hu_ni hi, e1, x_hu_ni hi]
  · rw [e2, x_hu_ne (by omega), e1, x_hu_ne (by omega), nu_ne1 (by omega), nu_ne1 (by omega)]; exact b1
  · rw [e2, x_hu_ne (by omega), e1, x_hu_ne (by omega), nu_ne1 (by omega), nu_ne1 (by omega), nu_ne1 (by omega), nu_ne1 (by omega)]; exact b2
  · rw [e2, x_hu_ne (by omega), e1, x_hu_eq rfl rfl, nu_ne1 (by omega), nu_eq1 rfl]
  · rw [e2, x_hu_eq rfl rfl, nu_eq1 rfl]
  · rw [e2, x_hu_ne (by omega), e1, x_hu_ne (by omega), nu_ne1 (by omega), nu_ne1 (by omega)]; exact b5
  · rw [e2, x_hu_ne (by omega), e1, x_hu_ne (by omega), nu_ne1 (by omega), nu_ne1 (by omega)]; exact b6
  · rw [e2, x_hu_ne (by omega), e1, x_hu_ne (by omega), nu_ne1 (by omega), nu_ne1 (by omega)]; exact b7
set_option maxRecDepth 16384 in
theorem u_leaveRoom {u : x_H} {w : Nat → Nat} {B : Nat} (R : Ru u w) (hB : Wb B w) (hm : w 552 ≤ 60) {g : Nat} (hg : g < 12) (h2 : 2 ≤ w (8 * g)) : Ok (fX2_leaveRoom u (nn g)) (fun u' => Ru u' (n_leave w g)) := by
  unfold fX2_leaveRoom n_leave
  rw [u_isGuest hg, xb_some, if_neg nn_one, if_pos (nn_in (by omega) hg), nn_clamp (by omega)]
  obtain ⟨a1, a2, a3, a4, a5, a6, a7, -⟩ := R.1 g hg
  rw [a2, if_pos h2]
  refine Ok_bind (u_send (k := 6) (g := g) (r := w (8 * g + 1)) (a := 0) (t := 0) R hB hm (by omega) rfl) (fun q hq => ?_)
  have hm2 : n_post w 6 g (w (8 * g + 1)) 0 0 552 ≤ 60 := by rw [n_post_many (by omega) hm]; split <;> omega
  exact Ok_bind (u_rest hq.2 hm2 hg) (fun q2 hq2 => Ok_some hq2)
set_option maxRecDepth 16384 in
theorem u_hearOffer {u : x_H} {w : Nat → Nat} {B : Nat} (R : Ru u w) (hB : Wb B w) (h9 : B + 16 ≤ 1000000000) (hm : w 552 ≤ 60) {g r : Nat} (hg : g < 12) (hr : r < 16) (h3 : w (8 * g) ≤ 3) : Ok (fX2_hearOffer u (nn g) (nn r)) (fun u' => Ru u' (if w (8 * g) = 1 then n_want (nu (nu w (8 * g) 2) (8 * g + 1) r) g else w)) := by
  unfold fX2_hearOffer
  rw [u_isGuest hg, xb_some, if_neg nn_one, if_pos (nn_in (by omega) hg), nn_clamp (by omega)]
  obtain ⟨a1, a2, a3, a4, a5, a6, a7, -⟩ := R.1 g hg
  rw [a1]
  by_cases c : w (8 * g) = 1
  · rw [if_pos c, if_pos (show nn (w (8 * g)) = (1 : Int32) by rw [c]; rfl)]
    refine Ok_let (fun u1 e1 => ?_)
    refine Ok_let (fun u2 e2 => ?_)
    have R2 : Ru u2 (nu (nu w (8 * g) 2) (8 * g + 1) r) := by
      refine Ru_g R hm hg (fun k i hk => ?_) (fun k i hi => ?_) (fun i hi => by rw [nu_ne1 (by omega), nu_ne1 (by omega)]) ⟨?_, ?_, ?_, ?_, ?_, ?_, ?_⟩
      · rw [e2, x_hu_ne (by omega), e1, x_hu_ne (by omega)]
      · rw [e2, x_hu_ni hi, e1, x_hu_ni hi]
      · rw [e2, x_hu_ne (by omega), e1, x_hu_eq rfl rfl, nu_ne1 (by omega), nu_eq1 rfl]; rfl
      · rw [e2, x_hu_eq rfl rfl, nu_ne1 (by omega), nu_eq1 rfl, nu_eq1 rfl, if_pos (by omega), mm_succ]
      · rw [e2, x_hu_ne (by omega), e1, x_hu_ne (by omega), nu_ne1 (by omega), nu_ne1 (by omega)]; exact a3
      · rw [e2, x_hu_ne (by omega), e1, x_hu_ne (by omega), nu_ne1 (by omega), nu_ne1 (by omega)]; exact a4
      · rw [e2, x_hu_ne (by omega), e1, x_hu_ne (by omega), nu_ne1 (by omega), nu_ne1 (by omega)]; exact a5
      · rw [e2, x_hu_ne (by omega), e1, x_hu_ne (by omega), nu_ne1 (by omega), nu_ne1 (by omega)]; exact a6
      · rw [e2, x_hu_ne (by omega), e1, x_hu_ne (by omega), nu_ne1 (by omega), nu_ne1 (by omega)]; exact a7
    have B2 : Wb (B + 16) (nu (nu w (8 * g) 2) (8 * g + 1) r) := Wb_nu (Wb_nu (Wb_up hB (by omega) h9) (by omega)) (by omega)
    exact Ok_bind (u_sendWant R2 B2 (by rw [nu_ne1 (by omega), nu_ne1 (by omega)]; exact hm) hg (by rw [nu_ne1 (by omega), nu_eq1 rfl]; omega)) (fun q hq => Ok_some hq)
  · rw [if_neg c, if_neg (show ¬ nn (w (8 * g)) = (1 : Int32) from fun h => c ((nn_inj (b := 1) (by omega) (by omega)).mp h))]
    exact Ok_some R
set_option maxRecDepth 16384 in
theorem u_heeds {u : x_H} {w : Nat → Nat} {B : Nat} (R : Ru u w) (Z : Wz w) (hB : Wb B w) {g r a : Nat} (hg : g < 12) (hr : r < 16) (ha : a < 2147483648) : fX1_heeds u (nn g) (nn r) (mm a) = some (nn (if n_heeds w g r a then 1 else 0)) := by
  unfold fX1_heeds
  obtain ⟨a1, a2, a3, a4, a5, a6, a7, -⟩ := R.1 g hg
  have zg := Z.1 g hg
  have b0 := hB.1
  have b4 := hB.2 (8 * g + 4)
  rw [u_isGuest hg, xb_some, if_neg nn_one, if_pos (nn_in (by omega) hg), nn_clamp (by omega), a1, a2, a3, ← mm_succ r]
  by_cases c1 : a = w (8 * g + 4)
  · rw [if_pos (by rw [c1])]
    by_cases c2 : 2 ≤ w (8 * g)
    · rw [if_pos c2]
      by_cases c3 : w (8 * g + 1) = r
      · rw [if_pos (by rw [c3]), if_pos (show n_heeds w g r a from ⟨by omega, c3, c1.symm⟩)]
        rcases (show w (8 * g) = 2 ∨ w (8 * g) = 3 by omega) with h | h <;> rw [h]
        · rfl
        · rfl
      · rw [if_neg (fun h => c3 (by have := (mm_inj (by omega) (by omega)).mp h; omega)), if_neg (fun h : n_heeds w g r a => c3 h.2.1)]
        rfl
    · rw [if_neg c2, if_neg (fun h => by have := (mm_inj (by omega) (by omega)).mp h; omega), if_neg (fun h : n_heeds w g r a => c2 h.1)]
      rfl
  · rw [if_neg (fun h => c1 ((mm_inj (by omega) (by omega)).mp h)), if_neg (fun h : n_heeds w g r a => c1 h.2.2.symm)]
    rfl
set_option maxRecDepth 16384 in
theorem u_take {u : x_H} {w : Nat → Nat} (R : Ru u w) (hm : w 552 ≤ 60) {g t : Nat} (hg : g < 12) (h2 : w (8 * g) = 2 ∨ w (8 * g) = 3) : Ok (fX1_take u (nn g) (nn t)) (fun u' => Ru u' (nu (nu (nu (nu w (8 * g + 6) (w (8 * g + 6) + if w (8 * g) = 2 then 1 else 0)) (8 * g) 3) (8 * g + 2) (w (8 * g + 5))) (8 * g + 3) t)) := by
  unfold fX1_take fX1_take_j28
  rw [u_isGuest hg, xb_some, if_neg nn_one, if_pos (nn_in (by omega) hg)]
  have eg : (nn g).toNatClampNeg = g := nn_clamp (by omega)
  obtain ⟨a1, a2, a3, a4, a5, a6, a7, -⟩ := R.1 g hg
  have J : ∀ u6 : x_H, (∀ k i, ¬ (k = 11 ∧ i = g) → u6 k i = u k i) → u6 11 g = nn (w (8 * g + 6) + if w (8 * g) = 2 then 1 else 0) → Ok (if x_in (nn g) 12 then x_let (x_hu u6 5 (Int32.toNatClampNeg (nn g)) (3 : Int32)) fun u8 => x_let (x_hu u8 9 (Int32.toNatClampNeg (nn g)) (u8 8 (Int32.toNatClampNeg (nn g)))) fun u11 => x_let (x_hu u11 10 (Int32.toNatClampNeg (nn g)) (nn t)) fun u13 => some (u13) else none) (fun u' => Ru u' (nu (nu (nu (nu w (8 * g + 6) (w (8 * g + 6) + if w (8 * g) = 2 then 1 else 0)) (8 * g) 3) (8 * g + 2) (w (8 * g + 5))) (8 * g + 3) t)) := by
    intro u6 h6 h7
    rw [if_pos (nn_in (by omega) hg), eg]
    refine Ok_let (fun u1 e1 => ?_)
    refine Ok_let (fun u2 e2 => ?_)
    refine Ok_let (fun u3 e3 => Ok_some ?_)
    refine Ru_g R hm hg (fun k i hk => ?_) (fun k i hi => ?_) (fun i hi => by rw [nu_ne1 (by omega), nu_ne1 (by omega), nu_ne1 (by omega), nu_ne1 (by omega)]) ⟨?_, ?_, ?_, ?_, ?_, ?_, ?_⟩
    · rw [e3, x_hu_ne (by omega), e2, x_hu_ne (by omega), e1, x_hu_ne (by omega), h6 _ _ (by omega)]
    · rw [e3, x_hu_ni hi, e2, x_hu_ni hi, e1, x_hu_ni hi, h6 _ _ (by omega)]
    · rw [e3, x_hu_ne (by omega), e2, x_hu_ne (by omega), e1, x_hu_eq rfl rfl, nu_ne1 (by omega), nu_ne1 (by omega), nu_eq1 rfl]; rfl
    · rw [e3, x_hu_ne (by omega), e2, x_hu_ne (by omega), e1, x_hu_ne (by omega), h6 _ _ (by omega), nu_ne1 (by omega), nu_ne1 (by omega), nu_eq1 rfl, if_pos (by omega), nu_ne1 (by omega), nu_ne1 (by omega), nu_ne1 (by omega), nu_ne1 (by omega), a2, if_pos (by omega)]
    · rw [e3, x_hu_ne (by omega), e2, x_hu_ne (by omega), e1, x_hu_ne (by omega), h6 _ _ (by omega), nu_ne1 (by omega), nu_ne1 (by omega), nu_ne1 (by omega), nu_ne1 (by omega)]; exact a3
    · rw [e3, x_hu_ne (by omega), e2, x_hu_ne (by omega), e1, x_hu_ne (by omega), h6 _ _ (by omega), nu_ne1 (by omega), nu_ne1 (by omega), nu_ne1 (by omega), nu_ne1 (by omega)]; exact a4
    · rw [e3, x_hu_ne (by omega), e2, x_hu_eq rfl rfl, e1, x_hu_ne (by omega), h6 _ _ (by omega), nu_ne1 (by omega), nu_eq1 rfl]; exact a4
    · rw [e3, x_hu_eq rfl rfl, nu_eq1 rfl]
    · rw [e3, x_hu_ne (by omega), e2, x_hu_ne (by omega), e1, x_hu_ne (by omega), h7, nu_ne1 (by omega), nu_ne1 (by omega), nu_ne1 (by omega), nu_eq1 rfl]
  rw [show u 5 (nn g).toNatClampNeg = nn (w (8 * g)) by rw [eg]; exact a1]
  by_cases c : w (8 * g) = 2
  · rw [if_pos (show nn (w (8 * g)) = (2 : Int32) by rw [c]; rfl)]
    refine Ok_let (fun u6 e6 => ?_)
    rw [eg, a7, show nn (w (8 * g + 6)) + 1 = nn (w (8 * g + 6) + 1) from nn_add _ 1] at e6
    refine J u6 (fun k i h => ?_) ?_
    · by_cases ck : k = 11
      · rw [e6, x_hu_ni (fun hi => h ⟨ck, hi⟩)]
      · rw [e6, x_hu_ne ck]
    · rw [e6, x_hu_eq rfl rfl, if_pos c]
  · rw [if_neg (show ¬ nn (w (8 * g)) = (2 : Int32) from fun h => c ((nn_inj (b := 2) (by omega) (by omega)).mp h))]
    exact J u (fun k i _ => rfl) (by rw [if_neg c]; exact a7)

set_option maxRecDepth 16384 in
theorem xb_shr (x : Int32) {r : Nat} (h : r < 16) : (x >>> (nn r &&& 31)).toBitVec = x.toBitVec.sshiftRight r := by
  have h1 : ∀ r, r < 16 → ((nn r &&& 31).toBitVec.smod 32).toNat = r := by decide
  show x.toBitVec.sshiftRight' ((nn r &&& 31).toBitVec.smod 32) = _
  unfold BitVec.sshiftRight'
  rw [h1 r h]
set_option maxRecDepth 16384 in
theorem xb_one (y : Int32) : (y &&& 1 = 1) ↔ y.toBitVec.getLsbD 0 = true := by
  have e : (y &&& 1).toBitVec = y.toBitVec &&& 1#32 := rfl
  have e1 : (1 : Int32).toBitVec = 1#32 := rfl
  constructor
  · intro h
    have h2 := congrArg Int32.toBitVec h
    rw [e, e1] at h2
    have h3 := congrArg (fun z => BitVec.getLsbD z 0) h2
    simpa using h3
  · intro h
    apply Int32.toBitVec_inj.mp
    rw [e, e1]
    apply BitVec.eq_of_toNat_eq
    have h4 : y.toBitVec.toNat % 2 = 1 := by
      simpa [BitVec.getLsbD, Nat.testBit_zero] using h
    simp [BitVec.toNat_and, Nat.and_one_is_mod, h4]
set_option maxRecDepth 16384 in
theorem xb_bit (x : Int32) {r : Nat} (h : r < 16) : ((x >>> (nn r &&& 31)) &&& 1 = 1) ↔ x.toBitVec.getLsbD r = true := by
  rw [xb_one, xb_shr x h, BitVec.getLsbD_sshiftRight]
  have h2 : r < 32 := by omega
  simp [h2]
set_option maxRecDepth 16384 in
theorem xb_tog (x : Int32) {r r' : Nat} (h : r < 16) (h' : r' < 16) : (x ^^^ ((1 : Int32) <<< (nn r &&& 31))).toBitVec.getLsbD r' = (x.toBitVec.getLsbD r' ^^ decide (r' = r)) := by
  have h1 : ∀ r, r < 16 → ∀ r', r' < 16 → ((1 : Int32) <<< (nn r &&& 31)).toBitVec.getLsbD r' = decide (r' = r) := by decide
  show (x.toBitVec ^^^ ((1 : Int32) <<< (nn r &&& 31)).toBitVec).getLsbD r' = _
  rw [BitVec.getLsbD_xor, h1 r h r' h']
set_option maxRecDepth 16384 in
theorem u_ghostIn {u : x_H} {w : Nat → Nat} (R : Ru u w) {r : Nat} (hr : r < 16) : fX3_ghostIn u (nn r) = some (nn (if w (96 + 6 * r + 5) = 1 then 1 else 0)) := by
  unfold fX3_ghostIn
  rw [u_isRoom hr, xb_some, if_neg nn_one]
  have h := R.2.2.2.1 r hr
  by_cases c : w (96 + 6 * r + 5) = 1
  · rw [if_pos ((xb_bit _ hr).mpr (by rw [h]; exact decide_eq_true c)), if_pos c]; rfl
  · rw [if_neg (fun h2 => c (by have := (xb_bit _ hr).mp h2; rw [h] at this; exact of_decide_eq_true this)), if_neg c]; rfl
set_option maxRecDepth 16384 in
theorem Ru_r {u u' : x_H} {w w' : Nat → Nat} (R : Ru u w) (hm : w 552 ≤ 60) {r : Nat} (hr : r < 16) (h1 : ∀ k i, ¬ (12 ≤ k ∧ k ≤ 15) → k ≠ 18 → u' k i = u k i) (h2 : ∀ k i, k ≠ 18 → i ≠ r → u' k i = u k i) (h3 : ∀ i, (i < 96 + 6 * r ∨ 96 + 6 * r + 4 ≤ i) → w' i = w i) (hL : RuL u' w')
    (h : u' 12 r = nn (w' (96 + 6 * r)) ∧ u' 13 r = mm (if w' (96 + 6 * r) = 1 ∨ w' (96 + 6 * r) = 2 then w' (96 + 6 * r + 2) + 1 else 0) ∧ (w' (96 + 6 * r) ≠ 0 → u' 14 r = nn (w' (96 + 6 * r + 1))) ∧ (w' (96 + 6 * r) = 2 → u' 15 r = mm (w' (96 + 6 * r + 3)))) : Ru u' w' := by
  obtain ⟨RG, RI, RL, RH, RM, RN⟩ := R
  refine ⟨RuG_of RG (fun k i hk => h1 k i (by omega) (by omega)) (fun i hi => h3 i (by omega)), fun r' hr' => ?_, hL, RuH_of RH (h1 2 0 (by omega) (by omega)) (fun r' hr' => h3 _ (by omega)), RuM_of RM (fun k i hk => h1 k i (by omega) (by omega)) (fun i hi hi2 => h3 i (by omega)) hm, RuN_of RN (fun k i hk => h1 k i (by omega) (by omega)) (fun i hi => h3 i (by omega))⟩
  by_cases c : r' = r
  · subst c
    obtain ⟨a1, a2, a3, a4⟩ := h
    refine ⟨a1, a2, a3, a4, ?_⟩
    rw [h1 16 r' (by omega) (by omega), h3 _ (by omega)]
    exact (RI r' hr').2.2.2.2
  · rw [h2 12 _ (by omega) c, h2 13 _ (by omega) c, h2 14 _ (by omega) c, h2 15 _ (by omega) c, h2 16 _ (by omega) c]
    rw [h3 _ (by omega), h3 _ (by omega), h3 _ (by omega), h3 _ (by omega), h3 _ (by omega)]
    exact RI r' hr'
set_option maxRecDepth 16384 in
theorem n_ls_le (w : Nat → Nat) (g d : Nat) : n_ls w g d ≤ d := by
  induction d with
  | zero => exact Nat.le_refl _
  | succ d ih => unfold n_ls; split <;> omega
set_option maxRecDepth 16384 in
theorem n_ls_set {w w' : Nat → Nat} {g r : Nat} (h : ∀ r', r' ≠ r → (w' (96 + 6 * r') = 2 ∧ w' (96 + 6 * r' + 2) = g ↔ w (96 + 6 * r') = 2 ∧ w (96 + 6 * r' + 2) = g)) : ∀ d, d ≤ 16 → n_ls w' g d + (if r < d ∧ n_has w r 2 g then 1 else 0) = n_ls w g d + (if r < d ∧ n_has w' r 2 g then 1 else 0) := by
  intro d
  induction d with
  | zero => intro _; simp [n_ls]
  | succ d ih =>
    intro hd
    have I := ih (by omega)
    show n_ls w' g d + _ + _ = n_ls w g d + _ + _
    by_cases c : d = r
    · subst c
      rw [if_neg (by omega), if_neg (by omega)] at I
      by_cases c1 : n_has w d 2 g <;> by_cases c2 : n_has w' d 2 g <;> simp only [n_has] at c1 c2 <;> simp [n_has, c1, c2] <;> omega
    · have e := h d c
      by_cases c1 : w (96 + 6 * d) = 2 ∧ w (96 + 6 * d + 2) = g
      · have c2 := e.mpr c1
        rw [if_pos c1, if_pos c2]
        by_cases c3 : r < d
        · simp only [c3, show r < d + 1 by omega, true_and] at I ⊢
          omega
        · simp only [c3, show ¬ r < d + 1 by omega, false_and, if_false] at I ⊢
          omega
      · have c2 : ¬ (w' (96 + 6 * d) = 2 ∧ w' (96 + 6 * d + 2) = g) := fun h => c1 (e.mp h)
        rw [if_neg c1, if_neg c2]
        by_cases c3 : r < d
        · simp only [c3, show r < d + 1 by omega, true_and] at I ⊢
          omega
        · simp only [c3, show ¬ r < d + 1 by omega, false_and, if_false] at I ⊢
          omega
set_option maxRecDepth 16384 in
theorem u_canBeOffered {u : x_H} {w : Nat → Nat} (R : Ru u w) (Z : Wz w) {r g : Nat} (hr : r < 16) (hg : g < 12) : fX3_canBeOffered u (nn r) (nn g) = some (nn (if n_can w r g then 1 else 0)) := by
  unfold fX3_canBeOffered
  obtain ⟨a1, a2, a3, a4, a5⟩ := R.2.1 r hr
  have zr := Z.2.1.1 r hr
  rw [if_neg (fun h => (nn_neg (by omega)).mp h), if_neg (fun h => by have := (nn_le (a := 16) (by omega) (by omega)).mp h; omega), if_pos (nn_in (by omega) hr), nn_clamp (by omega), a1, a5, ← mm_succ g]
  by_cases c1 : w (96 + 6 * r) = 0
  · rw [if_pos (show nn (w (96 + 6 * r)) = (0 : Int32) by rw [c1]; rfl)]
    by_cases c2 : w (96 + 6 * r + 4) = 0
    · rw [if_pos (show mm (w (96 + 6 * r + 4)) = (-1 : Int32) by rw [c2]; rfl), if_pos (show n_can w r g from ⟨c1, Or.inl c2⟩)]; rfl
    · rw [if_neg (show ¬ mm (w (96 + 6 * r + 4)) = (-1 : Int32) from fun h => c2 ((mm_inj (b := 0) (by omega) (by omega)).mp h))]
      by_cases c3 : w (96 + 6 * r + 4) = g + 1
      · rw [if_pos (by rw [c3]), if_pos (show n_can w r g from ⟨c1, Or.inr c3⟩)]; rfl
      · rw [if_neg (fun h => c3 ((mm_inj (by omega) (by omega)).mp h)), if_neg (fun h : n_can w r g => h.2.elim c2 c3)]; rfl
  · rw [if_neg (show ¬ nn (w (96 + 6 * r)) = (0 : Int32) from fun h => c1 ((nn_inj (b := 0) (by omega) (by omega)).mp h)), if_neg (fun h : n_can w r g => c1 h.1)]; rfl
set_option maxRecDepth 16384 in
theorem u_canBe0 {u : x_H} {g : Int32} : fX3_canBeOffered u (mm 0) g = some (nn 0) := by
  unfold fX3_canBeOffered
  rw [if_pos (by decide)]
  rfl
def n_res (w : Nat → Nat) (g : Nat) : Nat → Nat
  | 0 => 0
  | d + 1 => if w (96 + 6 * (15 - d) + 4) = g + 1 then 15 - d + 1 else n_res w g d
set_option maxRecDepth 16384 in
theorem u_reserved {u : x_H} {w : Nat → Nat} (R : Ru u w) (Z : Wz w) {g : Nat} (hg : g < 12) : ∀ (d n : Nat), d ≤ 16 → d < n → fX3_reservedRoom_b2 n u (nn g) (nn (16 - d)) = some (mm (n_res w g d)) := by
  intro d
  induction d with
  | zero =>
    intro n hd hn
    obtain ⟨n, rfl⟩ : ∃ m, n = m + 1 := ⟨n - 1, by omega⟩
    rw [fX3_reservedRoom_b2, n_res, if_pos (by decide)]
    rfl
  | succ d ih =>
    intro n hd hn
    obtain ⟨n, rfl⟩ : ∃ m, n = m + 1 := ⟨n - 1, by omega⟩
    have e1 : 16 - (d + 1) = 15 - d := by omega
    have e2 : 16 - d = 15 - d + 1 := by omega
    have I := ih n (by omega) (by omega)
    rw [e2] at I
    have zr := Z.2.1.1 (15 - d) (by omega)
    rw [fX3_reservedRoom_b2, n_res, e1, if_neg (fun h => by have := (nn_le (a := 16) (by omega) (by omega)).mp h; omega), if_pos (nn_in (by omega) (by omega)), nn_clamp (by omega), (R.2.1 (15 - d) (by omega)).2.2.2.2, ← mm_succ g]
    by_cases c : w (96 + 6 * (15 - d) + 4) = g + 1
    · rw [if_pos c, if_pos (by rw [c]), mm_succ]
    · rw [if_neg c, if_neg (fun h => c ((mm_inj (by omega) (by omega)).mp h)), mm_succ]
      rw [show nn (15 - d) + (1 : Int32) = nn (15 - d + 1) from nn_add _ 1, x_let_n]
      exact I
set_option maxRecDepth 16384 in
theorem u_reservedRoom {u : x_H} {w : Nat → Nat} (R : Ru u w) (Z : Wz w) {g : Nat} (hg : g < 12) : fX3_reservedRoom u (nn g) = some (mm (n_res w g 16)) := u_reserved R Z hg 16 400 (by omega) (by omega)
set_option maxRecDepth 16384 in
theorem n_res_is {w : Nat → Nat} {g : Nat} : ∀ d, d ≤ 16 → (n_res w g d = 0 ∧ ∀ r, 16 - d ≤ r → r < 16 → w (96 + 6 * r + 4) ≠ g + 1) ∨ (∃ r, n_res w g d = r + 1 ∧ r < 16 ∧ w (96 + 6 * r + 4) = g + 1) := by
  intro d
  induction d with
  | zero => intro _; exact Or.inl ⟨rfl, fun r h1 h2 => by omega⟩
  | succ d ih =>
    intro hd
    rw [n_res]
    by_cases c : w (96 + 6 * (15 - d) + 4) = g + 1
    · rw [if_pos c]; exact Or.inr ⟨15 - d, rfl, by omega, c⟩
    · rw [if_neg c]
      rcases ih (by omega) with h | h
      · refine Or.inl ⟨h.1, fun r h1 h2 => ?_⟩
        by_cases e : r = 15 - d
        · rw [e]; exact c
        · exact h.2 r (by omega) h2
      · exact Or.inr h
def n_first (w : Nat → Nat) (g : Nat) : Nat → Nat
  | 0 => 0
  | d + 1 => if n_can w (15 - d) g then 15 - d + 1 else n_first w g d
set_option maxRecDepth 16384 in
theorem u_first {u : x_H} {w : Nat → Nat} (R : Ru u w) (Z : Wz w) {g : Nat} (hg : g < 12) : ∀ (d n : Nat), d ≤ 16 → d < n → fX3_roomToOffer_b85 n u (nn g) (nn (16 - d)) = some (mm (n_first w g d)) := by
  intro d
  induction d with
  | zero =>
    intro n hd hn
    obtain ⟨n, rfl⟩ : ∃ m, n = m + 1 := ⟨n - 1, by omega⟩
    rw [fX3_roomToOffer_b85, n_first, if_pos (by decide)]
    rfl
  | succ d ih =>
    intro n hd hn
    obtain ⟨n, rfl⟩ : ∃ m, n = m + 1 := ⟨n - 1, by omega⟩
    have e1 : 16 - (d + 1) = 15 - d := by omega
    have e2 : 16 - d = 15 - d + 1 := by omega
    have I := ih n (by omega) (by omega)
    rw [e2] at I
    rw [fX3_roomToOffer_b85, n_first, e1, if_neg (fun h => by have := (nn_le (a := 16) (by omega) (by omega)).mp h; omega), u_canBeOffered R Z (by omega) hg, xb_some]
    by_cases c : n_can w (15 - d) g
    · rw [if_pos c, if_pos c, if_neg (by decide), mm_succ]
    · rw [if_neg c, if_neg c, if_pos (by decide), show nn (15 - d) + (1 : Int32) = nn (15 - d + 1) from nn_add _ 1, x_let_n]
      exact I
def n_pick (w : Nat → Nat) (g : Nat) : Nat := if n_res w g 16 ≠ 0 ∧ n_can w (n_res w g 16 - 1) g then n_res w g 16 else if w (8 * g + 7) ≠ 0 ∧ n_can w (w (8 * g + 7) - 1) g then w (8 * g + 7) else n_first w g 16
set_option maxRecDepth 16384 in
theorem n_first_is {w : Nat → Nat} {g : Nat} : ∀ d, d ≤ 16 → (n_first w g d = 0 ∧ ∀ r, 16 - d ≤ r → r < 16 → ¬ n_can w r g) ∨ (∃ r, n_first w g d = r + 1 ∧ 16 - d ≤ r ∧ r < 16 ∧ n_can w r g ∧ ∀ r', 16 - d ≤ r' → r' < r → ¬ n_can w r' g) := by
  intro d
  induction d with
  | zero => intro _; exact Or.inl ⟨rfl, fun r h1 h2 => by omega⟩
  | succ d ih =>
    intro hd
    rw [n_first]
    by_cases c : n_can w (15 - d) g
    · rw [if_pos c]; exact Or.inr ⟨15 - d, rfl, by omega, by omega, c, fun r' h1 h2 => by omega⟩
    · rw [if_neg c]
      rcases ih (by omega) with h | ⟨r, h1, h2, h3, h4, h5⟩
      · refine Or.inl ⟨h.1, fun r h1 h2 => ?_⟩
        by_cases e : r = 15 - d
        · rw [e]; exact c
        · exact h.2 r (by omega) h2
      · refine Or.inr ⟨r, h1, by omega, h3, h4, fun r' h6 h7 => ?_⟩
        by_cases e : r' = 15 - d
        · rw [e]; exact c
        · exact h5 r' (by omega) h7
set_option maxRecDepth 16384 in
theorem n_chl_no {w : Nat → Nat} {g : Nat} (h : ∀ r, r < 16 → ¬ n_has w r 1 g) : ∀ (k low own : Nat), k ≤ 16 → (low = 0 ∧ (∀ r, k ≤ r → r < 16 → ¬ n_can w r g) ∨ ∃ r, low = r + 1 ∧ k ≤ r ∧ r < 16 ∧ n_can w r g ∧ ∀ r', k ≤ r' → r' < r → ¬ n_can w r' g) → (own = 0 ∧ (∀ r, k ≤ r → r < 16 → ¬ (n_can w r g ∧ w (96 + 6 * r + 4) = g + 1)) ∨ ∃ r, own = r + 1 ∧ r < 16 ∧ n_can w r g ∧ w (96 + 6 * r + 4) = g + 1) →
    ∃ low' own', n_chl w g k low own = (if own' ≠ 0 then own' else if w (8 * g + 7) ≠ 0 ∧ n_can w (w (8 * g + 7) - 1) g then w (8 * g + 7) else low') ∧ (low' = 0 ∧ (∀ r, r < 16 → ¬ n_can w r g) ∨ ∃ r, low' = r + 1 ∧ r < 16 ∧ n_can w r g ∧ ∀ r', r' < r → ¬ n_can w r' g) ∧ (own' = 0 ∧ (∀ r, r < 16 → ¬ (n_can w r g ∧ w (96 + 6 * r + 4) = g + 1)) ∨ ∃ r, own' = r + 1 ∧ r < 16 ∧ n_can w r g ∧ w (96 + 6 * r + 4) = g + 1) := by
  intro k
  induction k with
  | zero =>
    intro low own hk hl ho
    refine ⟨low, own, by rw [n_chl], ?_, ?_⟩
    · rcases hl with ⟨h1, h2⟩ | ⟨r, h1, h2, h3, h4, h5⟩
      · exact Or.inl ⟨h1, fun r hr => h2 r (by omega) hr⟩
      · exact Or.inr ⟨r, h1, h3, h4, fun r' hr' => h5 r' (by omega) hr'⟩
    · rcases ho with ⟨h1, h2⟩ | h1
      · exact Or.inl ⟨h1, fun r hr => h2 r (by omega) hr⟩
      · exact Or.inr h1
  | succ k ih =>
    intro low own hk hl ho
    rw [n_chl, if_neg (h k (by omega))]
    refine ih _ _ (by omega) ?_ ?_
    · by_cases c : n_can w k g
      · rw [if_pos c]
        exact Or.inr ⟨k, rfl, Nat.le_refl _, by omega, c, fun r' h1 h2 => by omega⟩
      · rw [if_neg c]
        rcases hl with ⟨h1, h2⟩ | ⟨r, h1, h2, h3, h4, h5⟩
        · refine Or.inl ⟨h1, fun r hr hr2 => ?_⟩
          by_cases e : r = k
          · rw [e]; exact c
          · exact h2 r (by omega) hr2
        · refine Or.inr ⟨r, h1, by omega, h3, h4, fun r' hr hr2 => ?_⟩
          by_cases e : r' = k
          · rw [e]; exact c
          · exact h5 r' (by omega) hr2
    · by_cases c : n_can w k g ∧ w (96 + 6 * k + 4) = g + 1
      · rw [if_pos c]
        exact Or.inr ⟨k, rfl, by omega, c.1, c.2⟩
      · rw [if_neg c]
        rcases ho with ⟨h1, h2⟩ | h1
        · refine Or.inl ⟨h1, fun r hr hr2 => ?_⟩
          by_cases e : r = k
          · rw [e]; exact c
          · exact h2 r (by omega) hr2
        · exact Or.inr h1
set_option maxRecDepth 16384 in
theorem n_choice_pick {w : Nat → Nat} {g : Nat} (Z : Wz w) (h : ∀ r, r < 16 → ¬ n_has w r 1 g) : n_choice w g = n_pick w g := by
  obtain ⟨low, own, e, hl, ho⟩ := n_chl_no h 16 0 0 (by omega) (Or.inl ⟨rfl, fun r h1 h2 => by omega⟩) (Or.inl ⟨rfl, fun r h1 h2 => by omega⟩)
  unfold n_choice n_pick
  rw [e]
  have hlow : low = n_first w g 16 := by
    rcases n_first_is (w := w) (g := g) 16 (by omega) with ⟨f1, f2⟩ | ⟨r, f1, f2, f3, f4, f5⟩
    · rcases hl with ⟨h1, h2⟩ | ⟨r, h1, h2, h3, h4⟩
      · rw [h1, f1]
      · exact absurd h3 (f2 r (by omega) h2)
    · rcases hl with ⟨h1, h2⟩ | ⟨r', h1, h2, h3, h4⟩
      · exact absurd f4 (h2 r f3)
      · have a1 : ¬ r' < r := fun hh => f5 r' (by omega) hh h3
        have a2 : ¬ r < r' := fun hh => h4 r hh f4
        omega
  rcases n_res_is (w := w) (g := g) 16 (by omega) with ⟨f1, f2⟩ | ⟨r, f1, f2, f3⟩
  · rcases ho with ⟨h1, h2⟩ | ⟨r', h1, h2, h3, h4⟩
    · rw [if_neg (show ¬ own ≠ 0 by omega), if_neg (show ¬ (n_res w g 16 ≠ 0 ∧ n_can w (n_res w g 16 - 1) g) from fun hh => hh.1 f1), hlow]
    · exact absurd h4 (f2 r' (by omega) h2)
  · rw [f1, Nat.add_sub_cancel]
    rcases ho with ⟨h1, h2⟩ | ⟨r', h1, h2, h3, h4⟩
    · rw [if_neg (show ¬ own ≠ 0 by omega), if_neg (show ¬ (r + 1 ≠ 0 ∧ n_can w r g) from fun hh => h2 r f2 ⟨hh.2, f3⟩), hlow]
    · have er : r' = r := Z.2.1.2.1 r' r h2 f2 (by omega) (by omega)
      subst er
      rw [if_pos (by omega), if_pos ⟨by omega, h3⟩, h1]

