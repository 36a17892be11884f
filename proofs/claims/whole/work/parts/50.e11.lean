set_option maxRecDepth 16384 in
theorem v_goTicks {B : Nat} {v : x_V} {w : Nat → Nat} (R : Rv v w) (F : Wf B w) {t : Nat} (ht : t ≤ 100) (h9 : B + 700000 ≤ 1000000000) : Ok (fX7_goTicks v (nn t)) (fun q => q.1 = nn (n_go t w).1 ∧ Rv q.2 (n_go t w).2) ∧ Wf (B + 600100) (n_go t w).2 ∧ (n_go t w).1 ≤ 1200 := by
  have h := v_go t 400 B v w 0 t 0 R F (by omega) ht (by omega) (by omega)
  refine ⟨Ok_mono h.1 (fun q hq => ⟨by rw [hq.1, Nat.zero_add], hq.2⟩), ⟨h.2.1.1, h.2.1.2.1, Wb_up h.2.1.2.2 (by omega) (by omega)⟩, by have := h.2.2; omega⟩
def n_hs : Nat → (Nat → Nat) → Nat
  | 0, _ => 0
  | d + 1, w => (if w (8 * (11 - d)) = 3 then 1 else 0) + n_hs d w
set_option maxRecDepth 16384 in
theorem v_hs {v : x_V} {w : Nat → Nat} (R : Rv v w) (Z : WzG w) : ∀ (d n c : Nat), d ≤ 12 → d < n → fX7_inRooms_b4 n v (nn c) (nn (12 - d)) = some (nn (c + n_hs d w)) := by
  intro d
  induction d with
  | zero =>
    intro n c hd hn
    obtain ⟨n, rfl⟩ : ∃ m, n = m + 1 := ⟨n - 1, by omega⟩
    rw [fX7_inRooms_b4, n_hs, if_pos (by decide)]
    rfl
  | succ d ih =>
    intro n c hd hn
    obtain ⟨n, rfl⟩ : ∃ m, n = m + 1 := ⟨n - 1, by omega⟩
    have e12 : 12 - (d + 1) = 11 - d := by omega
    have e13 : 12 - d = 11 - d + 1 := by omega
    have z := (Z (11 - d) (by omega)).1
    have I := fun c => ih n c (by omega) (by omega)
    rw [e13] at I
    rw [fX7_inRooms_b4, n_hs, e12, if_neg (fun h => by have := (nn_le (a := 12) (by omega) (by omega)).mp h; omega), v_doing R (by omega), xb_some]
    by_cases c1 : w (8 * (11 - d)) = 3
    · rw [if_pos c1, if_pos (show nn (w (8 * (11 - d))) = (3 : Int32) by rw [c1]; rfl)]
      have h := I (c + 1)
      rw [← nn_add, ← nn_add] at h
      rw [show c + (1 + n_hs d w) = c + 1 + n_hs d w by omega]
      exact h
    · rw [if_neg c1, if_neg (show ¬ nn (w (8 * (11 - d))) = (3 : Int32) from fun h => c1 ((nn_inj (b := 3) (by omega) (by omega)).mp h))]
      have h := I c
      rw [show nn c = nn c + 0 from (Int32.add_zero _).symm, ← nn_add] at h
      rw [Nat.zero_add]
      exact h
set_option maxRecDepth 16384 in
theorem v_inRooms {v : x_V} {w : Nat → Nat} (R : Rv v w) (Z : WzG w) : fX7_inRooms v = some (nn (n_hs 12 w)) := by
  have h := v_hs R Z 12 400 0 (by omega) (by omega)
  rw [Nat.zero_add] at h
  exact h
/-! ===== the class's house against the row ===== -/
def n_ls (w : Nat → Nat) (g : Nat) : Nat → Nat
  | 0 => 0
  | r + 1 => n_ls w g r + if w (96 + 6 * r) = 2 ∧ w (96 + 6 * r + 2) = g then 1 else 0
def RuG (u : x_H) (w : Nat → Nat) : Prop := ∀ g, g < 12 → u 5 g = nn (w (8 * g)) ∧ u 6 g = mm (if 2 ≤ w (8 * g) then w (8 * g + 1) + 1 else 0) ∧ u 7 g = mm (w (8 * g + 4)) ∧ u 8 g = nn (w (8 * g + 5)) ∧ u 9 g = nn (w (8 * g + 2)) ∧ u 10 g = nn (w (8 * g + 3)) ∧ u 11 g = nn (w (8 * g + 6)) ∧ u 17 g = mm (w (8 * g + 7))
def RuI (u : x_H) (w : Nat → Nat) : Prop := ∀ r, r < 16 → u 12 r = nn (w (96 + 6 * r)) ∧ u 13 r = mm (if w (96 + 6 * r) = 1 ∨ w (96 + 6 * r) = 2 then w (96 + 6 * r + 2) + 1 else 0) ∧ (w (96 + 6 * r) ≠ 0 → u 14 r = nn (w (96 + 6 * r + 1))) ∧ (w (96 + 6 * r) = 2 → u 15 r = mm (w (96 + 6 * r + 3))) ∧ u 16 r = mm (w (96 + 6 * r + 4))
def RuL (u : x_H) (w : Nat → Nat) : Prop := ∀ g, g < 12 → u 18 g = nn (n_ls w g 16)
def RuH (u : x_H) (w : Nat → Nat) : Prop := ∀ r, r < 16 → (u 2 0).toBitVec.getLsbD r = decide (w (96 + 6 * r + 5) = 1)
def RuM (u : x_H) (w : Nat → Nat) : Prop := u 3 0 = nn (w 552) ∧ ∀ p, p < w 552 → u 19 p = nn (w (192 + 6 * p)) ∧ u 20 p = nn (w (192 + 6 * p + 1)) ∧ u 21 p = mm (if w (192 + 6 * p) = 0 then 0 else w (192 + 6 * p + 2) + 1) ∧ u 22 p = mm (w (192 + 6 * p + 3)) ∧ u 23 p = mm (w (192 + 6 * p + 4)) ∧ u 24 p = nn (w (192 + 6 * p + 5))
def RuN (u : x_H) (w : Nat → Nat) : Prop := (u 0 0 = nn (w 554) ∧ u 0 1 = nn (w 553) ∧ u 0 2 = nn (w 558) ∧ u 0 3 = nn (w 559) ∧ u 0 4 = nn (w 560) ∧ u 0 5 = nn (w 561) ∧ u 0 6 = nn (w 562)) ∧ (u 2 1 = nn (w 555) ∧ u 2 2 = nn (w 556) ∧ u 2 3 = nn (w 557)) ∧ ∀ k, k < 7 → u 4 k = nn (w (563 + k))
def Ru (u : x_H) (w : Nat → Nat) : Prop := RuG u w ∧ RuI u w ∧ RuL u w ∧ RuH u w ∧ RuM u w ∧ RuN u w
set_option maxRecDepth 16384 in
theorem x_hu_ne {u : x_H} {k i k' i' : Nat} {x : Int32} (h : k' ≠ k) : x_hu u k i x k' i' = u k' i' := by
  unfold x_hu
  rw [x_hs_ne _ _ h]
set_option maxRecDepth 16384 in
theorem x_hu_ni {u : x_H} {k i k' i' : Nat} {x : Int32} (h : i' ≠ i) : x_hu u k i x k' i' = u k' i' := by
  by_cases c : k' = k
  · subst c
    unfold x_hu
    rw [x_hs_eq]
    exact if_neg h
  · exact x_hu_ne c
set_option maxRecDepth 16384 in
theorem x_hu_eq {u : x_H} {k i k' i' : Nat} {x : Int32} (h : k' = k) (h1 : i' = i) : x_hu u k i x k' i' = x := by
  subst h; subst h1
  unfold x_hu
  rw [x_hs_eq]
  exact if_pos rfl
set_option maxRecDepth 16384 in
theorem RuG_of {u u' : x_H} {w w' : Nat → Nat} (R : RuG u w) (h : ∀ k i, (5 ≤ k ∧ k ≤ 11) ∨ k = 17 → u' k i = u k i) (hw : ∀ i, i < 96 → w' i = w i) : RuG u' w' := by
  intro g hg
  rw [h _ _ (by omega), h _ _ (by omega), h _ _ (by omega), h _ _ (by omega), h _ _ (by omega), h _ _ (by omega), h _ _ (by omega), h _ _ (by omega)]
  rw [hw _ (by omega), hw _ (by omega), hw _ (by omega), hw _ (by omega), hw _ (by omega), hw _ (by omega), hw _ (by omega), hw _ (by omega)]
  exact R g hg
set_option maxRecDepth 16384 in
theorem RuI_of {u u' : x_H} {w w' : Nat → Nat} (R : RuI u w) (h : ∀ k i, 12 ≤ k ∧ k ≤ 16 → u' k i = u k i) (hw : ∀ i, 96 ≤ i → i < 192 → w' i = w i) : RuI u' w' := by
  intro r hr
  rw [h _ _ (by omega), h _ _ (by omega), h _ _ (by omega), h _ _ (by omega), h _ _ (by omega)]
  rw [hw _ (by omega) (by omega), hw _ (by omega) (by omega), hw _ (by omega) (by omega), hw _ (by omega) (by omega), hw _ (by omega) (by omega)]
  exact R r hr
set_option maxRecDepth 16384 in
theorem n_ls_of {w w' : Nat → Nat} {g : Nat} : ∀ d, d ≤ 16 → (∀ r, r < d → (w' (96 + 6 * r) = 2 ∧ w' (96 + 6 * r + 2) = g ↔ w (96 + 6 * r) = 2 ∧ w (96 + 6 * r + 2) = g)) → n_ls w' g d = n_ls w g d := by
  intro d
  induction d with
  | zero => intro _ _; rfl
  | succ d ih =>
    intro hd h
    show n_ls w' g d + _ = n_ls w g d + _
    rw [ih (by omega) (fun r hr => h r (by omega))]
    simp only [h d (by omega)]
set_option maxRecDepth 16384 in
theorem RuL_of {u u' : x_H} {w w' : Nat → Nat} (R : RuL u w) (h : ∀ i, u' 18 i = u 18 i) (hw : ∀ i, 96 ≤ i → i < 192 → w' i = w i) : RuL u' w' := by
  intro g hg
  rw [h, R g hg, n_ls_of (w := w) (w' := w') 16 (by omega) (fun r hr => by rw [hw _ (by omega) (by omega), hw _ (by omega) (by omega)])]
set_option maxRecDepth 16384 in
theorem RuH_of {u u' : x_H} {w w' : Nat → Nat} (R : RuH u w) (h : u' 2 0 = u 2 0) (hw : ∀ r, r < 16 → w' (96 + 6 * r + 5) = w (96 + 6 * r + 5)) : RuH u' w' := by
  intro r hr
  rw [h, hw r hr]; exact R r hr
set_option maxRecDepth 16384 in
theorem RuM_of {u u' : x_H} {w w' : Nat → Nat} (R : RuM u w) (h : ∀ k i, k = 3 ∨ (19 ≤ k ∧ k ≤ 24) → u' k i = u k i) (hw : ∀ i, 192 ≤ i → i ≤ 552 → w' i = w i) (hm : w 552 ≤ 60) : RuM u' w' := by
  refine ⟨?_, fun p hp => ?_⟩
  · rw [h _ _ (by omega), hw _ (by omega) (by omega)]; exact R.1
  · rw [hw 552 (by omega) (by omega)] at hp
    rw [h _ _ (by omega), h _ _ (by omega), h _ _ (by omega), h _ _ (by omega), h _ _ (by omega), h _ _ (by omega)]
    rw [hw _ (by omega) (by omega), hw _ (by omega) (by omega), hw _ (by omega) (by omega), hw _ (by omega) (by omega), hw _ (by omega) (by omega), hw _ (by omega) (by omega)]
    exact R.2 p hp
set_option maxRecDepth 16384 in
theorem RuN_of {u u' : x_H} {w w' : Nat → Nat} (R : RuN u w) (h : ∀ k i, k = 0 ∨ (k = 2 ∧ 1 ≤ i) ∨ k = 4 → u' k i = u k i) (hw : ∀ i, 553 ≤ i → w' i = w i) : RuN u' w' := by
  refine ⟨?_, ?_, fun k hk => ?_⟩
  · rw [h _ _ (by omega), h _ _ (by omega), h _ _ (by omega), h _ _ (by omega), h _ _ (by omega), h _ _ (by omega), h _ _ (by omega)]
    rw [hw _ (by omega), hw _ (by omega), hw _ (by omega), hw _ (by omega), hw _ (by omega), hw _ (by omega), hw _ (by omega)]
    exact R.1
  · rw [h _ _ (by omega), h _ _ (by omega), h _ _ (by omega), hw _ (by omega), hw _ (by omega), hw _ (by omega)]
    exact R.2.1
  · rw [h _ _ (by omega), hw _ (by omega)]
    exact R.2.2 k hk
set_option maxRecDepth 16384 in
theorem u_isGuest {g : Nat} (h : g < 12) : fX6_isGuest (nn g) = some (1 : Int32) := by
  unfold fX6_isGuest
  rw [if_neg (fun h => (nn_neg (by omega)).mp h), if_neg (fun h => by have := (nn_le (a := 12) (by omega) (by omega)).mp h; omega)]
set_option maxRecDepth 16384 in
theorem u_isRoom {g : Nat} (h : g < 16) : fX6_isRoom (nn g) = some (1 : Int32) := by
  unfold fX6_isRoom
  rw [if_neg (fun h => (nn_neg (by omega)).mp h), if_neg (fun h => by have := (nn_le (a := 16) (by omega) (by omega)).mp h; omega)]
set_option maxRecDepth 16384 in
theorem nn_one : ¬ (1 : Int32) = 0 := by decide
set_option maxRecDepth 16384 in
theorem u_send {u : x_H} {w : Nat → Nat} {B : Nat} (R : Ru u w) (hB : Wb B w) (hm : w 552 ≤ 60) {k g r a t : Nat} (hk : k < 7) {a3 : Int32} (ha3 : a3 = mm (if k = 0 then 0 else r + 1)) : Ok (fX2_send u (nn k) (nn g) a3 (mm a) (nn t)) (fun q => q.1 = mm (w 553 + 1) ∧ Ru q.2 (n_post w k g r a t)) := by
  obtain ⟨RG, RI, RL, RH, RM, RN⟩ := R
  have b0 := hB.1
  unfold fX2_send fX2_send_j36
  have e01 : u 0 1 = nn (w 553) := RN.1.2.1
  have e02 : u 0 2 = nn (w 558) := RN.1.2.2.1
  have e30 : u 3 0 = nn (w 552) := RM.1
  have e4 : u 4 k = nn (w (563 + k)) := RN.2.2 k hk
  have L := fun i (h : i < 192) => n_post_lo (w := w) (k := k) (g := g) (r := r) (a := a) (t := t) hk hm h
  have N3 := n_post_no (w := w) (k := k) (g := g) (r := r) (a := a) (t := t) hk hm
  have N2 := n_post_many (w := w) (k := k) (g := g) (r := r) (a := a) (t := t) hk hm
  have NH := fun i (h : 553 < i) (h1 : i ≠ 558) (h2 : i ≠ 563 + k) => n_post_hi (w := w) (k := k) (g := g) (r := r) (a := a) (t := t) hk hm h h1 h2
  rw [e01, x_let_n]
  have f4 : x_hu u 0 1 (nn (w 553) + 1) 4 k = nn (w (563 + k)) := by rw [x_hu_ne (by omega), e4]
  have f30 : ∀ x, x_hu (x_hu u 0 1 (nn (w 553) + 1)) 4 k x 3 0 = nn (w 552) := fun x => by rw [x_hu_ne (by omega), x_hu_ne (by omega), e30]
  have f02 : ∀ x, x_hu (x_hu u 0 1 (nn (w 553) + 1)) 4 k x 0 2 = nn (w 558) := fun x => by rw [x_hu_ne (by omega), x_hu_ni (by omega), e02]
  refine Ok_let (fun u1 e1 => ?_)
  subst e1
  rw [if_neg (fun h => (nn_neg (by omega)).mp h), if_neg (fun h => by have := (nn_le (a := 7) (by omega) (by omega)).mp h; omega), if_pos (nn_in (by omega) hk)]
  refine Ok_let (fun u2 e2 => ?_)
  rw [nn_clamp (by omega : k < 2147483648), f4] at e2
  subst e2
  rw [f30, x_let_n, if_neg (fun h => (nn_neg (by omega)).mp h)]
  have e1n : nn (w 553) + 1 = nn (w 553 + 1) := nn_add _ 1
  have e2n : nn (w (563 + k)) + 1 = nn (w (563 + k) + 1) := nn_add _ 1
  have K4 : ∀ k', k' < 7 → n_post w k g r a t (563 + k') = if k' = k then w (563 + k) + 1 else w (563 + k') := by
    intro k' hk'
    by_cases c : k' = k
    · subst c
      rw [if_pos rfl]
      unfold n_post
      split <;> (try simp (disch := omega) only [nn_add, nn_mul, nn_clamp, nn_in1, nn_inj, nn_lt, nn_le, nn_neg, nu_eq1, nu_ne1, nn_nb0, nn_true, nn_false, if_true, if_false, x_let_n, x_let_m, xb_some, eq_self, ite_true, ite_false, not_false_eq_true, not_true_eq_false, nneg1, nl0, nl1, nl2, nl3, nl4, nl5, nl6, nl7, nl8, nl9, nl10, nl11, nl12, nl15, nl16, nl60, nl96, nl192, nl552, nl553, nl554, nl555, nl556, nl557, nl558, nl559, nl560, nl561, nl562, nl563, nl570])
    · rw [if_neg c, NH _ (by omega) (by omega) (by omega)]
  by_cases c : w 552 = 60
  · rw [if_neg (fun h => by have := (nn_lt (b := 60) (by omega) (by omega)).mp h; omega), f02]
    have N8 : n_post w k g r a t 558 = w 558 + 1 := by unfold n_post; rw [if_pos c]; (try simp (disch := omega) only [nn_add, nn_mul, nn_clamp, nn_in1, nn_inj, nn_lt, nn_le, nn_neg, nu_eq1, nu_ne1, nn_nb0, nn_true, nn_false, if_true, if_false, x_let_n, x_let_m, xb_some, eq_self, ite_true, ite_false, not_false_eq_true, not_true_eq_false, nneg1, nl0, nl1, nl2, nl3, nl4, nl5, nl6, nl7, nl8, nl9, nl10, nl11, nl12, nl15, nl16, nl60, nl96, nl192, nl552, nl553, nl554, nl555, nl556, nl557, nl558, nl559, nl560, nl561, nl562, nl563, nl570])
    refine Ok_some ⟨(mm_succ _).symm, show Ru (x_hu (x_hu (x_hu u 0 1 (nn (w 553) + 1)) 4 k (nn (w (563 + k)) + 1)) 0 2 (nn (w 558) + 1)) _ from ⟨RuG_of RG (fun k' i h => ?_) (fun i h => L i (by omega)), RuI_of RI (fun k' i h => ?_) (fun i h h2 => L i h2), RuL_of RL (fun i => ?_) (fun i h h2 => L i h2), RuH_of RH ?_ (fun r hr => L _ (by omega)), ⟨?_, fun p hp => ?_⟩, ⟨?_, ?_, fun k' hk' => ?_⟩⟩⟩
    · rw [x_hu_ne (by omega), x_hu_ne (by omega), x_hu_ne (by omega)]
    · rw [x_hu_ne (by omega), x_hu_ne (by omega), x_hu_ne (by omega)]
    · rw [x_hu_ne (by omega), x_hu_ne (by omega), x_hu_ne (by omega)]
    · rw [x_hu_ne (by omega), x_hu_ne (by omega), x_hu_ne (by omega)]
    · rw [x_hu_ne (by omega), x_hu_ne (by omega), x_hu_ne (by omega), N2, if_pos c, e30, c]
    · rw [N2, if_pos c] at hp
      have O := fun j hj => n_post_old (w := w) (k := k) (g := g) (r := r) (a := a) (t := t) hk hm (show p < w 552 by omega) (j := j) hj
      have O0 : n_post w k g r a t (192 + 6 * p) = w (192 + 6 * p) := O 0 (by omega)
      have h := RM.2 p (by omega)
      rw [O0, O 1 (by omega), O 2 (by omega), O 3 (by omega), O 4 (by omega), O 5 (by omega)]
      repeat rw [x_hu_ne (show (19 : Nat) ≠ _ by omega)]
      repeat rw [x_hu_ne (show (20 : Nat) ≠ _ by omega)]
      repeat rw [x_hu_ne (show (21 : Nat) ≠ _ by omega)]
      repeat rw [x_hu_ne (show (22 : Nat) ≠ _ by omega)]
      repeat rw [x_hu_ne (show (23 : Nat) ≠ _ by omega)]
      repeat rw [x_hu_ne (show (24 : Nat) ≠ _ by omega)]
      exact h
    · obtain ⟨n0, n1, n2, n3, n4, n5, n6⟩ := RN.1
      rw [N3, N8, NH 554 (by omega) (by omega) (by omega), NH 559 (by omega) (by omega) (by omega), NH 560 (by omega) (by omega) (by omega), NH 561 (by omega) (by omega) (by omega), NH 562 (by omega) (by omega) (by omega)]
      refine ⟨?_, ?_, ?_, ?_, ?_, ?_, ?_⟩
      · rw [x_hu_ni (by omega), x_hu_ne (by omega), x_hu_ni (by omega)]; exact n0
      · rw [x_hu_ni (by omega), x_hu_ne (by omega), x_hu_eq rfl rfl]; exact e1n
      · rw [x_hu_eq rfl rfl]; exact nn_add _ 1
      · rw [x_hu_ni (by omega), x_hu_ne (by omega), x_hu_ni (by omega)]; exact n3
      · rw [x_hu_ni (by omega), x_hu_ne (by omega), x_hu_ni (by omega)]; exact n4
      · rw [x_hu_ni (by omega), x_hu_ne (by omega), x_hu_ni (by omega)]; exact n5
      · rw [x_hu_ni (by omega), x_hu_ne (by omega), x_hu_ni (by omega)]; exact n6
    · rw [NH 555 (by omega) (by omega) (by omega), NH 556 (by omega) (by omega) (by omega), NH 557 (by omega) (by omega) (by omega)]
      rw [x_hu_ne (by omega), x_hu_ne (by omega), x_hu_ne (by omega), x_hu_ne (by omega), x_hu_ne (by omega), x_hu_ne (by omega), x_hu_ne (by omega), x_hu_ne (by omega), x_hu_ne (by omega)]
      exact RN.2.1
    · rw [K4 k' hk', x_hu_ne (by omega)]
      by_cases ck : k' = k
      · rw [if_pos ck, x_hu_eq rfl ck]; exact e2n
      · rw [if_neg ck, x_hu_ni ck, x_hu_ne (by omega)]; exact RN.2.2 k' hk'
  · rw [if_pos (show nn (w 552) < (60 : Int32) from (nn_lt (b := 60) (by omega) (by omega)).mpr (by omega)), if_pos (nn_in (by omega) (by omega)), nn_clamp (by omega : w 552 < 2147483648)]
    have N8 : n_post w k g r a t 558 = w 558 := by unfold n_post; rw [if_neg c]; (try simp (disch := omega) only [nn_add, nn_mul, nn_clamp, nn_in1, nn_inj, nn_lt, nn_le, nn_neg, nu_eq1, nu_ne1, nn_nb0, nn_true, nn_false, if_true, if_false, x_let_n, x_let_m, xb_some, eq_self, ite_true, ite_false, not_false_eq_true, not_true_eq_false, nneg1, nl0, nl1, nl2, nl3, nl4, nl5, nl6, nl7, nl8, nl9, nl10, nl11, nl12, nl15, nl16, nl60, nl96, nl192, nl552, nl553, nl554, nl555, nl556, nl557, nl558, nl559, nl560, nl561, nl562, nl563, nl570])
    obtain ⟨w0, w1, w2, w3, w4, w5⟩ := n_post_new (w := w) (k := k) (g := g) (r := r) (a := a) (t := t) hk (by omega)
    refine Ok_let (fun u3 e3 => ?_)
    refine Ok_let (fun u4 e4 => ?_)
    refine Ok_let (fun u5 e5 => ?_)
    refine Ok_let (fun u6 e6 => ?_)
    refine Ok_let (fun u7 e7 => ?_)
    refine Ok_let (fun u8 e8 => ?_)
    refine Ok_let (fun u9 e9 => ?_)
    have D : ∀ k' i, k' ≠ 19 → k' ≠ 20 → k' ≠ 21 → k' ≠ 22 → k' ≠ 23 → k' ≠ 24 → u8 k' i = x_hu (x_hu u 0 1 (nn (w 553) + 1)) 4 k (nn (w (563 + k)) + 1) k' i := by
      intro k' i h1 h2 h3 h4 h5 h6
      rw [e8, x_hu_ne h6, e7, x_hu_ne h5, e6, x_hu_ne h4, e5, x_hu_ne h3, e4, x_hu_ne h2, e3, x_hu_ne h1]
    have D9 : ∀ k' i, k' ≠ 3 → k' ≠ 19 → k' ≠ 20 → k' ≠ 21 → k' ≠ 22 → k' ≠ 23 → k' ≠ 24 → u9 k' i = x_hu (x_hu u 0 1 (nn (w 553) + 1)) 4 k (nn (w (563 + k)) + 1) k' i := by
      intro k' i h0 h1 h2 h3 h4 h5 h6
      rw [e9, x_hu_ne h0, D k' i h1 h2 h3 h4 h5 h6]
    have D3 : u9 3 0 = nn (w 552 + 1) := by rw [e9, x_hu_eq rfl rfl, D 3 0 (by omega) (by omega) (by omega) (by omega) (by omega) (by omega), x_hu_ne (by omega), x_hu_ne (by omega), e30]; exact nn_add _ 1
    refine Ok_some ⟨(mm_succ _).symm, show Ru u9 _ from ⟨RuG_of RG (fun k' i h => ?_) (fun i h => L i (by omega)), RuI_of RI (fun k' i h => ?_) (fun i h h2 => L i h2), RuL_of RL (fun i => ?_) (fun i h h2 => L i h2), RuH_of RH ?_ (fun r hr => L _ (by omega)), ⟨?_, fun p hp => ?_⟩, ⟨?_, ?_, fun k' hk' => ?_⟩⟩⟩
    · rw [D9 _ _ (by omega) (by omega) (by omega) (by omega) (by omega) (by omega) (by omega), x_hu_ne (by omega), x_hu_ne (by omega)]
    · rw [D9 _ _ (by omega) (by omega) (by omega) (by omega) (by omega) (by omega) (by omega), x_hu_ne (by omega), x_hu_ne (by omega)]
    · rw [D9 _ _ (by omega) (by omega) (by omega) (by omega) (by omega) (by omega) (by omega), x_hu_ne (by omega), x_hu_ne (by omega)]
    · rw [D9 _ _ (by omega) (by omega) (by omega) (by omega) (by omega) (by omega) (by omega), x_hu_ne (by omega), x_hu_ne (by omega)]
    · rw [D3, N2, if_neg c]
    · rw [N2, if_neg c] at hp
      by_cases cp : p = w 552
      · subst cp
        rw [w0, w1, w2, w3, w4, w5]
        refine ⟨?_, ?_, ?_, ?_, ?_, ?_⟩
        · rw [e9, x_hu_ne (by omega), e8, x_hu_ne (by omega), e7, x_hu_ne (by omega), e6, x_hu_ne (by omega), e5, x_hu_ne (by omega), e4, x_hu_ne (by omega), e3, x_hu_eq rfl rfl]
        · rw [e9, x_hu_ne (by omega), e8, x_hu_ne (by omega), e7, x_hu_ne (by omega), e6, x_hu_ne (by omega), e5, x_hu_ne (by omega), e4, x_hu_eq rfl rfl]
        · rw [e9, x_hu_ne (by omega), e8, x_hu_ne (by omega), e7, x_hu_ne (by omega), e6, x_hu_ne (by omega), e5, x_hu_eq rfl rfl, ha3]
        · rw [e9, x_hu_ne (by omega), e8, x_hu_ne (by omega), e7, x_hu_ne (by omega), e6, x_hu_eq rfl rfl, mm_succ]
        · rw [e9, x_hu_ne (by omega), e8, x_hu_ne (by omega), e7, x_hu_eq rfl rfl]
        · rw [e9, x_hu_ne (by omega), e8, x_hu_eq rfl rfl]
      · have O := fun j hj => n_post_old (w := w) (k := k) (g := g) (r := r) (a := a) (t := t) hk hm (show p < w 552 by omega) (j := j) hj
        have O0 : n_post w k g r a t (192 + 6 * p) = w (192 + 6 * p) := O 0 (by omega)
        have h := RM.2 p (by omega)
        rw [O0, O 1 (by omega), O 2 (by omega), O 3 (by omega), O 4 (by omega), O 5 (by omega)]
        have D5 : ∀ k', k' ≠ 3 → k' ≠ 0 → k' ≠ 4 → u9 k' p = u k' p := by
          intro k' h3 h0 h4
          rw [e9, x_hu_ne h3, e8, x_hu_ni cp, e7, x_hu_ni cp, e6, x_hu_ni cp, e5, x_hu_ni cp, e4, x_hu_ni cp, e3, x_hu_ni cp, x_hu_ne h4, x_hu_ne h0]
        rw [D5 _ (by omega) (by omega) (by omega), D5 _ (by omega) (by omega) (by omega), D5 _ (by omega) (by omega) (by omega), D5 _ (by omega) (by omega) (by omega), D5 _ (by omega) (by omega) (by omega), D5 _ (by omega) (by omega) (by omega)]
        exact h
    · obtain ⟨n0, n1, n2, n3, n4, n5, n6⟩ := RN.1
      rw [N3, N8, NH 554 (by omega) (by omega) (by omega), NH 559 (by omega) (by omega) (by omega), NH 560 (by omega) (by omega) (by omega), NH 561 (by omega) (by omega) (by omega), NH 562 (by omega) (by omega) (by omega)]
      have D0 : ∀ i, u9 0 i = x_hu (x_hu u 0 1 (nn (w 553) + 1)) 4 k (nn (w (563 + k)) + 1) 0 i := fun i => D9 0 i (by omega) (by omega) (by omega) (by omega) (by omega) (by omega) (by omega)
      rw [D0, D0, D0, D0, D0, D0, D0]
      refine ⟨?_, ?_, ?_, ?_, ?_, ?_, ?_⟩
      · rw [x_hu_ne (by omega), x_hu_ni (by omega)]; exact n0
      · rw [x_hu_ne (by omega), x_hu_eq rfl rfl]; exact e1n
      · rw [x_hu_ne (by omega), x_hu_ni (by omega)]; exact n2
      · rw [x_hu_ne (by omega), x_hu_ni (by omega)]; exact n3
      · rw [x_hu_ne (by omega), x_hu_ni (by omega)]; exact n4
      · rw [x_hu_ne (by omega), x_hu_ni (by omega)]; exact n5
      · rw [x_hu_ne (by omega), x_hu_ni (by omega)]; exact n6
    · rw [NH 555 (by omega) (by omega) (by omega), NH 556 (by omega) (by omega) (by omega), NH 557 (by omega) (by omega) (by omega)]
      have D0 : ∀ i, u9 2 i = u 2 i := fun i => by rw [D9 2 i (by omega) (by omega) (by omega) (by omega) (by omega) (by omega) (by omega), x_hu_ne (by omega), x_hu_ne (by omega)]
      rw [D0, D0, D0]
      exact RN.2.1
    · rw [K4 k' hk', D9 4 k' (by omega) (by omega) (by omega) (by omega) (by omega) (by omega) (by omega)]
      by_cases ck : k' = k
      · rw [if_pos ck, x_hu_eq rfl ck]; exact e2n
      · rw [if_neg ck, x_hu_ni ck, x_hu_ne (by omega)]; exact RN.2.2 k' hk'
