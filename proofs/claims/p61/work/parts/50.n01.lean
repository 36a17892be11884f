/-! ===== what ticks do to rooms and guests; what is delivered ===== -/
section TK
variable {B g r d t : Nat} {w w' : Nat → Nat}
set_option maxRecDepth 16384 in
theorem n_rooms_o : ∀ (d : Nat) (w : Nat → Nat) (i : Nat), d ≤ 16 → (∀ r, r < 16 → i ≠ 96 + 6 * r) → n_rooms d w i = w i := by
  intro d
  induction d with
  | zero => intro w i _ _; rfl
  | succ d ih =>
    intro w i hd h
    rw [n_rooms, ih _ _ (by omega) h]
    split
    · rw [nu_ne1 (h _ (by omega))]
    · rfl
set_option maxRecDepth 16384 in
theorem n_rooms_r : ∀ (d : Nat) (w : Nat → Nat) (r : Nat), d ≤ 16 → r < 16 → n_rooms d w (96 + 6 * r) = if 16 - d ≤ r ∧ w (96 + 6 * r) ≠ 0 ∧ w (96 + 6 * r + 1) ≤ w 554 then 0 else w (96 + 6 * r) := by
  intro d
  induction d with
  | zero => intro w r _ hr; rw [n_rooms, if_neg (by omega)]
  | succ d ih =>
    intro w r hd hr
    rw [n_rooms, ih _ _ (by omega) hr]
    by_cases c : w (96 + 6 * (15 - d)) ≠ 0 ∧ w (96 + 6 * (15 - d) + 1) ≤ w 554
    · rw [if_pos c, nu_ne1 (j := 96 + 6 * r + 1) (by omega), nu_ne1 (j := 554) (by omega)]
      by_cases e : r = 15 - d
      · rw [← e] at c ⊢
        rw [nu_eq1 rfl, if_neg (by omega), if_pos ⟨by omega, c⟩]
      · rw [nu_ne1 (by omega)]
        by_cases e2 : 16 - d ≤ r ∧ w (96 + 6 * r) ≠ 0 ∧ w (96 + 6 * r + 1) ≤ w 554
        · rw [if_pos e2, if_pos ⟨by omega, e2.2⟩]
        · rw [if_neg e2, if_neg (fun q => e2 ⟨by omega, q.2⟩)]
    · rw [if_neg c]
      by_cases e : r = 15 - d
      · rw [← e] at c
        rw [if_neg (fun q => c q.2), if_neg (fun q => c q.2)]
      · by_cases e2 : 16 - d ≤ r ∧ w (96 + 6 * r) ≠ 0 ∧ w (96 + 6 * r + 1) ≤ w 554
        · rw [if_pos e2, if_pos ⟨by omega, e2.2⟩]
        · rw [if_neg e2, if_neg (fun q => e2 ⟨by omega, q.2⟩)]
set_option maxRecDepth 16384 in
theorem n_want_565 (hg : g < 12) (hm : w 552 ≤ 60) : n_want w g 565 = w 565 + 1 := by
  unfold n_want
  rw [nu_ne1 (by omega), nu_ne1 (by omega)]
  exact n_post_kind (k := 2) (by omega) hm
set_option maxRecDepth 16384 in
theorem n_guests_o : ∀ (d : Nat) (w : Nat → Nat), d ≤ 12 → w 552 ≤ 60 → (∀ i, (96 ≤ i ∧ i < 192) ∨ (554 ≤ i ∧ i ≤ 557) → (n_guests d w).2 i = w i) ∧ (∀ g j, g < 12 → 1 ≤ j → j ≤ 3 → (n_guests d w).2 (8 * g + j) = w (8 * g + j)) ∧ (∀ g, g < 12 → (n_guests d w).2 (8 * g) = if 12 - d ≤ g ∧ w (8 * g) = 3 ∧ w (8 * g + 2) + w (8 * g + 3) ≤ w 554 then 0 else w (8 * g)) ∧ w 565 ≤ (n_guests d w).2 565 ∧ (∀ g, 12 - d ≤ g → g < 12 → w (8 * g) = 3 → w (8 * g + 2) + w (8 * g + 3) ≤ w 554 → 1 ≤ (n_guests d w).1) ∧ (∀ g, 12 - d ≤ g → g < 12 → w (8 * g) = 3 → w 554 < w (8 * g + 2) + w (8 * g + 3) → (w 554 = w (8 * g + 2) + w (8 * g + 3) / 2 ∨ w 554 = w (8 * g + 2) + 7 * w (8 * g + 3) / 8) → w 565 < (n_guests d w).2 565) := by
  intro d
  induction d with
  | zero =>
    intro w hd hm
    refine ⟨fun i _ => rfl, fun g j _ _ _ => rfl, fun g hg => ?_, Nat.le_refl _, fun g h1 h2 => by omega, fun g h1 h2 => by omega⟩
    rw [if_neg (by omega)]; rfl
  | succ d ih =>
    intro w hd hm
    rw [n_guests]
    obtain ⟨a, ha⟩ : ∃ a, a = 11 - d := ⟨_, rfl⟩
    have ha12 : a < 12 := by omega
    rw [← ha]
    by_cases c : w (8 * a) = 3 ∧ w (8 * a + 2) + w (8 * a + 3) ≤ w 554
    · rw [if_pos c]
      have E : ∀ i, i ≠ 8 * a → i ≠ 561 → nu (nu w (8 * a) 0) 561 (w 561 + 1) i = w i := fun i h1 h2 => by rw [nu_ne1 h2, nu_ne1 h1]
      have e0 : nu (nu w (8 * a) 0) 561 (w 561 + 1) (8 * a) = 0 := by rw [nu_ne1 (by omega), nu_eq1 rfl]
      obtain ⟨i1, i2, i3, i4, i5, i6⟩ := ih (nu (nu w (8 * a) 0) 561 (w 561 + 1)) (by omega) (by rw [E _ (by omega) (by omega)]; exact hm)
      refine ⟨fun i hi => (i1 i hi).trans (E i (by omega) (by omega)), fun g j hg h1 h2 => (i2 g j hg h1 h2).trans (E _ (by omega) (by omega)), fun g hg => ?_, ?_, fun g h1 h2 h3 h4 => Nat.succ_le_succ (Nat.zero_le _), fun g h1 h2 h3 h4 h5 => ?_⟩
      · show (n_guests d (nu (nu w (8 * a) 0) 561 (w 561 + 1))).2 (8 * g) = _
        rw [i3 g hg, E (8 * g + 2) (by omega) (by omega), E (8 * g + 3) (by omega) (by omega), E 554 (by omega) (by omega)]
        by_cases e : g = a
        · rw [e, e0, if_neg (by omega), if_pos ⟨by omega, c⟩]
        · rw [E (8 * g) (by omega) (by omega)]
          by_cases e2 : 12 - d ≤ g ∧ w (8 * g) = 3 ∧ w (8 * g + 2) + w (8 * g + 3) ≤ w 554
          · rw [if_pos e2, if_pos ⟨by omega, e2.2⟩]
          · rw [if_neg e2, if_neg (fun q => e2 ⟨by omega, q.2⟩)]
      · have := i4
        rw [E 565 (by omega) (by omega)] at this
        exact this
      · have ne : g ≠ a := fun e => by rw [e] at h4; omega
        have q := i6 g (by omega) h2 (by rw [E _ (by omega) (by omega)]; exact h3) (by rw [E _ (by omega) (by omega), E _ (by omega) (by omega), E _ (by omega) (by omega)]; exact h4) (by rw [E _ (by omega) (by omega), E _ (by omega) (by omega), E _ (by omega) (by omega)]; exact h5)
        rw [E 565 (by omega) (by omega)] at q
        exact q
    · rw [if_neg c]
      by_cases c2 : w (8 * a) = 3 ∧ (w 554 = w (8 * a + 2) + w (8 * a + 3) / 2 ∨ w 554 = w (8 * a + 2) + 7 * w (8 * a + 3) / 8)
      · rw [if_pos c2]
        have E : ∀ i, (i < 192 ∨ (553 < i ∧ i ≠ 558 ∧ i ≠ 565)) → i ≠ 8 * a + 4 → i ≠ 8 * a + 5 → n_want w a i = w i := fun i h1 h2 h3 => n_want_at ha12 hm h1 h2 h3
        have e5 := n_want_565 (w := w) ha12 hm
        obtain ⟨i1, i2, i3, i4, i5, i6⟩ := ih (n_want w a) (by omega) (n_want_552 ha12 hm)
        rw [e5] at i4 i6
        refine ⟨fun i hi => (i1 i hi).trans (E i (by omega) (by omega) (by omega)), fun g j hg h1 h2 => (i2 g j hg h1 h2).trans (E _ (by omega) (by omega) (by omega)), fun g hg => ?_, by omega, fun g h1 h2 h3 h4 => ?_, fun g h1 h2 h3 h4 h5 => by omega⟩
        · rw [i3 g hg, E (8 * g) (by omega) (by omega) (by omega), E (8 * g + 2) (by omega) (by omega) (by omega), E (8 * g + 3) (by omega) (by omega) (by omega), E 554 (by omega) (by omega) (by omega)]
          by_cases e : g = a
          · rw [e, if_neg (fun q => c q.2), if_neg (fun q => c q.2)]
          · by_cases e2 : 12 - d ≤ g ∧ w (8 * g) = 3 ∧ w (8 * g + 2) + w (8 * g + 3) ≤ w 554
            · rw [if_pos e2, if_pos ⟨by omega, e2.2⟩]
            · rw [if_neg e2, if_neg (fun q => e2 ⟨by omega, q.2⟩)]
        · have ne : g ≠ a := fun e => by rw [e] at h3 h4; exact c ⟨h3, h4⟩
          refine i5 g (by omega) h2 ?_ ?_
          · rw [E _ (by omega) (by omega) (by omega)]; exact h3
          · rw [E (8 * g + 2) (by omega) (by omega) (by omega), E (8 * g + 3) (by omega) (by omega) (by omega), E 554 (by omega) (by omega) (by omega)]; exact h4
      · rw [if_neg c2]
        obtain ⟨i1, i2, i3, i4, i5, i6⟩ := ih w (by omega) hm
        refine ⟨i1, i2, fun g hg => ?_, i4, fun g h1 h2 h3 h4 => ?_, fun g h1 h2 h3 h4 h5 => ?_⟩
        · rw [i3 g hg]
          by_cases e : g = a
          · rw [e, if_neg (fun q => c q.2), if_neg (fun q => c q.2)]
          · by_cases e2 : 12 - d ≤ g ∧ w (8 * g) = 3 ∧ w (8 * g + 2) + w (8 * g + 3) ≤ w 554
            · rw [if_pos e2, if_pos ⟨by omega, e2.2⟩]
            · rw [if_neg e2, if_neg (fun q => e2 ⟨by omega, q.2⟩)]
        · have ne : g ≠ a := fun e => by rw [e] at h3 h4; exact c ⟨h3, h4⟩
          exact i5 g (by omega) h2 h3 h4
        · have ne : g ≠ a := fun e => by rw [e] at h3 h5; exact c2 ⟨h3, h5⟩
          exact i6 g (by omega) h2 h3 h4 h5
/- one tick -/
set_option maxRecDepth 16384 in
theorem n_tick_o (hm : w 552 ≤ 60) : (∀ r, r < 16 → (n_tick w).2 (96 + 6 * r) = if w (96 + 6 * r) ≠ 0 ∧ w (96 + 6 * r + 1) ≤ w 554 + 1 then 0 else w (96 + 6 * r)) ∧ (∀ r, r < 16 → (n_tick w).2 (96 + 6 * r + 1) = w (96 + 6 * r + 1)) ∧ (n_tick w).2 554 = w 554 + 1 ∧ (∀ g j, g < 12 → 1 ≤ j → j ≤ 3 → (n_tick w).2 (8 * g + j) = w (8 * g + j)) ∧ (∀ g, g < 12 → (n_tick w).2 (8 * g) = if w (8 * g) = 3 ∧ w (8 * g + 2) + w (8 * g + 3) ≤ w 554 + 1 then 0 else w (8 * g)) ∧ w 565 ≤ (n_tick w).2 565 ∧ (∀ g, g < 12 → w (8 * g) = 3 → w (8 * g + 2) + w (8 * g + 3) ≤ w 554 + 1 → 1 ≤ (n_tick w).1) ∧ (∀ g, g < 12 → w (8 * g) = 3 → w 554 + 1 < w (8 * g + 2) + w (8 * g + 3) → (w 554 + 1 = w (8 * g + 2) + w (8 * g + 3) / 2 ∨ w 554 + 1 = w (8 * g + 2) + 7 * w (8 * g + 3) / 8) → w 565 < (n_tick w).2 565) := by
  obtain ⟨v, hv⟩ : ∃ v, v = n_rooms 16 (nu w 554 (w 554 + 1)) := ⟨_, rfl⟩
  have E : ∀ i, (∀ r, r < 16 → i ≠ 96 + 6 * r) → i ≠ 554 → v i = w i := fun i h1 h2 => by rw [hv, n_rooms_o 16 _ i (by omega) h1, nu_ne1 h2]
  have e4 : v 554 = w 554 + 1 := by rw [hv, n_rooms_o 16 _ 554 (by omega) (fun r hr => by omega), nu_eq1 rfl]
  have eR : ∀ r, r < 16 → v (96 + 6 * r) = if w (96 + 6 * r) ≠ 0 ∧ w (96 + 6 * r + 1) ≤ w 554 + 1 then 0 else w (96 + 6 * r) := fun r hr => by
    rw [hv, n_rooms_r 16 _ r (by omega) hr, nu_ne1 (j := 96 + 6 * r) (by omega), nu_ne1 (j := 96 + 6 * r + 1) (by omega), nu_eq1 rfl]
    by_cases c : w (96 + 6 * r) ≠ 0 ∧ w (96 + 6 * r + 1) ≤ w 554 + 1
    · rw [if_pos c, if_pos ⟨by omega, c⟩]
    · rw [if_neg c, if_neg (fun q => c q.2)]
  have e0 : ∀ g j, g < 12 → j ≤ 3 → v (8 * g + j) = w (8 * g + j) := fun g j h1 h2 => E _ (fun r hr => by omega) (by omega)
  have e00 : ∀ g, g < 12 → v (8 * g) = w (8 * g) := fun g h1 => E _ (fun r hr => by omega) (by omega)
  have e5 : v 565 = w 565 := E _ (fun r hr => by omega) (by omega)
  obtain ⟨i1, i2, i3, i4, i5, i6⟩ := n_guests_o 12 v (by omega) (by rw [E 552 (fun r hr => by omega) (by omega)]; exact hm)
  have ht : n_tick w = n_guests 12 v := by rw [hv]; rfl
  rw [ht]
  refine ⟨fun r hr => (i1 _ (by omega)).trans (eR r hr), fun r hr => (i1 _ (by omega)).trans (E _ (fun r' hr' => by omega) (by omega)), (i1 554 (by omega)).trans e4, fun g j hg h1 h2 => (i2 g j hg h1 h2).trans (e0 g j hg h2), fun g hg => ?_, by rw [← e5]; exact i4, fun g hg h3 h4 => ?_, fun g hg h3 h4 h5 => ?_⟩
  · rw [i3 g hg, e00 g hg, e0 g 2 hg (by omega), e0 g 3 hg (by omega), e4]
    by_cases c : w (8 * g) = 3 ∧ w (8 * g + 2) + w (8 * g + 3) ≤ w 554 + 1
    · rw [if_pos c, if_pos ⟨by omega, c⟩]
    · rw [if_neg c, if_neg (fun q => c q.2)]
  · exact i5 g (by omega) hg (by rw [e00 g hg]; exact h3) (by rw [e0 g 2 hg (by omega), e0 g 3 hg (by omega), e4]; exact h4)
  · rw [← e5]
    exact i6 g (by omega) hg (by rw [e00 g hg]; exact h3) (by rw [e0 g 2 hg (by omega), e0 g 3 hg (by omega), e4]; exact h4) (by rw [e0 g 2 hg (by omega), e0 g 3 hg (by omega), e4]; exact h5)
set_option maxRecDepth 16384 in
theorem n_go0 (w : Nat → Nat) : (n_go 0 w).2 = w := rfl
set_option maxRecDepth 16384 in
theorem n_go0a (w : Nat → Nat) : (n_go 0 w).1 = 0 := rfl
/- some ticks -/
set_option maxRecDepth 16384 in
theorem n_go_o : ∀ (t B : Nat) (w : Nat → Nat), Wf B w → B + t * 6001 + 6001 ≤ 1000000000 → (∀ r, r < 16 → (n_go t w).2 (96 + 6 * r) = if w (96 + 6 * r) ≠ 0 ∧ w (96 + 6 * r + 1) ≤ w 554 + t then 0 else w (96 + 6 * r)) ∧ (n_go t w).2 554 = w 554 + t ∧ w 565 ≤ (n_go t w).2 565 ∧ (∀ g, g < 12 → w (8 * g) = 3 → w (8 * g + 2) + w (8 * g + 3) = w 554 + t → (n_go t w).2 (8 * g) = 0 ∧ 1 ≤ (n_go t w).1) ∧ (∀ g, g < 12 → w (8 * g) = 3 → 1 ≤ t → w 554 + t < w (8 * g + 2) + w (8 * g + 3) → (w 554 + t = w (8 * g + 2) + w (8 * g + 3) / 2 ∨ w 554 + t = w (8 * g + 2) + 7 * w (8 * g + 3) / 8) → w 565 < (n_go t w).2 565) := by
  intro t
  induction t with
  | zero =>
    intro B w F h9
    rw [n_go]
    refine ⟨fun r hr => ?_, rfl, Nat.le_refl _, fun g hg h3 h4 => ?_, fun g hg h3 h4 => by omega⟩
    · show w (96 + 6 * r) = _
      rw [if_neg (fun q => by have := F.2.1.2 r hr q.1; omega)]
    · have := F.2.1.1 g hg h3
      omega
  | succ t ih =>
    intro B w F h9
    rw [n_go]
    obtain ⟨t1, t2, t3, t4, t5, t6, t7, t8⟩ := n_tick_o (w := w) F.1.2.2.1.2
    obtain ⟨i1, i2, i3, i4, i5⟩ := ih (B + 6001) (n_tick w).2 (Wf_tick F (by omega)).1 (by omega)
    generalize n_tick w = T at *
    rw [t3] at i1 i2 i4 i5
    refine ⟨fun r hr => ?_, by show (n_go t T.2).2 554 = _; rw [i2]; omega, by show w 565 ≤ (n_go t T.2).2 565; omega, fun g hg h3 h4 => ?_, fun g hg h3 h4 h5 h6 => ?_⟩
    · show (n_go t T.2).2 (96 + 6 * r) = _
      rw [i1 r hr, t2 r hr, t1 r hr]
      by_cases c : w (96 + 6 * r) ≠ 0 ∧ w (96 + 6 * r + 1) ≤ w 554 + 1
      · rw [if_pos c, if_neg (by omega), if_pos ⟨c.1, by omega⟩]
      · rw [if_neg c]
        by_cases c2 : w (96 + 6 * r) ≠ 0 ∧ w (96 + 6 * r + 1) ≤ w 554 + (t + 1)
        · rw [if_pos c2, if_pos ⟨c2.1, by omega⟩]
        · rw [if_neg c2, if_neg (fun q => c2 ⟨q.1, by omega⟩)]
    · show (n_go t T.2).2 (8 * g) = 0 ∧ 1 ≤ T.1 + (n_go t T.2).1
      by_cases c : t = 0
      · subst c
        rw [n_go0, n_go0a]
        refine ⟨?_, ?_⟩
        · have q := t5 g hg
          rw [if_pos ⟨h3, by omega⟩] at q
          exact q
        · exact Nat.le_trans (t7 g hg h3 (by omega)) (Nat.le_add_right _ _)
      · have q := i4 g hg (by rw [t5 g hg, if_neg (by omega)]; exact h3) (by rw [t4 g 2 hg (by omega) (by omega), t4 g 3 hg (by omega) (by omega)]; omega)
        exact ⟨q.1, by omega⟩
    · show w 565 < (n_go t T.2).2 565
      by_cases c : t = 0
      · subst c
        rw [n_go0]
        exact t8 g hg h3 h5 h6
      · have q := i5 g hg (by rw [t5 g hg, if_neg (by omega)]; exact h3) (by omega) (by rw [t4 g 2 hg (by omega) (by omega), t4 g 3 hg (by omega) (by omega)]; omega) (by rw [t4 g 2 hg (by omega) (by omega), t4 g 3 hg (by omega) (by omega)]; omega)
        omega
set_option maxRecDepth 16384 in
theorem n_cn_mono (h : ∀ r, r < 16 → w (96 + 6 * r) = 0 → w' (96 + 6 * r) = 0) : ∀ d, d ≤ 16 → n_cn w 0 d ≤ n_cn w' 0 d ∧ (∀ r, 16 - d ≤ r → r < 16 → w (96 + 6 * r) ≠ 0 → w' (96 + 6 * r) = 0 → n_cn w 0 d < n_cn w' 0 d) := by
  intro d
  induction d with
  | zero => intro _; exact ⟨Nat.le_refl _, fun r h1 h2 => by omega⟩
  | succ d ih =>
    intro hd
    obtain ⟨i1, i2⟩ := ih (by omega)
    rw [n_cn, n_cn]
    have h0 := h (15 - d) (by omega)
    refine ⟨?_, fun r h1 h2 h3 h4 => ?_⟩
    · by_cases c : w (96 + 6 * (15 - d)) = 0
      · rw [if_pos c, if_pos (h0 c)]; omega
      · rw [if_neg c]; omega
    · by_cases e : r = 15 - d
      · rw [← e, if_neg h3, if_pos h4]; omega
      · have q := i2 r (by omega) h2 h3 h4
        by_cases c : w (96 + 6 * (15 - d)) = 0
        · rw [if_pos c, if_pos (h0 c)]; omega
        · rw [if_neg c]; omega
set_option maxRecDepth 16384 in
theorem n_cn_same {s : Nat} (h : ∀ r, r < 16 → w' (96 + 6 * r) = w (96 + 6 * r)) : ∀ d, d ≤ 16 → n_cn w' s d = n_cn w s d := by
  intro d
  induction d with
  | zero => intro _; rfl
  | succ d ih => intro hd; rw [n_cn, n_cn, h _ (by omega), ih (by omega)]
set_option maxRecDepth 16384 in
theorem free_more (F : Wf B w) (h9 : B + 700000 ≤ 1000000000) (c : n_nx w 16 0 ≠ 0) (hc : n_nx w 16 0 ≤ 100) : n_cn w 0 16 < n_cn (n_go (n_nx w 16 0) w).2 0 16 := by
  obtain ⟨g1, -⟩ := n_go_o (n_nx w 16 0) B w F (by omega)
  obtain ⟨a1, -, -⟩ := (n_nx_is (w := w) 16 0 (by omega)).2 c
  rcases a1 with a1 | ⟨r, -, r2, r3⟩
  · omega
  · have hw : w (96 + 6 * r) ≠ 0 := fun e => by unfold n_left at r3; rw [if_pos e] at r3; omega
    have hp := n_left_pos F r2 hw
    refine (n_cn_mono (fun r hr h0 => ?_) 16 (by omega)).2 r (by omega) r2 hw ?_
    · rw [g1 r hr, if_neg (fun q => q.1 h0)]; exact h0
    · rw [g1 r r2, if_pos ⟨hw, by omega⟩]
set_option maxRecDepth 16384 in
theorem free_same (F : Wf B w) (h9 : B + 700000 ≤ 1000000000) {a : Nat} (c : a + 1 = n_nx w 16 0) (hc : n_nx w 16 0 ≤ 100) : n_cn (n_go a w).2 0 16 = n_cn w 0 16 := by
  obtain ⟨g1, -⟩ := n_go_o a B w F (by omega)
  obtain ⟨-, -, a3⟩ := (n_nx_is (w := w) 16 0 (by omega)).2 (by omega)
  refine n_cn_same (fun r hr => ?_) 16 (by omega)
  rw [g1 r hr]
  by_cases e : w (96 + 6 * r) = 0
  · rw [if_neg (fun q => q.1 e)]
  · have hp := n_left_pos F hr e
    have q := a3 r (by omega) hr
    rw [if_neg (by omega)]
set_option maxRecDepth 16384 in
theorem n_act_559 (Z : Wz w) {k g r m a t : Nat} (hk : k ≤ 6) (hg : g < 12) (hr : r < 16) : n_act w k g r m a t 559 = w 559 := by
  have hm := Z.2.2.1.2
  have P : ∀ (u : Nat → Nat) (k g r a t : Nat), k < 7 → u 552 ≤ 60 → n_post u k g r a t 559 = u 559 := fun u k g r a t h1 h2 => n_post_hi h1 h2 (by omega) (by omega) (by omega)
  unfold n_act
  split
  · unfold n_innSeeks
    split
    · rfl
    · have hc := n_choice_le Z hg
      rw [P _ _ _ _ _ _ (by omega) (by rw [nu_ne1 (by omega), n_settle_at (by omega) (by omega)]; exact hm), nu_ne1 (by omega), n_settle_at (by omega) (by omega)]
  split
  · split
    · rw [n_want_at hg (by rw [nu_ne1 (by omega), nu_ne1 (by omega)]; exact hm) (by omega) (by omega) (by omega), nu_ne1 (by omega), nu_ne1 (by omega)]
    · rfl
  split
  · unfold n_innWants
    split
    · exact P _ _ _ _ _ _ (by omega) hm
    · rw [nu_ne1 (by omega), P _ _ _ _ _ _ (by omega) (by rw [nu_ne1 (by omega), nu_ne1 (by omega), n_settle_at (by omega) (by omega)]; exact hm), nu_ne1 (by omega), nu_ne1 (by omega), n_settle_at (by omega) (by omega)]
  split
  · split
    · unfold n_guestYes
      split
      · rw [nu_ne1 (by omega)]
      split
      · rw [nu_ne1 (by omega)]; exact P _ _ _ _ _ _ (by omega) hm
      · rw [nu_ne1 (by omega), nu_ne1 (by omega), nu_ne1 (by omega), nu_ne1 (by omega)]
    · rfl
  split
  · split
    · rw [nu_ne1 (by omega)]
    · rfl
  · unfold n_innEnds
    split
    · rfl
    · rw [nu_ne1 (by omega), n_settle_at (by omega) (by omega)]
set_option maxRecDepth 16384 in
theorem n_all_559 : ∀ (d B : Nat) (w : Nat → Nat), Wf B w → B + d * 1001 + 1001 ≤ 1000000000 → (n_all d w).2 559 = w 559 + (n_all d w).1 := by
  intro d
  induction d with
  | zero => intro B w F h9; rfl
  | succ d ih =>
    intro B w F h9
    rw [n_all]
    by_cases h0 : w 552 = 0
    · rw [if_pos h0]; rfl
    · rw [if_neg h0]
      have z := F.1.2.2.1.1 0 (by omega)
      have i1 := ih (B + 1001) _ (Wf_handle F (by omega : 0 < w 552) (by omega)) (by omega)
      have e : n_handle w 0 559 = w 559 + 1 := by
        have q := n_act_559 (m := w (192 + 6 * 0 + 3)) (a := w (192 + 6 * 0 + 4)) (t := w (192 + 6 * 0 + 5)) (Wz_gone F.1 (by omega : 0 < w 552)) z.1 z.2.1 z.2.2.1
        rw [nu_eq1 rfl] at q
        exact q
      show (n_all d (n_handle w 0)).2 559 = w 559 + ((n_all d (n_handle w 0)).1 + 1)
      rw [i1, e]; omega
/- the room to offer is told by the rooms and the room leased last -/
set_option maxRecDepth 16384 in
theorem n_choice_congr (Z : Wz w) (hg : g < 12) (h1 : ∀ r, r < 16 → w' (96 + 6 * r) = w (96 + 6 * r) ∧ w' (96 + 6 * r + 2) = w (96 + 6 * r + 2) ∧ w' (96 + 6 * r + 4) = w (96 + 6 * r + 4)) (h7 : w' (8 * g + 7) = w (8 * g + 7)) : n_choice w' g = n_choice w g := by
  have z := Z.1 g hg
  have C : ∀ r, r < 16 → (n_can w' r g ↔ n_can w r g) := fun r hr => by unfold n_can; rw [(h1 r hr).1, (h1 r hr).2.2]
  have H : ∀ k low own, k ≤ 16 → n_chl w' g k low own = n_chl w g k low own := by
    intro k
    induction k with
    | zero =>
      intro low own _
      rw [n_chl, n_chl, h7]
      by_cases c0 : own ≠ 0
      · rw [if_pos c0, if_pos c0]
      · rw [if_neg c0, if_neg c0]
        by_cases c7 : w (8 * g + 7) = 0
        · rw [if_neg (fun q => q.1 c7), if_neg (fun q => q.1 c7)]
        · have c := C (w (8 * g + 7) - 1) (by omega)
          by_cases cc : n_can w (w (8 * g + 7) - 1) g
          · rw [if_pos ⟨c7, c.mpr cc⟩, if_pos ⟨c7, cc⟩]
          · rw [if_neg (fun q => cc (c.mp q.2)), if_neg (fun q => cc q.2)]
    | succ k ih =>
      intro low own hk
      rw [n_chl, n_chl]
      have c := C k (by omega)
      obtain ⟨k0, k2, k4⟩ := h1 k (by omega)
      by_cases c1 : w (96 + 6 * k) = 1 ∧ w (96 + 6 * k + 2) = g
      · rw [if_pos (show w' (96 + 6 * k) = 1 ∧ w' (96 + 6 * k + 2) = g by rw [k0, k2]; exact c1), if_pos c1]
      · rw [if_neg (show ¬ (w' (96 + 6 * k) = 1 ∧ w' (96 + 6 * k + 2) = g) by rw [k0, k2]; exact c1), if_neg c1, ih _ _ (by omega)]
        by_cases cc : n_can w k g
        · have cc' := c.mpr cc
          by_cases c5 : w (96 + 6 * k + 4) = g + 1
          · rw [if_pos cc', if_pos cc, if_pos (show n_can w' k g ∧ w' (96 + 6 * k + 4) = g + 1 from ⟨cc', k4.trans c5⟩), if_pos ⟨cc, c5⟩]
          · rw [if_pos cc', if_pos cc, if_neg (show ¬ (n_can w' k g ∧ w' (96 + 6 * k + 4) = g + 1) from fun q => c5 (k4.symm.trans q.2)), if_neg (fun q => c5 q.2)]
        · have cc' : ¬ n_can w' k g := fun q => cc (c.mp q)
          rw [if_neg cc', if_neg cc, if_neg (fun q => cc' q.1), if_neg (fun q => cc q.1)]
  exact H 16 0 0 (by omega)
/- a guest seeks, and the message is delivered at once -/
set_option maxRecDepth 16384 in
theorem seek_now (F : Wf B w) (h0 : w 552 = 0) (hg : g < 12) (c : w (8 * g) = 0) (h9 : B + 700000 ≤ 1000000000) : n_seek w g 552 = 1 ∧ n_seek w g 192 = 0 ∧ n_seek w g (8 * g) = 1 ∧ n_handle (n_seek w g) 0 (8 * g) = 1 ∧ (n_choice w g = 0 → n_handle (n_seek w g) 0 552 = 0) ∧ (∀ d, n_choice w g = d + 1 → n_handle (n_seek w g) 0 (96 + 6 * d) = 1 ∧ n_handle (n_seek w g) 0 (96 + 6 * d + 2) = g ∧ n_left (n_handle (n_seek w g) 0) d = w 556 ∧ n_handle (n_seek w g) 0 552 = 1 ∧ n_handle (n_seek w g) 0 192 = 1 ∧ n_handle (n_seek w g) 0 (192 + 2) = d ∧ n_handle (n_seek w g) 0 556 = w 556) := by
  have Z := F.1
  have hm0 : nu w (8 * g) 1 552 = 0 := by rw [nu_ne1 (by omega)]; exact h0
  have s2 : n_seek w g 552 = 1 := by
    unfold n_seek
    rw [n_post_many (by omega) (by omega), hm0, if_neg (by omega)]
  have N := n_post_new (w := nu w (8 * g) 1) (k := 0) (g := g) (r := 0) (a := 0) (t := 0) (by omega) (by omega)
  rw [hm0] at N
  have s0 : n_seek w g 192 = 0 := N.1
  have s1 : n_seek w g (192 + 1) = g := N.2.1
  have sg : n_seek w g (8 * g) = 1 := by
    unfold n_seek
    rw [n_post_lo (by omega) (by omega) (by omega), nu_eq1 rfl]
  have slo : ∀ i, i < 192 → i ≠ 8 * g → n_seek w g i = w i := fun i h1 h2 => by
    unfold n_seek
    rw [n_post_lo (by omega) (by omega) h1, nu_ne1 h2]
  have shi : ∀ i, 554 ≤ i → i ≤ 557 → n_seek w g i = w i := fun i h1 h2 => by
    unfold n_seek
    rw [n_post_hi (by omega) (by omega) (by omega) (by omega) (by omega), nu_ne1 (by omega)]
  have F1 := Wf_seek F hg (by omega)
  have ZG := Wz_gone F1.1 (p := 0) (by omega)
  obtain ⟨G, hG⟩ : ∃ G, G = nu (n_take (n_seek w g) 0) 559 (n_seek w g 559 + 1) := ⟨_, rfl⟩
  rw [← hG] at ZG
  have GG : ∀ i, i < 192 ∨ (552 < i ∧ i ≠ 559) → G i = n_seek w g i := fun i h => by rw [hG]; exact n_gone (by omega) h
  have G2 : G 552 = 0 := by rw [hG, gone_552 (by omega), s2]
  have hH : n_handle (n_seek w g) 0 = n_innSeeks G g := by
    unfold n_handle
    rw [← hG]
    show n_act G (n_seek w g 192) (n_seek w g (192 + 1)) _ _ _ _ = _
    rw [s0, s1]
    unfold n_act
    rw [if_pos rfl]
  have hc : n_choice G g = n_choice w g := n_choice_congr Z hg (fun r hr => ⟨by rw [GG _ (by omega), slo _ (by omega) (by omega)], by rw [GG _ (by omega), slo _ (by omega) (by omega)], by rw [GG _ (by omega), slo _ (by omega) (by omega)]⟩) (by rw [GG _ (by omega), slo _ (by omega) (by omega)])
  have hle := n_choice_le Z hg
  refine ⟨s2, s0, sg, ?_, fun h => ?_, fun d hd => ?_⟩
  · rw [hH]
    unfold n_innSeeks
    rw [hc]
    split
    · rw [GG _ (by omega)]; exact sg
    · rw [n_post_lo (by omega) (by rw [nu_ne1 (by omega), n_settle_at (by omega) (by omega), G2]; omega) (by omega), nu_ne1 (by omega), n_settle_at (by omega) (by omega), GG _ (by omega)]; exact sg
  · rw [hH]
    unfold n_innSeeks
    rw [hc, if_pos h]; exact G2
  · rw [hH]
    unfold n_innSeeks
    rw [hc, hd, if_neg (by omega), Nat.add_sub_cancel]
    obtain ⟨V, hV⟩ : ∃ V, V = nu (n_settle G d 1 (G 554 + G 556)) (96 + 6 * d + 2) g := ⟨_, rfl⟩
    rw [← hV]
    have V2 : V 552 = 0 := by rw [hV, nu_ne1 (by omega), n_settle_at (by omega) (by omega)]; exact G2
    have v0 : V (96 + 6 * d) = 1 := by rw [hV]; unfold n_settle; (try simp (disch := omega) only [nn_add, nn_mul, nn_clamp, nn_in1, nn_inj, nn_lt, nn_le, nn_neg, nu_eq1, nu_ne1, nn_nb0, nn_true, nn_false, if_true, if_false, x_let_n, x_let_m, xb_some, eq_self, ite_true, ite_false, not_false_eq_true, not_true_eq_false, nneg1, nl0, nl1, nl2, nl3, nl4, nl5, nl6, nl7, nl8, nl9, nl10, nl11, nl12, nl15, nl16, nl60, nl96, nl192, nl552, nl553, nl554, nl555, nl556, nl557, nl558, nl559, nl560, nl561, nl562, nl563, nl570])
    have v1 : V (96 + 6 * d + 1) = G 554 + G 556 := by rw [hV]; unfold n_settle; (try simp (disch := omega) only [nn_add, nn_mul, nn_clamp, nn_in1, nn_inj, nn_lt, nn_le, nn_neg, nu_eq1, nu_ne1, nn_nb0, nn_true, nn_false, if_true, if_false, x_let_n, x_let_m, xb_some, eq_self, ite_true, ite_false, not_false_eq_true, not_true_eq_false, nneg1, nl0, nl1, nl2, nl3, nl4, nl5, nl6, nl7, nl8, nl9, nl10, nl11, nl12, nl15, nl16, nl60, nl96, nl192, nl552, nl553, nl554, nl555, nl556, nl557, nl558, nl559, nl560, nl561, nl562, nl563, nl570])
    have v2 : V (96 + 6 * d + 2) = g := by rw [hV, nu_eq1 rfl]
    have v4 : V 554 = w 554 := by rw [hV, nu_ne1 (by omega), n_settle_at (by omega) (by omega), GG _ (by omega), shi _ (by omega) (by omega)]
    have v6 : V 556 = w 556 := by rw [hV, nu_ne1 (by omega), n_settle_at (by omega) (by omega), GG _ (by omega), shi _ (by omega) (by omega)]
    have g4 : G 554 = w 554 := by rw [GG _ (by omega), shi _ (by omega) (by omega)]
    have g6 : G 556 = w 556 := by rw [GG _ (by omega), shi _ (by omega) (by omega)]
    have M := n_post_new (w := V) (k := 1) (g := g) (r := d) (a := 0) (t := 0) (by omega) (by omega)
    rw [V2] at M
    have lo : ∀ i, i < 192 → n_post V 1 g d 0 0 i = V i := fun i hi => n_post_lo (by omega) (by omega) hi
    have hi : ∀ i, 554 ≤ i → i ≤ 557 → n_post V 1 g d 0 0 i = V i := fun i h1 h2 => n_post_hi (by omega) (by omega) (by omega) (by omega) (by omega)
    refine ⟨by rw [lo _ (by omega)]; exact v0, by rw [lo _ (by omega)]; exact v2, ?_, by rw [n_post_many (by omega) (by omega), V2, if_neg (by omega)], M.1, M.2.2.1, by rw [hi _ (by omega) (by omega)]; exact v6⟩
    unfold n_left
    rw [lo _ (by omega), lo _ (by omega), hi _ (by omega) (by omega), v0, v1, v4, if_neg (by omega), g4, g6]
    omega
end TK
