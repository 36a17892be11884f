/-! ===== snapshots, undo ===== -/
set_option maxRecDepth 16384 in
theorem a_slot (a : Int32) : (eX6_requireRange a (0 : Int32) (1 : Int32) = some 1 ∧ fX7_isSlot a = some 0) ∨ ∃ s, s < 2 ∧ a = nn s ∧ eX6_requireRange (nn s) (0 : Int32) (1 : Int32) = none ∧ fX6_requireRange (nn s) (0 : Int32) (1 : Int32) = some () := by
  have q1 : (nn 0).toInt64 = (0 : Int64) := by decide
  have q2 : (nn 1).toInt64 = (1 : Int64) := by decide
  rcases a_range (p := 0) (m := 1) (by omega) (by omega) a with ⟨h1, h2⟩ | ⟨g, g1, g2, rfl, h1, h2, h3⟩
  · rw [q1, q2] at h2
    refine Or.inl ⟨h1, ?_⟩
    rw [fX7_isSlot, h2]; rfl
  · exact Or.inr ⟨g, by omega, rfl, h1, h2⟩
set_option maxRecDepth 16384 in
theorem s_18 {A : Nat} {σ : x_S} (Y : Sy A σ) (hA : A + 1300000 ≤ 700000000) (a a2 : Int32) : Ok (gL_18 σ a a2) (Sy (A + 1300000)) := by
  obtain ⟨w, n, S, t, K, l, x, Y, M, N⟩ := Y
  obtain ⟨B, F, ⟨hn, hS⟩, hK, hx, b1, b2, b3⟩ := id N
  have hm := F.1.2.2.1.2
  have NA := Yn_up N (show A ≤ A + 1300000 by omega) hA
  have NS := Yn_save N
  show Ok (gN (fL_keep σ a) (fun m => fX7_keep m a)) _
  unfold fL_keep
  rcases a_slot a with ⟨h1, h2⟩ | ⟨s, hs, rfl, h1, h2⟩
  · refine gN_exc (1, σ) 1 ?_ rfl Y NA ?_
    · rw [eX6_keep, h1]; rfl
    · show Ok (fX7_keep (σ 11) a) _
      rw [fX7_keep, h2, xb_some, if_pos rfl, fX7_keep_j13, rf1, xb_some, if_neg nn_one]
      exact Ok_some ⟨rfz (σ 11) (1 : Int32), Ym_rf M _⟩
  · have hN : Yn (A + 1300000) w n S (nu t s 1) (fun i => if i = s then w else K i) l x := by
      refine ⟨B, F, ⟨hn, hS⟩, fun s' hs' => ?_, hx, b1, by omega, hA⟩
      show nu t s 1 s' ≤ 1 ∧ (nu t s 1 s' = 1 → Wf B (if s' = s then w else K s'))
      by_cases c : s' = s
      · rw [nu_eq1 c, if_pos c]; exact ⟨by omega, fun _ => F⟩
      · rw [nu_ne1 c, if_neg c]; exact hK s' hs'
    obtain ⟨Y1, ⟨Y2, g, Y3, Y4, Y5⟩, Y6, Y7, Y8⟩ := Y
    have y6 := Y6 s hs
    refine gN_val (σ := σ) (t := nu t s 1) (K := fun i => if i = s then w else K i) ?_ ?_ hN ?_
    · rw [eX6_keep, h1, xo_none, h2, xb_some]
    · rw [fX6_keep, h2, xb_some, if_pos (nn_in (by omega) hs), nn_clamp (by omega), y6.1, x_let_n, nn_clamp (by omega), if_pos (by omega), if_pos (by omega)]
      refine Ok_let (fun τ1 e1 => Ok_let (fun τ2 e2 => Ok_some ⟨⟨?_, ⟨?_, g, fun i hi => ?_, Y4, fun i hi => ?_⟩, fun s' hs' => ?_, ?_, fun i hi => ?_⟩, ?_⟩))
      · rw [e2, x_sh_ne _ _ (by omega), e1, x_sh_ne _ _ (by omega)]; exact Y1
      · rw [e2, x_sh_eq, x_hu_ne (by omega), e1, x_sh_ne _ _ (by omega)]; exact Y2
      · rw [e2, x_sh_eq, x_hu_ne (by omega), e1, x_sh_ne _ _ (by omega)]; exact Y3 i hi
      · have q := Y3 i (by omega)
        rw [e2, x_sh_ne _ _ (by omega), e1, x_sh_ne _ _ (by omega)]; exact Y5 i hi
      · obtain ⟨a1, a2, a3⟩ := Y6 s' hs'
        show τ2 10 35 s' = _ ∧ τ2 10 36 s' = nn (nu t s 1 s') ∧ (nu t s 1 s' = 1 → Ru (τ2 (8 + s')) (if s' = s then w else K s'))
        have e10 : τ1 10 = σ 10 := by rw [e1, x_sh_ne _ _ (by omega)]
        refine ⟨by rw [e2, x_sh_eq, x_hu_ne (by omega), e10]; exact a1, ?_, fun e => ?_⟩
        · rw [e2, x_sh_eq]
          by_cases c : s' = s
          · rw [x_hu_eq rfl c, nu_eq1 c]; exact vpb1
          · rw [x_hu_ni c, nu_ne1 c, e10]; exact a2
        · rw [e2, x_sh_ne _ _ (by omega), e1]
          by_cases c : s' = s
          · rw [c, x_sh_eq, if_pos rfl]; exact Y1
          · rw [nu_ne1 c] at e
            rw [x_sh_ne _ _ (by omega), if_neg c]; exact a3 e
      · rw [e2, x_sh_eq, x_hu_ne (by omega), e1, x_sh_ne _ _ (by omega)]; exact Y7
      · rw [e2, x_sh_eq, x_hu_ne (by omega), e1, x_sh_ne _ _ (by omega)]; exact Y8 i hi
      · rw [e2, x_sh_ne _ _ (by omega), e1, x_sh_ne _ _ (by omega)]
    · show Ok (fX7_keep (σ 11) (nn s)) _
      rw [fX7_keep, v_isSlot hs, xb_some, if_neg nn_one, fX7_keep_j13, rf0, xb_some, if_pos rfl]
      refine Ok_mono (m_b22 hs 570 0 4000 _ (by omega) (by omega)) (fun r hr => ?_)
      obtain ⟨r1, r2, r3⟩ := hr
      have M0 := Ym_rf M (0 : Int32)
      obtain ⟨M1, ⟨M2, M3⟩, M4, M5, M6⟩ := M0
      refine ⟨by rw [r1 40 0 (by omega) (by omega)]; exact rfz (σ 11) (0 : Int32), fun i hi => by rw [r1 41 i (by omega) (by omega)]; exact M1 i hi, ⟨by rw [r1 40 1 (by omega) (by omega)]; exact M2, fun i k hi hk => by rw [r1 43 _ (by omega) (by omega)]; exact M3 i k hi hk⟩, fun s' hs' => ?_, by rw [r1 40 2 (by omega) (by omega)]; exact M5, fun i hi => by rw [r1 46 i (by omega) (by omega)]; exact M6 i hi⟩
      show r 45 s' = nn (nu t s 1 s') ∧ (nu t s 1 s' = 1 → ∀ k, k < 570 → r 44 (570 * s' + k) = nn ((if s' = s then w else K s') k))
      by_cases c : s' = s
      · rw [nu_eq1 c, c, if_pos rfl]
        refine ⟨r2, fun _ k hk => ?_⟩
        rw [r3, if_pos (by omega), show 570 * s + k - 570 * s = k by omega]
        exact M1 k hk
      · rw [nu_ne1 c, if_neg c]
        refine ⟨by rw [r1 45 s' (by omega) (Or.inr c)]; exact (M4 s' hs').1, fun e k hk => ?_⟩
        rw [r3, if_neg (by omega)]
        exact (M4 s' hs').2 e k hk
set_option maxRecDepth 16384 in
theorem s_19 {A : Nat} {σ : x_S} (Y : Sy A σ) (hA : A + 1300000 ≤ 700000000) (a a2 : Int32) : Ok (gL_19 σ a a2) (Sy (A + 1300000)) := by
  obtain ⟨w, n, S, t, K, l, x, Y, M, N⟩ := Y
  obtain ⟨B, F, ⟨hn, hS⟩, hK, hx, b1, b2, b3⟩ := id N
  have hm := F.1.2.2.1.2
  have NA := Yn_up N (show A ≤ A + 1300000 by omega) hA
  have NS := Yn_save N
  show Ok (gN (fL_goBack σ a) (fun m => fX7_goBack m a)) _
  unfold fL_goBack
  rcases a_slot a with ⟨h1, h2⟩ | ⟨s, hs, rfl, h1, h2⟩
  · refine gN_exc (1, σ) 1 ?_ rfl Y NA ?_
    · rw [eX6_goBack, h1]; rfl
    · show Ok (fX7_goBack (σ 11) a) _
      rw [fX7_goBack, h2, xb_some, if_pos rfl, fX7_goBack_j26, rf1, xb_some, if_neg nn_one]
      exact Ok_some ⟨rfz (σ 11) (1 : Int32), Ym_rf M _⟩
  · have e36 : σ 10 36 (Int32.toNatClampNeg (nn s)) = nn (t s) := by rw [nn_clamp (by omega)]; exact (Y.2.2.1 s hs).2.1
    have e45 : σ 11 45 (Int32.toNatClampNeg (nn s)) = nn (t s) := by rw [nn_clamp (by omega)]; exact (M.2.2.1 s hs).1
    have ht := (hK s hs).1
    by_cases c : t s = 1
    · rw [c] at e36 e45
      have hN : Yn (A + 1300000) (K s) (n_sn n) (n_sS w n S) t K l x := by
        obtain ⟨B', F', a', hK', rest⟩ := NS
        exact Yn_up ⟨B', (hK' s hs).2 c, a', hK', rest⟩ (by omega) hA
      refine gN_val (σ := σ) (w := K s) ?_ ?_ hN ?_
      · rw [eX6_goBack, h1, xo_none, h2, xb_some, if_pos (nn_in (by omega) hs), e36, show eX6_require (nn 1) = none from er1, xo_none, show fX6_require (nn 1) = some () from fr1, xb_some]
      · rw [fX6_goBack, h2, xb_some, if_pos (nn_in (by omega) hs), e36, show fX6_require (nn 1) = some () from fr1, xb_some]
        refine Ok_bind (c_push Y hn) (fun τ hτ => ?_)
        obtain ⟨Y1, t11, t12⟩ := hτ
        have y6 := Y1.2.2.1 s hs
        rw [nn_clamp (by omega), y6.1, x_let_n, nn_clamp (by omega), if_pos (by omega), if_pos (by omega)]
        refine Ok_let (fun τ2 e2 => Ok_some ⟨?_, ?_⟩)
        · rw [e2]; exact Yc_now Y1 (n_sn_le hn) (y6.2.2 c)
        · rw [e2, x_sh_ne _ _ (by omega), t11]
      · show Ok (fX7_goBack (σ 11) (nn s)) _
        rw [fX7_goBack, v_isSlot hs, xb_some, if_neg nn_one, if_pos (nn_in (by omega) hs), e45, if_neg (show ¬ nn 1 = (0 : Int32) from nn_one), fX7_goBack_j26, rf0, xb_some, if_pos rfl]
        refine Ok_bind (m_save (Ym_rf M (0 : Int32)) hn) (fun m1 h1 => ?_)
        obtain ⟨M1, r1, r42⟩ := h1
        have r1 : m1 40 0 = nn 0 := r1.trans (rfz (σ 11) (0 : Int32))
        refine Ok_mono (m_b39 hs 570 0 4000 m1 (by omega) (by omega)) (fun r hr => ?_)
        obtain ⟨q1, q2⟩ := hr
        refine ⟨by rw [q1 40 0 (by omega), r1], ?_⟩
        obtain ⟨M1, ⟨M2, M3⟩, M4, M5, M6⟩ := M1
        refine ⟨fun i hi => ?_, ⟨by rw [q1 40 1 (by omega)]; exact M2, fun i k hi hk => by rw [q1 43 _ (by omega)]; exact M3 i k hi hk⟩, fun s' hs' => ⟨by rw [q1 45 s' (by omega)]; exact (M4 s' hs').1, fun e k hk => by rw [q1 44 _ (by omega)]; exact (M4 s' hs').2 e k hk⟩, by rw [q1 40 2 (by omega)]; exact M5, fun i hi => by rw [q1 46 i (by omega)]; exact M6 i hi⟩
        rw [q2, if_pos (by omega)]
        exact (M4 s hs).2 c i hi
    · have c0 : t s = 0 := by omega
      rw [c0] at e36 e45
      refine gN_exc (2, σ) 2 ?_ rfl Y NA ?_
      · rw [eX6_goBack, h1, xo_none, h2, xb_some, if_pos (nn_in (by omega) hs), e36, show eX6_require (nn 0) = some 2 from er0, xo_some]
      · show Ok (fX7_goBack (σ 11) (nn s)) _
        rw [fX7_goBack, v_isSlot hs, xb_some, if_neg nn_one, if_pos (nn_in (by omega) hs), e45, if_pos (show nn 0 = (0 : Int32) from rfl), fX7_goBack_j26, rf2, xb_some, if_neg nn_one]
        exact Ok_some ⟨rfz (σ 11) (2 : Int32), Ym_rf M _⟩
set_option maxRecDepth 16384 in
theorem s_20 {A : Nat} {σ : x_S} (Y : Sy A σ) (hA : A + 1300000 ≤ 700000000) (a a2 : Int32) : Ok (gL_20 σ a a2) (Sy (A + 1300000)) := by
  obtain ⟨w, n, S, t, K, l, x, Y, M, N⟩ := Y
  obtain ⟨B, F, ⟨hn, hS⟩, hK, hx, b1, b2, b3⟩ := id N
  have hm := F.1.2.2.1.2
  have NA := Yn_up N (show A ≤ A + 1300000 by omega) hA
  have NS := Yn_save N
  show Ok (gN (fL_undo σ) (fun m => fX7_undo m)) _
  unfold fL_undo
  have e33 : σ 10 33 0 = nn n := Y.2.1.1
  have e40 : σ 11 40 1 = nn n := M.2.1.1
  by_cases c : n = 0
  · rw [c] at e33 e40
    refine gN_exc (2, σ) 1 ?_ rfl Y NA ?_
    · rw [eX6_undo, e33, if_pos (show nn 0 ≤ (0 : Int32) by decide), er0, xo_some]
    · show Ok (fX7_undo (σ 11)) _
      rw [fX7_undo, e40, if_pos (show nn 0 = (0 : Int32) from rfl), fX7_undo_j13, rf1, xb_some, if_neg nn_one]
      exact Ok_some ⟨rfz (σ 11) (1 : Int32), Ym_rf M _⟩
  · have c2 : ¬ nn n ≤ (0 : Int32) := fun h => by have := (nn_le (b := 0) (by omega) (by omega)).mp h; omega
    have e1 : nn n - (1 : Int32) = nn (n - 1) := nn_sub (b := 1) (by omega)
    have hN : Yn (A + 1300000) (S (n - 1)) (n - 1) S t K l x := ⟨B, hS (n - 1) (by omega), ⟨by omega, fun i hi => hS i (by omega)⟩, hK, hx, b1, by omega, hA⟩
    refine gN_val (σ := σ) (w := S (n - 1)) (n := n - 1) ?_ ?_ hN ?_
    · rw [eX6_undo, e33, if_neg c2, er1, xo_none, fr1, xb_some]
    · obtain ⟨Y1, ⟨Y2, g, Y3, Y4, Y5⟩, Y6, Y7, Y8⟩ := Y
      have q := Y3 (n - 1) (by omega)
      have q2 := Y5 (n - 1) (by omega)
      have ea : ∀ u : x_H, x_hu u 33 0 (nn (n - 1)) 33 0 = nn (n - 1) := fun u => x_hu_eq rfl rfl
      rw [fX6_undo, e33, if_neg c2, fr1, xb_some, fX5_popTo, e33, if_neg c2, if_neg (fun h => by have := (nn_lt (a := 6) (by omega) (by omega)).mp h; omega), e1]
      refine Ok_bind (T := fun τ => Yc τ (S (n - 1)) (n - 1) S t K l x ∧ τ 11 = σ 11) (Ok_let (fun τ3 e3 => ?_)) (fun τ hτ => Ok_some hτ)
      have e4 : τ3 10 33 0 = nn (n - 1) := by rw [e3, x_sh_eq, ea]
      have e5 : τ3 10 34 (n - 1) = nn (g (n - 1)) := by rw [e3, x_sh_eq, x_hu_ne (by omega)]; exact q.1
      rw [e4, if_pos (nn_in (by omega) (by omega)), nn_clamp (by omega), e5, x_let_n, nn_clamp (by omega), if_pos (by omega), if_pos (by omega)]
      refine Ok_let (fun τ e => Ok_some ⟨⟨?_, ⟨?_, g, fun i hi => ?_, Y4, fun i hi => ?_⟩, fun s' hs' => ?_, ?_, fun i hi => ?_⟩, ?_⟩)
      · rw [e, x_sh_eq, e3, x_sh_ne _ _ (by omega)]; exact q2
      · rw [e, x_sh_ne _ _ (by omega), e4]
      · rw [e, x_sh_ne _ _ (by omega), e3, x_sh_eq, x_hu_ne (by omega)]; exact Y3 i hi
      · have q3 := Y3 i (by omega)
        rw [e, x_sh_ne _ _ (by omega), e3, x_sh_ne _ _ (by omega)]; exact Y5 i (by omega)
      · obtain ⟨a1, a2, a3⟩ := Y6 s' hs'
        refine ⟨?_, ?_, fun h => ?_⟩
        · rw [e, x_sh_ne _ _ (by omega), e3, x_sh_eq, x_hu_ne (by omega)]; exact a1
        · rw [e, x_sh_ne _ _ (by omega), e3, x_sh_eq, x_hu_ne (by omega)]; exact a2
        · rw [e, x_sh_ne _ _ (by omega), e3, x_sh_ne _ _ (by omega)]; exact a3 h
      · rw [e, x_sh_ne _ _ (by omega), e3, x_sh_eq, x_hu_ne (by omega)]; exact Y7
      · rw [e, x_sh_ne _ _ (by omega), e3, x_sh_eq, x_hu_ne (by omega)]; exact Y8 i hi
      · rw [e, x_sh_ne _ _ (by omega), e3, x_sh_ne _ _ (by omega)]
    · show Ok (fX7_undo (σ 11)) _
      have e41 : ((0 : Int32), x_hu (σ 11) 40 0 (0 : Int32)).2 40 1 = nn n := (x_hu_ni (by omega) : x_hu (σ 11) 40 0 (0 : Int32) 40 1 = _).trans e40
      rw [fX7_undo, e40, if_neg (fun h => c ((nn_0 (by omega)).mp h)), fX7_undo_j13, rf0, xb_some, if_pos rfl]
      rw [e41, e1]
      refine Ok_let (fun u5 e5 => ?_)
      have e6 : u5 40 1 = nn (n - 1) := by rw [e5, x_hu_eq rfl rfl]
      refine Ok_mono (m_b32 (n := n - 1) (by omega) 570 0 4000 u5 (by omega) (by omega) e6) (fun r hr => ?_)
      obtain ⟨q1, q2⟩ := hr
      have U : ∀ k i, (k ≠ 40 ∨ i = 2) → u5 k i = σ 11 k i := fun k i h => by
        have e5 : u5 = x_hu (x_hu (σ 11) 40 0 (0 : Int32)) 40 1 (nn (n - 1)) := e5
        rw [e5]
        rcases h with h | h
        · rw [x_hu_ne h, x_hu_ne h]
        · rw [x_hu_ni (by omega), x_hu_ni (by omega)]
      obtain ⟨M1, ⟨M2, M3⟩, M4, M5, M6⟩ := M
      refine ⟨?_, fun i hi => ?_, ⟨by rw [q1 40 1 (by omega), e6], fun i k hi hk => by rw [q1 43 _ (by omega), U _ _ (by omega)]; exact M3 i k (by omega) hk⟩, fun s' hs' => ⟨by rw [q1 45 s' (by omega), U _ _ (by omega)]; exact (M4 s' hs').1, fun e k hk => by rw [q1 44 _ (by omega), U _ _ (by omega)]; exact (M4 s' hs').2 e k hk⟩, by rw [q1 40 2 (by omega), U _ _ (by omega)]; exact M5, fun i hi => by rw [q1 46 i (by omega), U _ _ (by omega)]; exact M6 i hi⟩
      · rw [q1 40 0 (by omega), e5, x_hu_ni (by omega)]; exact rfz (σ 11) (0 : Int32)
      · rw [q2, if_pos (by omega), U _ _ (by omega)]
        exact M3 (n - 1) i (by omega) hi
set_option maxRecDepth 16384 in
theorem s_21 {A : Nat} {σ : x_S} (Y : Sy A σ) (hA : A + 1300000 ≤ 700000000) (a a2 : Int32) : Ok (gL_21 σ a a2) (Sy (A + 1300000)) := by
  obtain ⟨w, n, S, t, K, l, x, Y, M, N⟩ := Y
  obtain ⟨B, F, ⟨hn, hS⟩, hK, hx, b1, b2, b3⟩ := id N
  have hm := F.1.2.2.1.2
  have NA := Yn_up N (show A ≤ A + 1300000 by omega) hA
  have NS := Yn_save N
  show Ok (gD σ (fX6_savedStates σ) (fun m => fX7_savedStates m)) _
  refine gD_val (nn n) ?_ Y NA ?_
  · rw [fX6_savedStates, Y.2.1.1]
  · show Ok (fX7_savedStates (σ 11)) _
    rw [fX7_savedStates]
    refine Ok_let (fun u0 e0 => Ok_some ⟨?_, ?_⟩)
    · show u0 40 1 = _
      rw [e0, x_hu_ni (by omega)]; exact M.2.1.1
    · show Ym u0 _ _ _ _ _ _ _
      rw [e0]; exact Ym_rf M _
