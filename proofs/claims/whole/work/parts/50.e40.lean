/-! ===== the case of a course ===== -/
set_option maxRecDepth 16384 in
theorem s_17 {A : Nat} {σ : x_S} (Y : Sy A σ) (hA : A + 1300000 ≤ 700000000) (a a2 : Int32) : Ok (gL_17 σ a a2) (Sy (A + 1300000)) := by
  obtain ⟨w, n, S, t, K, l, x, Y, M, N⟩ := Y
  obtain ⟨B, F, ⟨hn, hS⟩, hK, hx, b1, b2, b3⟩ := id N
  have hm := F.1.2.2.1.2
  have NA := Yn_up N (show A ≤ A + 1300000 by omega) hA
  have NS := Yn_save N
  show Ok (gI (fL_play σ) (fun m => fX7_play m)) _
  unfold fL_play
  have X : CX (σ 10) l x := ⟨Y.2.2.2.1, Y.2.2.2.2, hx.1, hx.2⟩
  have H : B + 600200 * l + 700000 ≤ 1000000000 := Nat.le_trans (Nat.add_le_add_right b2 700000) (by omega)
  have TX0 : TX (σ 11) l x := ⟨M.2.2.2.1, M.2.2.2.2, hx.1, hx.2⟩
  obtain ⟨N1, N2, N3, N4, N5⟩ := n_tx_is (x := x) (l := l) 61 B 0 l 1 w (by omega) (by omega) (by omega) F H
  obtain ⟨r1, er1', hr1, hr2⟩ := e_tells X w 1 ⟨N1, N2⟩
  obtain ⟨rm, erm, hrm⟩ := t_readAll TX0 M.1 F H
  have Mr := Ym_t M hrm
  obtain ⟨-, m3, m4, m5, m42⟩ := hrm
  have PL := fun (σ0 τ : x_S) (u0 : x_H) (X0 : CX u0 l x) => o_all (σ0 := σ0) X0 61 400 B 0 l w τ (by omega) (by omega) (by omega) F H
  generalize n_tx x l 61 0 1 w = T at *
  obtain ⟨g, a', o, w'⟩ := T
  have N1 : g ≤ 1 := N1
  have N3 : o ≤ 1 := N3
  have N4 : Wf (B + 600200 * l) w' := N4
  have hr1 : r1.1 = nn g := hr1
  have m4 : rm 40 4 = nn g := m4
  have m5 : rm 40 5 = nn o := m5
  have m42 : Rv (rm 42) w' := m42
  obtain ⟨τ3, e3⟩ : ∃ τ3, τ3 = x_sh σ 10 r1.2 := ⟨_, rfl⟩
  have Y3 : Yc τ3 w n S t K l x := by rw [e3]; exact Yc_t Y hn hr2
  have t311 : τ3 11 = σ 11 := by rw [e3, x_sh_ne _ _ (by omega)]
  have M0 := Ym_rf Mr
  by_cases hg : g = 0
  · rw [hg] at hr1 m4
    have hM : Ok (fX7_play (τ3 11)) (fun r => r.2 40 0 = nn 1 ∧ Ym r.2 w n S t K l x) := by
      rw [t311, fX7_play, erm, xb_some, m4, if_pos (show nn 0 = (0 : Int32) from rfl), fX7_play_j28, rf1, xb_some, if_neg nn_one]
      exact Ok_some ⟨rfz rm (1 : Int32), M0 _⟩
    refine gI_exc (σ := τ3) (1, τ3) 1 ?_ rfl (by omega) (by omega) Y3 NA hM
    rw [eX6_play, er1', xb_some]
    show (if r1.1 = 0 then _ else _) = _
    rw [hr1, if_pos (show nn 0 = (0 : Int32) from rfl), e3]
  · have hg1 : g = 1 := by omega
    rw [hg1] at hr1 m4
    obtain ⟨τ6, e6⟩ : ∃ τ6, τ6 = x_sh τ3 1 (τ3 0) := ⟨_, rfl⟩
    have t6 : ∀ i, i ≠ 1 → τ6 i = τ3 i := fun i hi => by rw [e6, x_sh_ne _ _ hi]
    have Y6 : Yc τ6 w n S t K l x := Yc_1 Y3 hn t6
    have t610 : Tg (τ6 10) (σ 10) := by rw [t6 10 (by omega), e3, x_sh_eq]; exact hr2
    have hP : Ok (fX0_playOn τ6) (Po τ6 (σ 10) o w') := by
      rw [fX0_playOn]
      refine Ok_bind (r_begin t610) (fun r hr => Ok_let (fun τ7 e7 => ?_))
      refine PL τ6 τ7 (σ 10) X (fun j j1 j2 => by rw [e7, x_sh_ne _ _ j2]) (by rw [e7, x_sh_eq]; exact hr) ?_ hg1
      rw [e7, x_sh_ne _ _ (by omega), e6, x_sh_eq]
      exact Y3.1
    obtain ⟨r8, er8, p1, p2, p3, p4⟩ := hP
    have Y8 : Yc r8.2 w n S t K l x := Yc_of Y6 hn (p1 0 (by omega) (by omega)) (fun j j1 j2 => p1 j (by omega) (by omega)) (fun k i hk => by rw [p2 k i hk, t610 k i hk])
    have t811 : r8.2 11 = σ 11 := by rw [p1 11 (by omega) (by omega), t6 11 (by omega), t311]
    have hx_in : ∀ (f : x_S → Option (Nat × x_S)), (Option.bind (fX0_tellsCourse (σ 10)) fun r1 => x_let (x_sh σ 10 r1.2) fun τ3 => (if r1.1 = 0 then some (1, τ3) else x_let (x_sh τ3 1 (τ3 0)) f)) = f τ6 := by
      intro f
      rw [er1', xb_some]
      show (if r1.1 = 0 then _ else _) = _
      rw [hr1, if_neg (show ¬ nn 1 = (0 : Int32) from nn_one), e6, e3]
      rfl
    by_cases ho : o = 0
    · have q4 := p4 ho
      rw [ho] at m5
      have hM : Ok (fX7_play (r8.2 11)) (fun r => r.2 40 0 = nn 2 ∧ Ym r.2 w n S t K l x) := by
        rw [t811, fX7_play, erm, xb_some, m4, if_neg (show ¬ nn 1 = (0 : Int32) from nn_one), m5, if_pos (show nn 0 = (0 : Int32) from rfl), fX7_play_j28, rf2, xb_some, if_neg nn_one]
        exact Ok_some ⟨rfz rm (2 : Int32), M0 _⟩
      refine gI_exc (σ := r8.2) (2, r8.2) 2 ?_ rfl (by omega) (by omega) Y8 NA hM
      rw [eX6_play, hx_in, er8, xb_some, q4, show eX6_require (nn 0) = some 2 from er0, xo_some]
    · have ho1 : o = 1 := by omega
      obtain ⟨q3, q5⟩ := p3 ho1
      rw [ho1] at m5
      have hN : Yn (A + 1300000) w' (n_sn n) (n_sS w n S) t K 0 x := by
        obtain ⟨B', F', ⟨a1, a2⟩, a3, a4, a5, a6, a7⟩ := Yn_save (show Yn (B + 600200 * l) w n S t K 0 x from ⟨B + 600200 * l, Wf_up F (Nat.le_add_right _ _) (bud7 H), ⟨hn, fun i hi => Wf_up (hS i hi) (Nat.le_add_right _ _) (bud7 H)⟩, fun s hs => ⟨(hK s hs).1, fun e => Wf_up ((hK s hs).2 e) (Nat.le_add_right _ _) (bud7 H)⟩, ⟨Nat.zero_le _, fun i hi => absurd hi (Nat.not_lt_zero i)⟩, Nat.le_trans b1 (Nat.le_add_right _ _), Nat.le_refl _, Nat.le_trans b2 b3⟩)
        exact ⟨B + 600200 * l, N4, ⟨a1, fun i hi => Wf_up (a2 i hi) a6 (bud7 H)⟩, fun s hs => ⟨(a3 s hs).1, fun e => Wf_up ((a3 s hs).2 e) a6 (bud7 H)⟩, a4, Nat.le_trans b1 (Nat.le_add_right _ _), Nat.le_trans b2 (Nat.le_add_right _ _), hA⟩
      refine gI_val (σ := σ) (w := w') (l := 0) (x := x) (nn (n_hs 12 w')) ?_ ?_ hN ?_
      · rw [eX6_play, hx_in, er8, xb_some, q3, show eX6_require (nn 1) = none from er1, xo_none, show fX6_require (nn 1) = some () from fr1, xb_some]
      · have hx_f : ∀ (f : x_S → Option (Int32 × x_S)), (Option.bind (fX0_tellsCourse (σ 10)) fun r1 => x_let (x_sh σ 10 r1.2) fun τ3 => (if r1.1 = 0 then none else x_let (x_sh τ3 1 (τ3 0)) f)) = f τ6 := by
          intro f
          rw [er1', xb_some]
          show (if r1.1 = 0 then _ else _) = _
          rw [hr1, if_neg (show ¬ nn 1 = (0 : Int32) from nn_one), e6, e3]
          rfl
        rw [fX6_play, hx_f, er8, xb_some, q3, show fX6_require (nn 1) = some () from fr1, xb_some]
        refine Ok_bind (c_push Y8 hn) (fun τ hτ => ?_)
        obtain ⟨Y1, t11, t12, t1⟩ := hτ
        refine Ok_let (fun τ14 e14 => Ok_let (fun τ16 e16 => ?_))
        have R1 : Ru (τ 1) w' := by rw [t1]; exact q5
        have Y14 : Yc τ14 w' (n_sn n) (n_sS w n S) t K l x := by rw [e14]; exact Yc_now Y1 (n_sn_le hn) R1
        have Y16 : Yc τ16 w' (n_sn n) (n_sS w n S) t K 0 x := by
          rw [e16]
          exact Yc_x Y14 (n_sn_le hn) (fun k i k1 k2 => x_hu_ne k1) (x_hu_eq rfl rfl) (fun i hi => absurd hi (Nat.not_lt_zero i))
        rw [u_inRooms Y16.1.1 N4.1.1, xb_some]
        refine Ok_some ⟨rfl, Y16, ?_⟩
        show τ16 11 = _
        rw [e16, x_sh_ne _ _ (by omega), e14, x_sh_ne _ _ (by omega), t11, t811]
      · show Ok (fX7_play (σ 11)) _
        rw [fX7_play, erm, xb_some, m4, if_neg (show ¬ nn 1 = (0 : Int32) from nn_one), m5, if_neg (show ¬ nn 1 = (0 : Int32) from nn_one), fX7_play_j28, rf0, xb_some, if_pos rfl]
        refine Ok_bind (m_save (M0 (0 : Int32)) hn) (fun m1 h1 => ?_)
        obtain ⟨M1, s1, s42⟩ := h1
        have s1 : m1 40 0 = nn 0 := s1.trans (rfz rm (0 : Int32))
        have R42 : Rv (m1 42) w' := by
          rw [s42]
          show Rv (x_hu rm 40 0 (0 : Int32) 42) w'
          rw [show x_hu rm 40 0 (0 : Int32) 42 = rm 42 from x_hs_ne _ _ (by omega)]
          exact m42
        refine Ok_let (fun u10 e10 => Ok_let (fun u12 e12 => ?_))
        have M10 : Ym u10 w' (n_sn n) (n_sS w n S) t K l x := by rw [e10]; exact Ym_now M1 R42
        have M12 : Ym u12 w' (n_sn n) (n_sS w n S) t K 0 x := Ym_x M10 (fun k i k1 k2 k3 => by rw [e12, x_hu_ne (by omega)]) (by rw [e12, x_hu_ni (by omega)]) (by rw [e12]; exact x_hu_eq rfl rfl) (fun i hi => absurd hi (Nat.not_lt_zero i))
        rw [v_inRooms M12.1 N4.1.1, xb_some]
        refine Ok_some ⟨rfl, ?_, M12⟩
        show u12 40 0 = _
        rw [e12, x_hu_ni (by omega), e10, x_hs_ne _ _ (by omega), s1]
