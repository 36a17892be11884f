/-! ===== calls of guests ===== -/
set_option maxRecDepth 16384 in
theorem n_sn_le {n : Nat} (h : n ≤ 6) : n_sn n ≤ 6 := by unfold n_sn; split <;> omega
set_option maxRecDepth 16384 in
theorem Wf_seek {B : Nat} {w : Nat → Nat} (F : Wf B w) {g : Nat} (hg : g < 12) (h9 : B + 1000 ≤ 1000000000) : Wf (B + 1000) (n_seek w g) := by
  obtain ⟨Z, X, hB⟩ := F
  have hm := Z.2.2.1.2
  have hB2 := Wb_up hB (B' := B + 999) (by omega) (by omega)
  have Z1 : Wz (nu w (8 * g) 1) := Wz_g (j := 0) (x := 1) Z hg (by omega) (by omega)
  have X1 : Wx (nu w (8 * g) 1) := Wx_g (j := 0) (x := 1) X hg (by omega) (by omega)
  have m2 : nu w (8 * g) 1 552 ≤ 60 := by rw [nu_ne1 (by omega)]; exact hm
  unfold n_seek
  exact ⟨Wz_post Z1 (by omega) hg (by omega) (by omega) (by omega), Wx_post X1 (by omega) m2, Wb_post (Wb_nu hB2 (by omega)) (by omega) m2 (by omega) (by omega) (by omega) (by omega) (by omega)⟩
set_option maxRecDepth 16384 in
theorem Wf_leave {B : Nat} {w : Nat → Nat} (F : Wf B w) {g : Nat} (hg : g < 12) (h9 : B + 1000 ≤ 1000000000) : Wf (B + 1000) (n_leave w g) := by
  obtain ⟨Z, X, hB⟩ := F
  have hm := Z.2.2.1.2
  have zg := Z.1 g hg
  have hB2 := Wb_up hB (B' := B + 999) (by omega) (by omega)
  unfold n_leave
  exact ⟨Wz_g (j := 0) (x := 0) (Wz_post Z (by omega) hg zg.2.1 (by omega) (by omega)) hg (by omega) (by omega), Wx_g (j := 0) (x := 0) (Wx_post X (by omega) hm) hg (by omega) (by omega), Wb_nu (Wb_post hB2 (by omega) hm (by omega) (by omega) (by omega) (by omega) (by omega)) (by omega)⟩
set_option maxRecDepth 16384 in
theorem Wf_rest {B : Nat} {w : Nat → Nat} (F : Wf B w) {g : Nat} (hg : g < 12) (h9 : B + 1000 ≤ 1000000000) : Wf (B + 1000) (nu w (8 * g) 0) := by
  obtain ⟨Z, X, hB⟩ := F
  exact ⟨Wz_g (j := 0) (x := 0) Z hg (by omega) (by omega), Wx_g (j := 0) (x := 0) X hg (by omega) (by omega), Wb_nu (Wb_up hB (by omega) h9) (by omega)⟩
set_option maxRecDepth 16384 in
theorem Wz_take {w : Nat → Nat} (Z : Wz w) {p : Nat} (hp : p < w 552) : Wz (n_take w p) := by
  have h := Wz_c (k := 559) (x := n_take w p 559) (Wz_gone Z hp) (by omega)
  have e : nu (nu (n_take w p) 559 (w 559 + 1)) 559 (n_take w p 559) = n_take w p := by
    funext i
    unfold nu
    by_cases c : i = 559
    · rw [if_pos c, c]
    · rw [if_neg c, if_neg c]
  rw [e] at h
  exact h
set_option maxRecDepth 16384 in
theorem Wf_lose {B : Nat} {w : Nat → Nat} (F : Wf B w) {p : Nat} (hp : p < w 552) (h9 : B + 1000 ≤ 1000000000) : Wf (B + 1000) (n_lose w p) := by
  obtain ⟨Z, X, hB⟩ := F
  have hm := Z.2.2.1.2
  have T : ∀ i, i < 192 ∨ 552 < i → n_take w p i = w i := fun i h => by rw [n_take_at w p i hm, if_neg (by omega), if_neg (by omega)]
  have b1 := hB.2 558
  have b2 := hB.2 552
  refine ⟨Wz_c (Wz_take Z hp) (by omega), Wx_lo X (fun i hi => ?_) ?_, ⟨h9, fun i => ?_⟩⟩
  · unfold n_lose; rw [nu_ne1 (by omega), T i (by omega)]
  · unfold n_lose; rw [nu_ne1 (by omega), T _ (by omega)]
  · have b3 := hB.2 i
    have b4 := hB.2 (i + 6)
    unfold n_lose nu
    split
    · omega
    · rw [n_take_at w p i hm]
      split
      · omega
      · split <;> omega
set_option maxRecDepth 16384 in
theorem g_doing {u : x_H} {w : Nat → Nat} (R : Ru u w) {g : Nat} (hg : g < 12) : u 5 (Int32.toNatClampNeg (nn g)) = nn (w (8 * g)) := by rw [nn_clamp (by omega)]; exact (R.1 g hg).1
set_option maxRecDepth 16384 in
theorem nn_is {n : Nat} (k : Nat) (h : n < 1000) (hk : k < 1000) : (nn n = nn k) ↔ n = k := nn_inj (by omega) (by omega)
set_option maxRecDepth 16384 in
theorem nn_0 {n : Nat} (h : n < 2147483648) : (nn n = (0 : Int32)) ↔ n = 0 := nn_inj (b := 0) h (by omega)
set_option maxRecDepth 16384 in
theorem s_0 {A : Nat} {σ : x_S} (Y : Sy A σ) (hA : A + 1300000 ≤ 700000000) (a a2 : Int32) : Ok (gL_0 σ a a2) (Sy (A + 1300000)) := by
  obtain ⟨w, n, S, t, K, l, x, Y, M, N⟩ := Y
  obtain ⟨B, F, ⟨hn, hS⟩, hK, hx, b1, b2, b3⟩ := id N
  have hm := F.1.2.2.1.2
  have NA := Yn_up N (show A ≤ A + 1300000 by omega) hA
  have NS := Yn_save N
  show Ok (gI (fL_seek σ a) (fun m => fX7_seek m a)) _
  unfold fL_seek
  rcases a_guest a with ⟨h1, h2⟩ | ⟨g, hg, rfl⟩
  · refine gI_exc (0, σ) 1 ?_ rfl (by omega) (by omega) Y NA ?_
    · rw [eX6_seek, eg_no h1]; rfl
    · show Ok (fX7_seek (σ 11) a) _
      rw [fX7_seek, h2, xb_some, if_pos rfl, rf1, xb_some, if_neg nn_one]
      exact Ok_some ⟨rfz (σ 11) (1 : Int32), Ym_rf M _⟩
  · have z := (F.1.1 g hg).1
    have e5 := g_doing Y.1 hg
    by_cases c : w (8 * g) = 0
    · rw [c] at e5
      refine gI_val (σ := σ) (w := n_seek w g) (nn (n_seek w g 552)) ?_ ?_ (Yn_now 1000 NS (fun B F h => Wf_seek F hg (by omega)) (by omega) hA) ?_
      · rw [eX6_seek, eg_ok hg, xo_none, fg_ok hg, xb_some, if_pos (nn_in (by omega) hg), e5, if_pos (show nn 0 = (0 : Int32) from rfl), er1, xo_none, fr1, xb_some]
      · rw [fX6_seek, fg_ok hg, xb_some, if_pos (nn_in (by omega) hg), e5, if_pos (show nn 0 = (0 : Int32) from rfl), fX6_seek_j24, fr1, xb_some]
        refine Ok_bind (c_push Y hn) (fun τ hτ => ?_)
        obtain ⟨Y1, t11, t12⟩ := hτ
        refine Ok_bind (u_beginSeeking Y1.1 F.2.2 hm (by omega) hg c) (fun u hu => Ok_let (fun τ2 e2 => Ok_some ⟨?_, ?_, ?_⟩))
        · show τ2 0 3 0 = _
          rw [e2, x_sh_eq]; exact hu.2.2.2.2.1.1
        · show Yc τ2 _ _ _ _ _ _ _
          rw [e2]; exact Yc_now Y1 (n_sn_le hn) hu
        · show τ2 11 = _
          rw [e2, x_sh_ne _ _ (by omega), t11]
      · show Ok (fX7_seek (σ 11) (nn g)) _
        rw [fX7_seek, v_isGuest hg, xb_some, if_neg nn_one, v_doing M.1 hg, xb_some, c, if_pos (show nn 0 = (0 : Int32) from rfl), rf0, xb_some, if_pos rfl]
        refine Ok_bind (m_save (Ym_rf M (0 : Int32)) hn) (fun m1 h1 => ?_)
        obtain ⟨M1, r1, r42⟩ := h1
        have r1 : m1 40 0 = nn 0 := r1.trans (rfz (σ 11) (0 : Int32))
        refine Ok_bind (v_goSeek M1.1 hg hm) (fun q hq => Ok_let (fun u1 e1 => Ok_some ⟨hq.1, ?_, ?_⟩))
        · show u1 40 0 = _
          rw [e1, x_hs_ne _ _ (by omega), r1]
        · show Ym u1 _ _ _ _ _ _ _
          rw [e1]; exact Ym_now M1 hq.2
    · have d : ¬ nn (w (8 * g)) = 0 := fun e => c ((nn_is 0 (by omega) (by omega)).mp e)
      refine gI_exc (2, σ) 2 ?_ rfl (by omega) (by omega) Y NA ?_
      · rw [eX6_seek, eg_ok hg, xo_none, fg_ok hg, xb_some, if_pos (nn_in (by omega) hg), e5, if_neg d, er0, xo_some]
      · show Ok (fX7_seek (σ 11) (nn g)) _
        rw [fX7_seek, v_isGuest hg, xb_some, if_neg nn_one, v_doing M.1 hg, xb_some, if_neg d, rf2, xb_some, if_neg nn_one]
        exact Ok_some ⟨rfz (σ 11) (2 : Int32), Ym_rf M _⟩
set_option maxRecDepth 16384 in
theorem s_1 {A : Nat} {σ : x_S} (Y : Sy A σ) (hA : A + 1300000 ≤ 700000000) (a a2 : Int32) : Ok (gL_1 σ a a2) (Sy (A + 1300000)) := by
  obtain ⟨w, n, S, t, K, l, x, Y, M, N⟩ := Y
  obtain ⟨B, F, ⟨hn, hS⟩, hK, hx, b1, b2, b3⟩ := id N
  have hm := F.1.2.2.1.2
  have NA := Yn_up N (show A ≤ A + 1300000 by omega) hA
  have NS := Yn_save N
  show Ok (gI (fL_leave σ a) (fun m => fX7_leave m a)) _
  unfold fL_leave
  rcases a_guest a with ⟨h1, h2⟩ | ⟨g, hg, rfl⟩
  · refine gI_exc (0, σ) 1 ?_ rfl (by omega) (by omega) Y NA ?_
    · rw [eX6_leave, eg_no h1]; rfl
    · show Ok (fX7_leave (σ 11) a) _
      rw [fX7_leave, mh_no h2, xb_some, if_neg nn_one]
      exact Ok_some ⟨rfz (σ 11) (1 : Int32), Ym_rf M _⟩
  · have z := F.1.1 g hg
    have e5 := g_doing Y.1 hg
    by_cases c : w (8 * g) = 3
    · rw [c] at e5
      refine gI_val (σ := σ) (w := n_leave w g) (nn (w (8 * g + 1))) ?_ ?_ (Yn_now 1000 NS (fun B F h => Wf_leave F hg (by omega)) (by omega) hA) ?_
      · rw [eX6_leave, eg_ok hg, xo_none, fg_ok hg, xb_some, if_pos (nn_in (by omega) hg), e5, if_pos (show nn 3 = (3 : Int32) from rfl), er1, xo_none, fr1, xb_some]
      · rw [fX6_leave, fg_ok hg, xb_some, if_pos (nn_in (by omega) hg), e5, if_pos (show nn 3 = (3 : Int32) from rfl), fX6_leave_j25, fr1, xb_some]
        refine Ok_bind (c_push Y hn) (fun τ hτ => ?_)
        obtain ⟨Y1, t11, t12⟩ := hτ
        rw [if_pos (nn_in (by omega) hg)]
        refine Ok_let (fun x10 e10 => Ok_bind (u_leaveRoom Y1.1 F.2.2 hm hg (by omega)) (fun u hu => Ok_let (fun τ2 e2 => Ok_some ⟨?_, ?_, ?_⟩)))
        · show x10 = _
          rw [e10, nn_clamp (by omega), (Y1.1.1 g hg).2.1, if_pos (by omega), mm_succ]
        · show Yc τ2 _ _ _ _ _ _ _
          rw [e2]; exact Yc_now Y1 (n_sn_le hn) hu
        · show τ2 11 = _
          rw [e2, x_sh_ne _ _ (by omega), t11]
      · show Ok (fX7_leave (σ 11) (nn g)) _
        rw [fX7_leave, mh_ok M.1 F.1 hg, if_pos c, xb_some, if_pos rfl]
        refine Ok_bind (m_save (Ym_rf M (0 : Int32)) hn) (fun m1 h1 => ?_)
        obtain ⟨M1, r1, r42⟩ := h1
        have r1 : m1 40 0 = nn 0 := r1.trans (rfz (σ 11) (0 : Int32))
        refine Ok_bind (v_goLeave M1.1 hg hm) (fun q hq => Ok_let (fun u1 e1 => Ok_some ⟨hq.1, ?_, ?_⟩))
        · show u1 40 0 = _
          rw [e1, x_hs_ne _ _ (by omega), r1]
        · show Ym u1 _ _ _ _ _ _ _
          rw [e1]; exact Ym_now M1 hq.2
    · have d : ¬ nn (w (8 * g)) = (3 : Int32) := fun e => c ((nn_is 3 (by omega) (by omega)).mp e)
      refine gI_exc (2, σ) 2 ?_ rfl (by omega) (by omega) Y NA ?_
      · rw [eX6_leave, eg_ok hg, xo_none, fg_ok hg, xb_some, if_pos (nn_in (by omega) hg), e5, if_neg d, er0, xo_some]
      · show Ok (fX7_leave (σ 11) (nn g)) _
        rw [fX7_leave, mh_ok M.1 F.1 hg, if_neg c, xb_some, if_neg nn_one]
        exact Ok_some ⟨rfz (σ 11) (2 : Int32), Ym_rf M _⟩
set_option maxRecDepth 16384 in
theorem s_2 {A : Nat} {σ : x_S} (Y : Sy A σ) (hA : A + 1300000 ≤ 700000000) (a a2 : Int32) : Ok (gL_2 σ a a2) (Sy (A + 1300000)) := by
  obtain ⟨w, n, S, t, K, l, x, Y, M, N⟩ := Y
  obtain ⟨B, F, ⟨hn, hS⟩, hK, hx, b1, b2, b3⟩ := id N
  have hm := F.1.2.2.1.2
  have NA := Yn_up N (show A ≤ A + 1300000 by omega) hA
  have NS := Yn_save N
  show Ok (gI (fL_giveUp σ a) (fun m => fX7_giveUp m a)) _
  unfold fL_giveUp
  rcases a_guest a with ⟨h1, h2⟩ | ⟨g, hg, rfl⟩
  · refine gI_exc (0, σ) 1 ?_ rfl (by omega) (by omega) Y NA ?_
    · rw [eX6_giveUp, eg_no h1]; rfl
    · show Ok (fX7_giveUp (σ 11) a) _
      rw [fX7_giveUp, h2, xb_some, if_pos rfl, fX7_giveUp_j38, rf1, xb_some, if_neg nn_one]
      exact Ok_some ⟨rfz (σ 11) (1 : Int32), Ym_rf M _⟩
  · have z := F.1.1 g hg
    have e5 := g_doing Y.1 hg
    have hin : fX7_in (nn (w (8 * g))).toInt64 (1 : Int64) (2 : Int64) = some (if 1 ≤ w (8 * g) ∧ w (8 * g) ≤ 2 then 1 else 0) := v_in_nn (l := 1) (m := 2) (by omega) rfl rfl
    by_cases c : 1 ≤ w (8 * g) ∧ w (8 * g) ≤ 2
    · rw [if_pos c] at hin
      have K1 : ∀ {β : Type} (f : Int32 → Option β) (h : Option β), (if nn (w (8 * g)) = (1 : Int32) then f (nn (w (8 * g))) else (if nn (w (8 * g)) = (2 : Int32) then f (nn (w (8 * g))) else h)) = f (nn (w (8 * g))) := by
        intro β f h
        by_cases c1 : w (8 * g) = 1
        · rw [if_pos (show nn (w (8 * g)) = (1 : Int32) by rw [c1]; rfl)]
        · rw [if_neg (show ¬ nn (w (8 * g)) = (1 : Int32) from fun e => c1 ((nn_is 1 (by omega) (by omega)).mp e)), if_pos (show nn (w (8 * g)) = (2 : Int32) by rw [show w (8 * g) = 2 by omega]; rfl)]
      refine gI_val (σ := σ) (w := nu w (8 * g) 0) (nn (w (8 * g))) ?_ ?_ (Yn_now 1000 NS (fun B F h => Wf_rest F hg (by omega)) (by omega) hA) ?_
      · rw [eX6_giveUp, eg_ok hg, xo_none, fg_ok hg, xb_some, if_pos (nn_in (by omega) hg), e5, x_let_n]
        exact K1 (fun _ => none) _
      · rw [fX6_giveUp, fg_ok hg, xb_some, if_pos (nn_in (by omega) hg), e5, x_let_n]
        refine Eq.mpr (congrArg (fun o => Ok o _) (K1 (fun y => fX6_giveUp_j27 σ (nn g) y) _)) ?_
        show Ok (fX6_giveUp_j27 σ (nn g) (nn (w (8 * g)))) _
        rw [fX6_giveUp_j27, fX6_giveUp_j32, fr1, xb_some]
        refine Ok_bind (c_push Y hn) (fun τ hτ => ?_)
        obtain ⟨Y1, t11, t12⟩ := hτ
        refine Ok_bind (u_rest Y1.1 hm hg) (fun u hu => Ok_let (fun τ2 e2 => Ok_some ⟨rfl, ?_, ?_⟩))
        · show Yc τ2 _ _ _ _ _ _ _
          rw [e2]; exact Yc_now Y1 (n_sn_le hn) hu
        · show τ2 11 = _
          rw [e2, x_sh_ne _ _ (by omega), t11]
      · show Ok (fX7_giveUp (σ 11) (nn g)) _
        rw [fX7_giveUp, v_isGuest hg, xb_some, if_neg nn_one, v_doing M.1 hg, xb_some, hin, xb_some, if_neg nn_one, fX7_giveUp_j38, rf0, xb_some, if_pos rfl]
        refine Ok_bind (m_save (Ym_rf M (0 : Int32)) hn) (fun m1 h1 => ?_)
        obtain ⟨M1, r1, r42⟩ := h1
        have r1 : m1 40 0 = nn 0 := r1.trans (rfz (σ 11) (0 : Int32))
        rw [v_doing M1.1 hg, xb_some]
        (try simp (disch := omega) only [nn_add, nn_mul, nn_clamp, nn_in1, nn_inj, nn_lt, nn_le, nn_neg, nu_eq1, nu_ne1, nn_nb0, nn_true, nn_false, if_true, if_false, x_let_n, x_let_m, xb_some, eq_self, ite_true, ite_false, not_false_eq_true, not_true_eq_false, nneg1, nl0, nl1, nl2, nl3, nl4, nl5, nl6, nl7, nl8, nl9, nl10, nl11, nl12, nl15, nl16, nl60, nl96, nl192, nl552, nl553, nl554, nl555, nl556, nl557, nl558, nl559, nl560, nl561, nl562, nl563, nl570])
        refine Ok_let (fun u1 e1 => Ok_some ⟨rfl, ?_, ?_⟩)
        · show u1 40 0 = _
          rw [e1, x_hu_ne (by omega), r1]
        · show Ym u1 _ _ _ _ _ _ _
          rw [e1]; exact Ym_now M1 (Rv_up M1.1 _ _)
    · rw [if_neg c] at hin
      have d1 : ¬ nn (w (8 * g)) = (1 : Int32) := fun e => by have := (nn_is 1 (by omega) (by omega)).mp e; omega
      have d2 : ¬ nn (w (8 * g)) = (2 : Int32) := fun e => by have := (nn_is 2 (by omega) (by omega)).mp e; omega
      refine gI_exc (2, σ) 2 ?_ rfl (by omega) (by omega) Y NA ?_
      · rw [eX6_giveUp, eg_ok hg, xo_none, fg_ok hg, xb_some, if_pos (nn_in (by omega) hg), e5, x_let_n, if_neg d1, if_neg d2, er0, xo_some]
      · show Ok (fX7_giveUp (σ 11) (nn g)) _
        rw [fX7_giveUp, v_isGuest hg, xb_some, if_neg nn_one, v_doing M.1 hg, xb_some, hin, xb_some, if_pos rfl, fX7_giveUp_j38, rf2, xb_some, if_neg nn_one]
        exact Ok_some ⟨rfz (σ 11) (2 : Int32), Ym_rf M _⟩
set_option maxRecDepth 16384 in
theorem s_3 {A : Nat} {σ : x_S} (Y : Sy A σ) (hA : A + 1300000 ≤ 700000000) (a a2 : Int32) : Ok (gL_3 σ a a2) (Sy (A + 1300000)) := by
  obtain ⟨w, n, S, t, K, l, x, Y, M, N⟩ := Y
  obtain ⟨B, F, ⟨hn, hS⟩, hK, hx, b1, b2, b3⟩ := id N
  have hm := F.1.2.2.1.2
  have NA := Yn_up N (show A ≤ A + 1300000 by omega) hA
  have NS := Yn_save N
  show Ok (gI (fL_renew σ a) (fun m => fX7_renew m a)) _
  unfold fL_renew
  rcases a_guest a with ⟨h1, h2⟩ | ⟨g, hg, rfl⟩
  · refine gI_exc (0, σ) 1 ?_ rfl (by omega) (by omega) Y NA ?_
    · rw [eX6_renew, eg_no h1]; rfl
    · show Ok (fX7_renew (σ 11) a) _
      rw [fX7_renew, mh_no h2, xb_some, if_neg nn_one]
      exact Ok_some ⟨rfz (σ 11) (1 : Int32), Ym_rf M _⟩
  · have z := F.1.1 g hg
    have e5 := g_doing Y.1 hg
    by_cases c : w (8 * g) = 3
    · rw [c] at e5
      refine gI_val (σ := σ) (w := n_want w g) (nn (n_want w g 552)) ?_ ?_ (Yn_now 500 NS (fun B F h => Wf_want F hg (by omega)) (by omega) hA) ?_
      · rw [eX6_renew, eg_ok hg, xo_none, fg_ok hg, xb_some, if_pos (nn_in (by omega) hg), e5, if_pos (show nn 3 = (3 : Int32) from rfl), er1, xo_none, fr1, xb_some]
      · rw [fX6_renew, fg_ok hg, xb_some, if_pos (nn_in (by omega) hg), e5, if_pos (show nn 3 = (3 : Int32) from rfl), fX6_renew_j25, fr1, xb_some]
        refine Ok_bind (c_push Y hn) (fun τ hτ => ?_)
        obtain ⟨Y1, t11, t12⟩ := hτ
        refine Ok_bind (u_sendWant Y1.1 F.2.2 hm hg (by omega)) (fun u hu => Ok_let (fun τ2 e2 => Ok_some ⟨?_, ?_, ?_⟩))
        · show τ2 0 3 0 = _
          rw [e2, x_sh_eq]; exact hu.2.2.2.2.1.1
        · show Yc τ2 _ _ _ _ _ _ _
          rw [e2]; exact Yc_now Y1 (n_sn_le hn) hu
        · show τ2 11 = _
          rw [e2, x_sh_ne _ _ (by omega), t11]
      · show Ok (fX7_renew (σ 11) (nn g)) _
        rw [fX7_renew, mh_ok M.1 F.1 hg, if_pos c, xb_some, if_pos rfl]
        refine Ok_bind (m_save (Ym_rf M (0 : Int32)) hn) (fun m1 h1 => ?_)
        obtain ⟨M1, r1, r42⟩ := h1
        have r1 : m1 40 0 = nn 0 := r1.trans (rfz (σ 11) (0 : Int32))
        refine Ok_bind (v_want M1.1 hg hm) (fun q hq => Ok_let (fun u1 e1 => Ok_some ⟨?_, ?_, ?_⟩))
        · show u1 41 _ = _
          rw [e1, x_hs_eq]; exact hq 552 (by omega)
        · show u1 40 0 = _
          rw [e1, x_hs_ne _ _ (by omega), r1]
        · show Ym u1 _ _ _ _ _ _ _
          rw [e1]; exact Ym_now M1 hq
    · have d : ¬ nn (w (8 * g)) = (3 : Int32) := fun e => c ((nn_is 3 (by omega) (by omega)).mp e)
      refine gI_exc (2, σ) 2 ?_ rfl (by omega) (by omega) Y NA ?_
      · rw [eX6_renew, eg_ok hg, xo_none, fg_ok hg, xb_some, if_pos (nn_in (by omega) hg), e5, if_neg d, er0, xo_some]
      · show Ok (fX7_renew (σ 11) (nn g)) _
        rw [fX7_renew, mh_ok M.1 F.1 hg, if_neg c, xb_some, if_neg nn_one]
        exact Ok_some ⟨rfz (σ 11) (2 : Int32), Ym_rf M _⟩
