/-! ===== questions about rooms, messages, counts ===== -/
set_option maxRecDepth 16384 in
theorem g_state {u : x_H} {w : Nat → Nat} (R : Ru u w) {r : Nat} (hr : r < 16) : u 12 (Int32.toNatClampNeg (nn r)) = nn (w (96 + 6 * r)) := by rw [nn_clamp (by omega)]; exact (R.2.1 r hr).1
set_option maxRecDepth 16384 in
theorem kx1 {r : Nat} : (96 : Int32) + 6 * nn r + 1 = nn (96 + 6 * r + 1) := by (try simp (disch := omega) only [nn_add, nn_mul, nn_clamp, nn_in1, nn_inj, nn_lt, nn_le, nn_neg, nu_eq1, nu_ne1, nn_nb0, nn_true, nn_false, if_true, if_false, x_let_n, x_let_m, xb_some, eq_self, ite_true, ite_false, not_false_eq_true, not_true_eq_false, nneg1, nl0, nl1, nl2, nl3, nl4, nl5, nl6, nl7, nl8, nl9, nl10, nl11, nl12, nl15, nl16, nl60, nl96, nl192, nl552, nl553, nl554, nl555, nl556, nl557, nl558, nl559, nl560, nl561, nl562, nl563, nl570])
set_option maxRecDepth 16384 in
theorem kx2 {r : Nat} : (96 : Int32) + 6 * nn r + 2 = nn (96 + 6 * r + 2) := by (try simp (disch := omega) only [nn_add, nn_mul, nn_clamp, nn_in1, nn_inj, nn_lt, nn_le, nn_neg, nu_eq1, nu_ne1, nn_nb0, nn_true, nn_false, if_true, if_false, x_let_n, x_let_m, xb_some, eq_self, ite_true, ite_false, not_false_eq_true, not_true_eq_false, nneg1, nl0, nl1, nl2, nl3, nl4, nl5, nl6, nl7, nl8, nl9, nl10, nl11, nl12, nl15, nl16, nl60, nl96, nl192, nl552, nl553, nl554, nl555, nl556, nl557, nl558, nl559, nl560, nl561, nl562, nl563, nl570])
set_option maxRecDepth 16384 in
theorem s_29 {A : Nat} {σ : x_S} (Y : Sy A σ) (hA : A + 1300000 ≤ 700000000) (a a2 : Int32) : Ok (gL_29 σ a a2) (Sy (A + 1300000)) := by
  obtain ⟨w, n, S, t, K, l, x, Y, M, N⟩ := Y
  obtain ⟨B, F, ⟨hn, hS⟩, hK, hx, b1, b2, b3⟩ := id N
  have hm := F.1.2.2.1.2
  have NA := Yn_up N (show A ≤ A + 1300000 by omega) hA
  have NS := Yn_save N
  show Ok (gI (fL_stateOf σ a) (fun m => fX7_stateOf m a)) _
  unfold fL_stateOf
  have M0 := Ym_rf M (0 : Int32)
  rcases a_room a with ⟨h1, h2⟩ | ⟨r, hr, rfl⟩
  · refine gI_exc (0 : Nat) 1 ?_ rfl (by omega) (by omega) Y NA ?_
    · rw [eX6_stateOf, er_no h1]; rfl
    · show Ok (fX7_stateOf (σ 11) a) _
      rw [fX7_stateOf, mr_no h2, xb_some, if_neg nn_one]
      exact Ok_some ⟨rfz (σ 11) (1 : Int32), Ym_rf M _⟩
  · refine gI_qry (nn (w (96 + 6 * r))) ?_ ?_ Y NA ?_
    · rw [eX6_stateOf, er_ok hr, xo_none, fr_ok hr, xb_some]
    · rw [fX6_stateOf, fr_ok hr, xb_some, if_pos (nn_in (by omega) hr), g_state Y.1 hr]
    · show Ok (fX7_stateOf (σ 11) (nn r)) _
      rw [fX7_stateOf, mr_ok hr, xb_some, if_pos rfl, v_state M0.1 hr, xb_some]
      exact Ok_some ⟨rfl, rfz (σ 11) (0 : Int32), M0⟩
abbrev n_who (w : Nat → Nat) (r : Nat) : Prop := 1 ≤ w (96 + 6 * r) ∧ w (96 + 6 * r) ≤ 2
set_option maxRecDepth 16384 in
theorem v_who {u : x_H} {w : Nat → Nat} (R : Rv (u 41) w) (Z : Wz w) {r : Nat} (hr : r < 16) : fX7_hasWho u (nn r) = some (nn (if n_who w r then 1 else 0)) := by
  have z := Z.2.1.1 r hr
  have hin : fX7_in (nn (w (96 + 6 * r))).toInt64 (1 : Int64) (2 : Int64) = some (if n_who w r then 1 else 0) := v_in_nn (l := 1) (m := 2) (by omega) rfl rfl
  rw [fX7_hasWho, v_state R hr, xb_some, hin, xb_some]
  by_cases c : n_who w r
  · rw [if_pos c, if_pos vpb1, if_pos c]; rfl
  · rw [if_neg c, if_pos vpb0, if_neg c]; rfl
set_option maxRecDepth 16384 in
theorem g_who {u : x_H} {w : Nat → Nat} (R : Ru u w) (Z : Wz w) {r : Nat} (hr : r < 16) : u 13 (Int32.toNatClampNeg (nn r)) = mm (if n_who w r then w (96 + 6 * r + 2) + 1 else 0) := by
  have z := Z.2.1.1 r hr
  rw [nn_clamp (by omega), (R.2.1 r hr).2.1]
  by_cases c : n_who w r
  · rw [if_pos c, if_pos (by omega)]
  · rw [if_neg c, if_neg (by omega)]
set_option maxRecDepth 16384 in
theorem s_30 {A : Nat} {σ : x_S} (Y : Sy A σ) (hA : A + 1300000 ≤ 700000000) (a a2 : Int32) : Ok (gL_30 σ a a2) (Sy (A + 1300000)) := by
  obtain ⟨w, n, S, t, K, l, x, Y, M, N⟩ := Y
  obtain ⟨B, F, ⟨hn, hS⟩, hK, hx, b1, b2, b3⟩ := id N
  have hm := F.1.2.2.1.2
  have NA := Yn_up N (show A ≤ A + 1300000 by omega) hA
  have NS := Yn_save N
  show Ok (gI (fL_guestOf σ a) (fun m => fX7_guestOf m a)) _
  unfold fL_guestOf
  have M0 := Ym_rf M (0 : Int32)
  rcases a_room a with ⟨h1, h2⟩ | ⟨r, hr, rfl⟩
  · refine gI_exc (0 : Nat) 1 ?_ rfl (by omega) (by omega) Y NA ?_
    · rw [eX6_guestOf, er_no h1]; rfl
    · show Ok (fX7_guestOf (σ 11) a) _
      rw [fX7_guestOf, h2, xb_some, if_pos rfl, fX7_guestOf_j27, rf1, xb_some, if_neg nn_one]
      exact Ok_some ⟨rfz (σ 11) (1 : Int32), Ym_rf M _⟩
  · have z := F.1.2.1.1 r hr
    have e6 := g_who Y.1 F.1 hr
    by_cases c : n_who w r
    · rw [if_pos c, mm_succ] at e6
      have d : ¬ nn (w (96 + 6 * r + 2)) = (-1 : Int32) := fun e => (nn_neg (a := w (96 + 6 * r + 2)) (by omega)).mp (by rw [e]; decide)
      refine gI_qry (nn (w (96 + 6 * r + 2))) ?_ ?_ Y NA ?_
      · rw [eX6_guestOf, er_ok hr, xo_none, fr_ok hr, xb_some, if_pos (nn_in (by omega) hr), e6, if_neg d, er1, xo_none, fr1, xb_some]
      · rw [fX6_guestOf, fr_ok hr, xb_some, if_pos (nn_in (by omega) hr), e6, if_neg d, fr1, xb_some]
      · show Ok (fX7_guestOf (σ 11) (nn r)) _
        rw [fX7_guestOf, v_isRoom hr, xb_some, if_neg nn_one, v_who M.1 F.1 hr, xb_some, nb_z, if_pos c, fX7_guestOf_j27, rf0, xb_some, if_pos rfl, kx2, if_pos (nn_in (by omega) (by omega)), nn_clamp (by omega)]
        exact Ok_some ⟨M0.1 _ (by omega), rfz (σ 11) (0 : Int32), M0⟩
    · rw [if_neg c] at e6
      refine gI_exc (2 : Nat) 2 ?_ rfl (by omega) (by omega) Y NA ?_
      · rw [eX6_guestOf, er_ok hr, xo_none, fr_ok hr, xb_some, if_pos (nn_in (by omega) hr), e6, if_pos (show mm 0 = (-1 : Int32) from rfl), er0, xo_some]
      · show Ok (fX7_guestOf (σ 11) (nn r)) _
        rw [fX7_guestOf, v_isRoom hr, xb_some, if_neg nn_one, v_who M.1 F.1 hr, xb_some, nb_z, if_neg c, fX7_guestOf_j27, rf2, xb_some, if_neg nn_one]
        exact Ok_some ⟨rfz (σ 11) (2 : Int32), Ym_rf M _⟩
/- how long a room is not free yet -/
def n_left (w : Nat → Nat) (r : Nat) : Nat := if w (96 + 6 * r) = 0 then 0 else w (96 + 6 * r + 1) - w 554
set_option maxRecDepth 16384 in
theorem u_left {u : x_H} {w : Nat → Nat} {B : Nat} (R : Ru u w) (F : Wf B w) {r : Nat} (hr : r < 16) : fX3_ticksUntilFree u (nn r) (nn (w 554)) = some (nn (n_left w r)) := by
  have z := F.1.2.1.1 r hr
  have X := F.2.1.2 r hr
  rw [fX3_ticksUntilFree, u_isRoom hr, xb_some, if_neg nn_one, if_pos (nn_in (by omega) hr), g_state R hr, n_left]
  by_cases c : w (96 + 6 * r) = 0
  · rw [if_pos (show nn (w (96 + 6 * r)) = (0 : Int32) by rw [c]; rfl), if_pos c]; rfl
  · rw [if_neg (fun e => c ((nn_0 (by omega)).mp e)), if_neg c, nn_clamp (by omega), (R.2.1 r hr).2.2.1 c, nn_sub (by have := X c; omega)]
set_option maxRecDepth 16384 in
theorem v_left {u : x_H} {w : Nat → Nat} {B : Nat} (R : Rv (u 41) w) (F : Wf B w) {r : Nat} (hr : r < 16) : fX7_leftOf u (nn r) = some (nn (n_left w r)) := by
  have z := F.1.2.1.1 r hr
  have X := F.2.1.2 r hr
  rw [fX7_leftOf, v_state R hr, xb_some, n_left]
  by_cases c : w (96 + 6 * r) = 0
  · rw [if_pos (show nn (w (96 + 6 * r)) = (0 : Int32) by rw [c]; rfl), if_pos c]; rfl
  · rw [if_neg (fun e => c ((nn_0 (by omega)).mp e)), if_neg c, kx1, if_pos (nn_in (by omega) (by omega)), nn_clamp (by omega), R _ (by omega), show u 41 (Int32.toNatClampNeg (554 : Int32)) = nn (w 554) from R 554 (by omega), nn_sub (by have := X c; omega)]
set_option maxRecDepth 16384 in
theorem s_31 {A : Nat} {σ : x_S} (Y : Sy A σ) (hA : A + 1300000 ≤ 700000000) (a a2 : Int32) : Ok (gL_31 σ a a2) (Sy (A + 1300000)) := by
  obtain ⟨w, n, S, t, K, l, x, Y, M, N⟩ := Y
  obtain ⟨B, F, ⟨hn, hS⟩, hK, hx, b1, b2, b3⟩ := id N
  have hm := F.1.2.2.1.2
  have NA := Yn_up N (show A ≤ A + 1300000 by omega) hA
  have NS := Yn_save N
  show Ok (gI (fL_ticksOf σ a) (fun m => fX7_ticksOf m a)) _
  unfold fL_ticksOf
  have M0 := Ym_rf M (0 : Int32)
  rcases a_room a with ⟨h1, h2⟩ | ⟨r, hr, rfl⟩
  · refine gI_exc (0 : Nat) 1 ?_ rfl (by omega) (by omega) Y NA ?_
    · rw [eX6_ticksOf, er_no h1]; rfl
    · show Ok (fX7_ticksOf (σ 11) a) _
      rw [fX7_ticksOf, h2, xb_some, if_pos rfl, rf1, xb_some, if_neg nn_one]
      exact Ok_some ⟨rfz (σ 11) (1 : Int32), Ym_rf M _⟩
  · have z := F.1.2.1.1 r hr
    have e6 := g_state Y.1 hr
    have et : σ 0 0 0 = nn (w 554) := Y.1.2.2.2.2.2.1.1
    by_cases c : w (96 + 6 * r) = 0
    · rw [c] at e6
      refine gI_exc (2 : Nat) 2 ?_ rfl (by omega) (by omega) Y NA ?_
      · rw [eX6_ticksOf, er_ok hr, xo_none, fr_ok hr, xb_some, if_pos (nn_in (by omega) hr), e6, if_pos (show nn 0 = (0 : Int32) from rfl), er0, xo_some]
      · show Ok (fX7_ticksOf (σ 11) (nn r)) _
        rw [fX7_ticksOf, v_isRoom hr, xb_some, if_neg nn_one, v_state M.1 hr, xb_some, if_pos (show nn (w (96 + 6 * r)) = (0 : Int32) by rw [c]; rfl), rf2, xb_some, if_neg nn_one]
        exact Ok_some ⟨rfz (σ 11) (2 : Int32), Ym_rf M _⟩
    · have d : ¬ nn (w (96 + 6 * r)) = (0 : Int32) := fun e => c ((nn_is 0 (by omega) (by omega)).mp e)
      refine gI_qry (nn (n_left w r)) ?_ ?_ Y NA ?_
      · rw [eX6_ticksOf, er_ok hr, xo_none, fr_ok hr, xb_some, if_pos (nn_in (by omega) hr), e6, if_neg d, er1, xo_none, fr1, xb_some]
      · rw [fX6_ticksOf, fr_ok hr, xb_some, if_pos (nn_in (by omega) hr), e6, if_neg d, fr1, xb_some, et, u_left Y.1 F hr, xb_some]
      · show Ok (fX7_ticksOf (σ 11) (nn r)) _
        rw [fX7_ticksOf, v_isRoom hr, xb_some, if_neg nn_one, v_state M.1 hr, xb_some, if_neg d, rf0, xb_some, if_pos rfl, v_left M0.1 F hr, xb_some]
        exact Ok_some ⟨rfl, rfz (σ 11) (0 : Int32), M0⟩
set_option maxRecDepth 16384 in
theorem s_32 {A : Nat} {σ : x_S} (Y : Sy A σ) (hA : A + 1300000 ≤ 700000000) (a a2 : Int32) : Ok (gL_32 σ a a2) (Sy (A + 1300000)) := by
  obtain ⟨w, n, S, t, K, l, x, Y, M, N⟩ := Y
  obtain ⟨B, F, ⟨hn, hS⟩, hK, hx, b1, b2, b3⟩ := id N
  have hm := F.1.2.2.1.2
  have NA := Yn_up N (show A ≤ A + 1300000 by omega) hA
  have NS := Yn_save N
  show Ok (gI (fL_reservedFor σ a) (fun m => fX7_reservedFor m a)) _
  unfold fL_reservedFor
  have M0 := Ym_rf M (0 : Int32)
  rcases a_room a with ⟨h1, h2⟩ | ⟨r, hr, rfl⟩
  · refine gI_exc (0 : Nat) 1 ?_ rfl (by omega) (by omega) Y NA ?_
    · rw [eX6_reservedFor, er_no h1]; rfl
    · show Ok (fX7_reservedFor (σ 11) a) _
      rw [fX7_reservedFor, h2, xb_some, if_pos rfl, fX7_reservedFor_j36, rf1, xb_some, if_neg nn_one]
      exact Ok_some ⟨rfz (σ 11) (1 : Int32), Ym_rf M _⟩
  · have z := F.1.2.1.1 r hr
    have e5 := g_kept Y.1 hr
    have e6 : σ 11 41 (96 + 6 * r + 4) = nn (w (96 + 6 * r + 4)) := M.1 _ (by omega)
    by_cases c : w (96 + 6 * r + 4) = 0
    · refine gI_exc (2 : Nat) 2 ?_ rfl (by omega) (by omega) Y NA ?_
      · rw [eX6_reservedFor, er_ok hr, xo_none, fr_ok hr, xb_some, if_pos (nn_in (by omega) hr), e5, if_pos ((mm_none (by omega)).mpr c), er0, xo_some]
      · show Ok (fX7_reservedFor (σ 11) (nn r)) _
        rw [fX7_reservedFor, v_isRoom hr, xb_some, if_neg nn_one, kx4, if_pos (nn_in (by omega) (by omega)), nn_clamp (by omega), e6, if_pos (show nn (w (96 + 6 * r + 4)) = (0 : Int32) by rw [c]; rfl), fX7_reservedFor_j36, rf2, xb_some, if_neg nn_one]
        exact Ok_some ⟨rfz (σ 11) (2 : Int32), Ym_rf M _⟩
    · refine gI_qry (mm (w (96 + 6 * r + 4))) ?_ ?_ Y NA ?_
      · rw [eX6_reservedFor, er_ok hr, xo_none, fr_ok hr, xb_some, if_pos (nn_in (by omega) hr), e5, if_neg (fun e => c ((mm_none (by omega)).mp e)), er1, xo_none, fr1, xb_some]
      · rw [fX6_reservedFor, fr_ok hr, xb_some, if_pos (nn_in (by omega) hr), e5, if_neg (fun e => c ((mm_none (by omega)).mp e)), fr1, xb_some]
      · show Ok (fX7_reservedFor (σ 11) (nn r)) _
        have e7 : ((0 : Int32), x_hu (σ 11) 40 0 (0 : Int32)).2 41 (96 + 6 * r + 4) = nn (w (96 + 6 * r + 4)) := M0.1 _ (by omega)
        rw [fX7_reservedFor, v_isRoom hr, xb_some, if_neg nn_one, kx4, if_pos (nn_in (by omega) (by omega)), nn_clamp (by omega), e6, if_neg (fun e => c ((nn_0 (by omega)).mp e)), fX7_reservedFor_j36, rf0, xb_some, if_pos rfl, kx4, if_pos (nn_in (by omega) (by omega)), nn_clamp (by omega)]
        rw [e7]
        exact Ok_some ⟨rfl, rfz (σ 11) (0 : Int32), M0⟩
set_option maxRecDepth 16384 in
theorem s_33 {A : Nat} {σ : x_S} (Y : Sy A σ) (hA : A + 1300000 ≤ 700000000) (a a2 : Int32) : Ok (gL_33 σ a a2) (Sy (A + 1300000)) := by
  obtain ⟨w, n, S, t, K, l, x, Y, M, N⟩ := Y
  obtain ⟨B, F, ⟨hn, hS⟩, hK, hx, b1, b2, b3⟩ := id N
  have hm := F.1.2.2.1.2
  have NA := Yn_up N (show A ≤ A + 1300000 by omega) hA
  have NS := Yn_save N
  show Ok (gB (fL_hasGhost σ a) (fun m => fX7_hasGhost m a)) _
  unfold fL_hasGhost
  have M0 := Ym_rf M (0 : Int32)
  rcases a_room a with ⟨h1, h2⟩ | ⟨r, hr, rfl⟩
  · refine gB_exc (0 : Nat) 1 ?_ rfl (by omega) (by omega) Y NA ?_
    · rw [eX6_hasGhost, er_no h1]; rfl
    · show Ok (fX7_hasGhost (σ 11) a) _
      rw [fX7_hasGhost, mr_no h2, xb_some, if_neg nn_one]
      exact Ok_some ⟨rfz (σ 11) (1 : Int32), Ym_rf M _⟩
  · have z := F.1.2.1.1 r hr
    refine gB_qry (w (96 + 6 * r + 5) = 1) ?_ ?_ Y NA ?_
    · rw [eX6_hasGhost, er_ok hr, xo_none, fr_ok hr, xb_some]
    · rw [fX6_hasGhost, fr_ok hr, xb_some, u_ghostB Y.1 hr (fun y => some y)]
    · show Ok (fX7_hasGhost (σ 11) (nn r)) _
      have e7 : ((0 : Int32), x_hu (σ 11) 40 0 (0 : Int32)).2 41 (96 + 6 * r + 5) = nn (w (96 + 6 * r + 5)) := M0.1 _ (by omega)
      rw [fX7_hasGhost, mr_ok hr, xb_some, if_pos rfl, kx5, if_pos (nn_in (by omega) (by omega)), nn_clamp (by omega)]
      rw [e7]
      by_cases c : w (96 + 6 * r + 5) = 1
      · rw [if_pos (show nn (w (96 + 6 * r + 5)) = (1 : Int32) by rw [c]; rfl), if_pos c]
        exact Ok_some ⟨rfl, rfz (σ 11) (0 : Int32), M0⟩
      · rw [if_neg (show ¬ nn (w (96 + 6 * r + 5)) = (1 : Int32) from fun e => c ((nn_is 1 (by omega) (by omega)).mp e)), if_neg c]
        exact Ok_some ⟨rfl, rfz (σ 11) (0 : Int32), M0⟩
set_option maxRecDepth 16384 in
theorem s_34 {A : Nat} {σ : x_S} (Y : Sy A σ) (hA : A + 1300000 ≤ 700000000) (a a2 : Int32) : Ok (gL_34 σ a a2) (Sy (A + 1300000)) := by
  obtain ⟨w, n, S, t, K, l, x, Y, M, N⟩ := Y
  obtain ⟨B, F, ⟨hn, hS⟩, hK, hx, b1, b2, b3⟩ := id N
  have hm := F.1.2.2.1.2
  have NA := Yn_up N (show A ≤ A + 1300000 by omega) hA
  have NS := Yn_save N
  show Ok (gI (fL_roomFor σ a) (fun m => fX7_roomFor m a)) _
  unfold fL_roomFor
  have M0 := Ym_rf M (0 : Int32)
  rcases a_guest a with ⟨h1, h2⟩ | ⟨g, hg, rfl⟩
  · refine gI_exc (0 : Nat) 1 ?_ rfl (by omega) (by omega) Y NA ?_
    · rw [eX6_roomFor, eg_no h1]; rfl
    · show Ok (fX7_roomFor (σ 11) a) _
      rw [fX7_roomFor, h2, xb_some, if_pos rfl, rf1, xb_some, if_neg nn_one]
      exact Ok_some ⟨rfz (σ 11) (1 : Int32), Ym_rf M _⟩
  · have z := n_choice_le F.1 hg
    by_cases c : n_choice w g = 0
    · refine gI_exc (2 : Nat) 2 ?_ rfl (by omega) (by omega) Y NA ?_
      · rw [eX6_roomFor, eg_ok hg, xo_none, fg_ok hg, xb_some, u_roomToOffer Y.1 F.1 hg, xb_some, if_pos ((mm_none (by omega)).mpr c), er0, xo_some]
      · show Ok (fX7_roomFor (σ 11) (nn g)) _
        rw [fX7_roomFor, v_isGuest hg, xb_some, if_neg nn_one, v_choice M.1 F.1 hg, xb_some, if_pos ((mm_none (by omega)).mpr c), rf2, xb_some, if_neg nn_one]
        exact Ok_some ⟨rfz (σ 11) (2 : Int32), Ym_rf M _⟩
    · have d : ¬ mm (n_choice w g) = (-1 : Int32) := fun e => c ((mm_none (by omega)).mp e)
      refine gI_qry (mm (n_choice w g)) ?_ ?_ Y NA ?_
      · rw [eX6_roomFor, eg_ok hg, xo_none, fg_ok hg, xb_some, u_roomToOffer Y.1 F.1 hg, xb_some, if_neg d, er1, xo_none, fr1, xb_some]
      · rw [fX6_roomFor, fg_ok hg, xb_some, u_roomToOffer Y.1 F.1 hg, xb_some, if_neg d, fr1, xb_some]
      · show Ok (fX7_roomFor (σ 11) (nn g)) _
        rw [fX7_roomFor, v_isGuest hg, xb_some, if_neg nn_one, v_choice M.1 F.1 hg, xb_some, if_neg d, rf0, xb_some, if_pos rfl, v_choice M0.1 F.1 hg, xb_some]
        exact Ok_some ⟨rfl, rfz (σ 11) (0 : Int32), M0⟩
section
variable {n l : Nat} {m : x_H} {w : Nat → Nat} {S K : Nat → Nat → Nat} {t x : Nat → Nat}
set_option maxRecDepth 16384 in
theorem m_tell (M : Ym m w n S t K l x) {k : Nat} (hk : k < 570) : Ok (Option.bind (fX7_tell m (nn k)) fun r1 => some (r1.1, r1.2)) (fun q => q.1 = nn (w k) ∧ Ym q.2 w n S t K l x) := by
  rw [fX7_tell]
  refine Ok_bind (T := fun q => q.1 = nn (w k) ∧ Ym q.2 w n S t K l x) (Ok_let (fun u0 e0 => ?_)) (fun q hq => Ok_some hq)
  rw [if_pos (nn_in (by omega) hk), nn_clamp (by omega)]
  have M0 : Ym u0 w n S t K l x := by rw [e0]; exact Ym_rf M _
  exact Ok_some ⟨M0.1 k hk, M0⟩
end
set_option maxRecDepth 16384 in
theorem s_40 {A : Nat} {σ : x_S} (Y : Sy A σ) (hA : A + 1300000 ≤ 700000000) (a a2 : Int32) : Ok (gL_40 σ a a2) (Sy (A + 1300000)) := by
  obtain ⟨w, n, S, t, K, l, x, Y, M, N⟩ := Y
  obtain ⟨B, F, ⟨hn, hS⟩, hK, hx, b1, b2, b3⟩ := id N
  have hm := F.1.2.2.1.2
  have NA := Yn_up N (show A ≤ A + 1300000 by omega) hA
  have NS := Yn_save N
  exact gD_val (M := fun m => fX7_leaseTicks m) (nn (w 555)) (by rw [fX6_leaseTicks]; exact congrArg some Y.1.2.2.2.2.2.2.1.1) Y NA (m_tell (k := 555) M (by omega))
set_option maxRecDepth 16384 in
theorem s_41 {A : Nat} {σ : x_S} (Y : Sy A σ) (hA : A + 1300000 ≤ 700000000) (a a2 : Int32) : Ok (gL_41 σ a a2) (Sy (A + 1300000)) := by
  obtain ⟨w, n, S, t, K, l, x, Y, M, N⟩ := Y
  obtain ⟨B, F, ⟨hn, hS⟩, hK, hx, b1, b2, b3⟩ := id N
  have hm := F.1.2.2.1.2
  have NA := Yn_up N (show A ≤ A + 1300000 by omega) hA
  have NS := Yn_save N
  exact gD_val (M := fun m => fX7_holdTicks m) (nn (w 556)) (by rw [fX6_holdTicks]; exact congrArg some Y.1.2.2.2.2.2.2.1.2.1) Y NA (m_tell (k := 556) M (by omega))
set_option maxRecDepth 16384 in
theorem s_42 {A : Nat} {σ : x_S} (Y : Sy A σ) (hA : A + 1300000 ≤ 700000000) (a a2 : Int32) : Ok (gL_42 σ a a2) (Sy (A + 1300000)) := by
  obtain ⟨w, n, S, t, K, l, x, Y, M, N⟩ := Y
  obtain ⟨B, F, ⟨hn, hS⟩, hK, hx, b1, b2, b3⟩ := id N
  have hm := F.1.2.2.1.2
  have NA := Yn_up N (show A ≤ A + 1300000 by omega) hA
  have NS := Yn_save N
  exact gD_val (M := fun m => fX7_shutTicks m) (nn (w 557)) (by rw [fX6_shutTicks]; exact congrArg some Y.1.2.2.2.2.2.2.1.2.2) Y NA (m_tell (k := 557) M (by omega))
set_option maxRecDepth 16384 in
theorem s_43 {A : Nat} {σ : x_S} (Y : Sy A σ) (hA : A + 1300000 ≤ 700000000) (a a2 : Int32) : Ok (gL_43 σ a a2) (Sy (A + 1300000)) := by
  obtain ⟨w, n, S, t, K, l, x, Y, M, N⟩ := Y
  obtain ⟨B, F, ⟨hn, hS⟩, hK, hx, b1, b2, b3⟩ := id N
  have hm := F.1.2.2.1.2
  have NA := Yn_up N (show A ≤ A + 1300000 by omega) hA
  have NS := Yn_save N
  exact gD_val (M := fun m => fX7_messages m) (nn (w 552)) (by rw [fX6_messages]; exact congrArg some Y.1.2.2.2.2.1.1) Y NA (m_tell (k := 552) M (by omega))
set_option maxRecDepth 16384 in
theorem s_47 {A : Nat} {σ : x_S} (Y : Sy A σ) (hA : A + 1300000 ≤ 700000000) (a a2 : Int32) : Ok (gL_47 σ a a2) (Sy (A + 1300000)) := by
  obtain ⟨w, n, S, t, K, l, x, Y, M, N⟩ := Y
  obtain ⟨B, F, ⟨hn, hS⟩, hK, hx, b1, b2, b3⟩ := id N
  have hm := F.1.2.2.1.2
  have NA := Yn_up N (show A ≤ A + 1300000 by omega) hA
  have NS := Yn_save N
  exact gD_val (M := fun m => fX7_time m) (nn (w 554)) (by rw [fX6_time]; exact congrArg some Y.1.2.2.2.2.2.1.1) Y NA (m_tell (k := 554) M (by omega))
set_option maxRecDepth 16384 in
theorem s_49 {A : Nat} {σ : x_S} (Y : Sy A σ) (hA : A + 1300000 ≤ 700000000) (a a2 : Int32) : Ok (gL_49 σ a a2) (Sy (A + 1300000)) := by
  obtain ⟨w, n, S, t, K, l, x, Y, M, N⟩ := Y
  obtain ⟨B, F, ⟨hn, hS⟩, hK, hx, b1, b2, b3⟩ := id N
  have hm := F.1.2.2.1.2
  have NA := Yn_up N (show A ≤ A + 1300000 by omega) hA
  have NS := Yn_save N
  exact gD_val (M := fun m => fX7_lost m) (nn (w 558)) (by rw [fX6_lost]; exact congrArg some Y.1.2.2.2.2.2.1.2.2.1) Y NA (m_tell (k := 558) M (by omega))
set_option maxRecDepth 16384 in
theorem s_50 {A : Nat} {σ : x_S} (Y : Sy A σ) (hA : A + 1300000 ≤ 700000000) (a a2 : Int32) : Ok (gL_50 σ a a2) (Sy (A + 1300000)) := by
  obtain ⟨w, n, S, t, K, l, x, Y, M, N⟩ := Y
  obtain ⟨B, F, ⟨hn, hS⟩, hK, hx, b1, b2, b3⟩ := id N
  have hm := F.1.2.2.1.2
  have NA := Yn_up N (show A ≤ A + 1300000 by omega) hA
  have NS := Yn_save N
  exact gD_val (M := fun m => fX7_delivered m) (nn (w 559)) (by rw [fX6_delivered]; exact congrArg some Y.1.2.2.2.2.2.1.2.2.2.1) Y NA (m_tell (k := 559) M (by omega))
set_option maxRecDepth 16384 in
theorem s_51 {A : Nat} {σ : x_S} (Y : Sy A σ) (hA : A + 1300000 ≤ 700000000) (a a2 : Int32) : Ok (gL_51 σ a a2) (Sy (A + 1300000)) := by
  obtain ⟨w, n, S, t, K, l, x, Y, M, N⟩ := Y
  obtain ⟨B, F, ⟨hn, hS⟩, hK, hx, b1, b2, b3⟩ := id N
  have hm := F.1.2.2.1.2
  have NA := Yn_up N (show A ≤ A + 1300000 by omega) hA
  have NS := Yn_save N
  exact gD_val (M := fun m => fX7_leases m) (nn (w 560)) (by rw [fX6_leases]; exact congrArg some Y.1.2.2.2.2.2.1.2.2.2.2.1) Y NA (m_tell (k := 560) M (by omega))
set_option maxRecDepth 16384 in
theorem s_52 {A : Nat} {σ : x_S} (Y : Sy A σ) (hA : A + 1300000 ≤ 700000000) (a a2 : Int32) : Ok (gL_52 σ a a2) (Sy (A + 1300000)) := by
  obtain ⟨w, n, S, t, K, l, x, Y, M, N⟩ := Y
  obtain ⟨B, F, ⟨hn, hS⟩, hK, hx, b1, b2, b3⟩ := id N
  have hm := F.1.2.2.1.2
  have NA := Yn_up N (show A ≤ A + 1300000 by omega) hA
  have NS := Yn_save N
  exact gD_val (M := fun m => fX7_evicted m) (nn (w 561)) (by rw [fX6_evicted]; exact congrArg some Y.1.2.2.2.2.2.1.2.2.2.2.2.1) Y NA (m_tell (k := 561) M (by omega))
set_option maxRecDepth 16384 in
theorem s_53 {A : Nat} {σ : x_S} (Y : Sy A σ) (hA : A + 1300000 ≤ 700000000) (a a2 : Int32) : Ok (gL_53 σ a a2) (Sy (A + 1300000)) := by
  obtain ⟨w, n, S, t, K, l, x, Y, M, N⟩ := Y
  obtain ⟨B, F, ⟨hn, hS⟩, hK, hx, b1, b2, b3⟩ := id N
  have hm := F.1.2.2.1.2
  have NA := Yn_up N (show A ≤ A + 1300000 by omega) hA
  have NS := Yn_save N
  exact gD_val (M := fun m => fX7_shutSoFar m) (nn (w 562)) (by rw [fX6_shutSoFar]; exact congrArg some Y.1.2.2.2.2.2.1.2.2.2.2.2.2) Y NA (m_tell (k := 562) M (by omega))
set_option maxRecDepth 16384 in
theorem kp0 {p : Nat} : (192 : Int32) + 6 * nn p = nn (192 + 6 * p) := by (try simp (disch := omega) only [nn_add, nn_mul, nn_clamp, nn_in1, nn_inj, nn_lt, nn_le, nn_neg, nu_eq1, nu_ne1, nn_nb0, nn_true, nn_false, if_true, if_false, x_let_n, x_let_m, xb_some, eq_self, ite_true, ite_false, not_false_eq_true, not_true_eq_false, nneg1, nl0, nl1, nl2, nl3, nl4, nl5, nl6, nl7, nl8, nl9, nl10, nl11, nl12, nl15, nl16, nl60, nl96, nl192, nl552, nl553, nl554, nl555, nl556, nl557, nl558, nl559, nl560, nl561, nl562, nl563, nl570])
set_option maxRecDepth 16384 in
theorem kp1 {p : Nat} : (192 : Int32) + 6 * nn p + 1 = nn (192 + 6 * p + 1) := by (try simp (disch := omega) only [nn_add, nn_mul, nn_clamp, nn_in1, nn_inj, nn_lt, nn_le, nn_neg, nu_eq1, nu_ne1, nn_nb0, nn_true, nn_false, if_true, if_false, x_let_n, x_let_m, xb_some, eq_self, ite_true, ite_false, not_false_eq_true, not_true_eq_false, nneg1, nl0, nl1, nl2, nl3, nl4, nl5, nl6, nl7, nl8, nl9, nl10, nl11, nl12, nl15, nl16, nl60, nl96, nl192, nl552, nl553, nl554, nl555, nl556, nl557, nl558, nl559, nl560, nl561, nl562, nl563, nl570])
set_option maxRecDepth 16384 in
theorem kp2 {p : Nat} : (192 : Int32) + 6 * nn p + 2 = nn (192 + 6 * p + 2) := by (try simp (disch := omega) only [nn_add, nn_mul, nn_clamp, nn_in1, nn_inj, nn_lt, nn_le, nn_neg, nu_eq1, nu_ne1, nn_nb0, nn_true, nn_false, if_true, if_false, x_let_n, x_let_m, xb_some, eq_self, ite_true, ite_false, not_false_eq_true, not_true_eq_false, nneg1, nl0, nl1, nl2, nl3, nl4, nl5, nl6, nl7, nl8, nl9, nl10, nl11, nl12, nl15, nl16, nl60, nl96, nl192, nl552, nl553, nl554, nl555, nl556, nl557, nl558, nl559, nl560, nl561, nl562, nl563, nl570])
set_option maxRecDepth 16384 in
theorem s_44 {A : Nat} {σ : x_S} (Y : Sy A σ) (hA : A + 1300000 ≤ 700000000) (a a2 : Int32) : Ok (gL_44 σ a a2) (Sy (A + 1300000)) := by
  obtain ⟨w, n, S, t, K, l, x, Y, M, N⟩ := Y
  obtain ⟨B, F, ⟨hn, hS⟩, hK, hx, b1, b2, b3⟩ := id N
  have hm := F.1.2.2.1.2
  have NA := Yn_up N (show A ≤ A + 1300000 by omega) hA
  have NS := Yn_save N
  show Ok (gI (fL_kindAt σ a) (fun m => fX7_kindAt m a)) _
  unfold fL_kindAt
  have M0 := Ym_rf M (0 : Int32)
  have e552 := M.1 552 (by omega)
  rcases a_place (u := σ 0) Y.1.2.2.2.2.1.1 hm a with ⟨h1, h2⟩ | ⟨p, hp, rfl, h1, h2⟩
  · rw [← e552] at h2
    refine gI_exc (0 : Nat) 1 ?_ rfl (by omega) (by omega) Y NA ?_
    · rw [eX6_kindAt, ep_no h1]; rfl
    · show Ok (fX7_kindAt (σ 11) a) _
      rw [fX7_kindAt, mp_no h2, xb_some, if_neg nn_one]
      exact Ok_some ⟨rfz (σ 11) (1 : Int32), Ym_rf M _⟩
  · rw [← e552] at h2
    refine gI_qry (nn (w (192 + 6 * p))) ?_ ?_ Y NA ?_
    · rw [eX6_kindAt, ep_ok h1, xo_none, fp_ok h1, xb_some]
    · rw [fX6_kindAt, fp_ok h1, xb_some, if_pos (nn_in (by omega) (by omega)), nn_clamp (by omega), (Y.1.2.2.2.2.1.2 p hp).1]
    · show Ok (fX7_kindAt (σ 11) (nn p)) _
      rw [fX7_kindAt, mp_ok h2, xb_some, if_pos rfl, kp0, if_pos (nn_in (by omega) (by omega)), nn_clamp (by omega)]
      exact Ok_some ⟨M0.1 _ (by omega), rfz (σ 11) (0 : Int32), M0⟩
set_option maxRecDepth 16384 in
theorem s_45 {A : Nat} {σ : x_S} (Y : Sy A σ) (hA : A + 1300000 ≤ 700000000) (a a2 : Int32) : Ok (gL_45 σ a a2) (Sy (A + 1300000)) := by
  obtain ⟨w, n, S, t, K, l, x, Y, M, N⟩ := Y
  obtain ⟨B, F, ⟨hn, hS⟩, hK, hx, b1, b2, b3⟩ := id N
  have hm := F.1.2.2.1.2
  have NA := Yn_up N (show A ≤ A + 1300000 by omega) hA
  have NS := Yn_save N
  show Ok (gI (fL_guestAt σ a) (fun m => fX7_guestAt m a)) _
  unfold fL_guestAt
  have M0 := Ym_rf M (0 : Int32)
  have e552 := M.1 552 (by omega)
  rcases a_place (u := σ 0) Y.1.2.2.2.2.1.1 hm a with ⟨h1, h2⟩ | ⟨p, hp, rfl, h1, h2⟩
  · rw [← e552] at h2
    refine gI_exc (0 : Nat) 1 ?_ rfl (by omega) (by omega) Y NA ?_
    · rw [eX6_guestAt, ep_no h1]; rfl
    · show Ok (fX7_guestAt (σ 11) a) _
      rw [fX7_guestAt, mp_no h2, xb_some, if_neg nn_one]
      exact Ok_some ⟨rfz (σ 11) (1 : Int32), Ym_rf M _⟩
  · rw [← e552] at h2
    refine gI_qry (nn (w (192 + 6 * p + 1))) ?_ ?_ Y NA ?_
    · rw [eX6_guestAt, ep_ok h1, xo_none, fp_ok h1, xb_some]
    · rw [fX6_guestAt, fp_ok h1, xb_some, if_pos (nn_in (by omega) (by omega)), nn_clamp (by omega), (Y.1.2.2.2.2.1.2 p hp).2.1]
    · show Ok (fX7_guestAt (σ 11) (nn p)) _
      rw [fX7_guestAt, mp_ok h2, xb_some, if_pos rfl, kp1, if_pos (nn_in (by omega) (by omega)), nn_clamp (by omega)]
      exact Ok_some ⟨M0.1 _ (by omega), rfz (σ 11) (0 : Int32), M0⟩
set_option maxRecDepth 16384 in
theorem s_46 {A : Nat} {σ : x_S} (Y : Sy A σ) (hA : A + 1300000 ≤ 700000000) (a a2 : Int32) : Ok (gL_46 σ a a2) (Sy (A + 1300000)) := by
  obtain ⟨w, n, S, t, K, l, x, Y, M, N⟩ := Y
  obtain ⟨B, F, ⟨hn, hS⟩, hK, hx, b1, b2, b3⟩ := id N
  have hm := F.1.2.2.1.2
  have NA := Yn_up N (show A ≤ A + 1300000 by omega) hA
  have NS := Yn_save N
  show Ok (gI (fL_roomAt σ a) (fun m => fX7_roomAt m a)) _
  unfold fL_roomAt
  have M0 := Ym_rf M (0 : Int32)
  have e552 := M.1 552 (by omega)
  have ec : Int32.toNatClampNeg (552 : Int32) = 552 := rfl
  rcases a_place (u := σ 0) Y.1.2.2.2.2.1.1 hm a with ⟨h1, h2⟩ | ⟨p, hp, rfl, h1, h2⟩
  · rw [← e552] at h2
    refine gI_exc (0 : Nat) 1 ?_ rfl (by omega) (by omega) Y NA ?_
    · rw [eX6_roomAt, ep_no h1]; rfl
    · show Ok (fX7_roomAt (σ 11) a) _
      rw [fX7_roomAt, ec, h2, xb_some, if_pos rfl, fX7_roomAt_j48, rf1, xb_some, if_neg nn_one]
      exact Ok_some ⟨rfz (σ 11) (1 : Int32), Ym_rf M _⟩
  · rw [← e552] at h2
    have z := F.1.2.2.1.1 p hp
    have e21 := (Y.1.2.2.2.2.1.2 p hp).2.2.1
    have e6 : σ 11 41 (192 + 6 * p) = nn (w (192 + 6 * p)) := M.1 _ (by omega)
    by_cases c : w (192 + 6 * p) = 0
    · rw [if_pos c] at e21
      refine gI_exc (2 : Nat) 2 ?_ rfl (by omega) (by omega) Y NA ?_
      · rw [eX6_roomAt, ep_ok h1, xo_none, fp_ok h1, xb_some, if_pos (nn_in (by omega) (by omega)), nn_clamp (by omega), e21, if_pos (show mm 0 = (-1 : Int32) from rfl), er0, xo_some]
      · show Ok (fX7_roomAt (σ 11) (nn p)) _
        rw [fX7_roomAt, ec, h2, xb_some, if_neg nn_one, kp0, if_pos (nn_in (by omega) (by omega)), nn_clamp (by omega), e6, if_pos (show nn (w (192 + 6 * p)) = (0 : Int32) by rw [c]; rfl), fX7_roomAt_j48, rf2, xb_some, if_neg nn_one]
        exact Ok_some ⟨rfz (σ 11) (2 : Int32), Ym_rf M _⟩
    · rw [if_neg c, mm_succ] at e21
      have d : ¬ nn (w (192 + 6 * p + 2)) = (-1 : Int32) := fun e => (nn_neg (a := w (192 + 6 * p + 2)) (by omega)).mp (by rw [e]; decide)
      refine gI_qry (nn (w (192 + 6 * p + 2))) ?_ ?_ Y NA ?_
      · rw [eX6_roomAt, ep_ok h1, xo_none, fp_ok h1, xb_some, if_pos (nn_in (by omega) (by omega)), nn_clamp (by omega), e21, if_neg d, er1, xo_none, fr1, xb_some]
      · rw [fX6_roomAt, fp_ok h1, xb_some, if_pos (nn_in (by omega) (by omega)), nn_clamp (by omega), e21, if_neg d, fr1, xb_some]
      · show Ok (fX7_roomAt (σ 11) (nn p)) _
        rw [fX7_roomAt, ec, h2, xb_some, if_neg nn_one, kp0, if_pos (nn_in (by omega) (by omega)), nn_clamp (by omega), e6, if_neg (fun e => c ((nn_0 (by omega)).mp e)), fX7_roomAt_j48, rf0, xb_some, if_pos rfl, kp2, if_pos (nn_in (by omega) (by omega)), nn_clamp (by omega)]
        exact Ok_some ⟨M0.1 _ (by omega), rfz (σ 11) (0 : Int32), M0⟩
set_option maxRecDepth 16384 in
theorem s_48 {A : Nat} {σ : x_S} (Y : Sy A σ) (hA : A + 1300000 ≤ 700000000) (a a2 : Int32) : Ok (gL_48 σ a a2) (Sy (A + 1300000)) := by
  obtain ⟨w, n, S, t, K, l, x, Y, M, N⟩ := Y
  obtain ⟨B, F, ⟨hn, hS⟩, hK, hx, b1, b2, b3⟩ := id N
  have hm := F.1.2.2.1.2
  have NA := Yn_up N (show A ≤ A + 1300000 by omega) hA
  have NS := Yn_save N
  show Ok (gI (fL_sent σ a) (fun m => fX7_sent m a)) _
  unfold fL_sent
  have M0 := Ym_rf M (0 : Int32)
  have q1 : (nn 0).toInt64 = (0 : Int64) := by decide
  have q2 : (nn 6).toInt64 = (6 : Int64) := by decide
  rcases a_range (p := 0) (m := 6) (by omega) (by omega) a with ⟨h1, h2⟩ | ⟨g, g1, g2, rfl, h1, h2, h3⟩
  · have h1 : eX6_requireRange a (0 : Int32) (6 : Int32) = some 1 := h1
    rw [q1, q2] at h2
    refine gI_exc (1 : Nat) 1 ?_ rfl (by omega) (by omega) Y NA ?_
    · rw [eX6_sent, h1]; rfl
    · show Ok (fX7_sent (σ 11) a) _
      rw [fX7_sent, h2, xb_some, if_pos rfl, rf1, xb_some, if_neg nn_one]
      exact Ok_some ⟨rfz (σ 11) (1 : Int32), Ym_rf M _⟩
  · have h1 : eX6_requireRange (nn g) (0 : Int32) (6 : Int32) = none := h1
    have h2 : fX6_requireRange (nn g) (0 : Int32) (6 : Int32) = some () := h2
    rw [q1, q2] at h3
    refine gI_qry (nn (w (563 + g))) ?_ ?_ Y NA ?_
    · rw [eX6_sent, h1, xo_none, h2, xb_some]
    · rw [fX6_sent, h2, xb_some, if_pos (nn_in (by omega) (by omega)), nn_clamp (by omega), Y.1.2.2.2.2.2.2.2 g (by omega)]
    · show Ok (fX7_sent (σ 11) (nn g)) _
      rw [fX7_sent, h3, xb_some, if_neg nn_one, rf0, xb_some, if_pos rfl, show (563 : Int32) + nn g = nn (563 + g) from nn_add 563 g, if_pos (nn_in (by omega) (by omega)), nn_clamp (by omega)]
      exact Ok_some ⟨M0.1 _ (by omega), rfz (σ 11) (0 : Int32), M0⟩
