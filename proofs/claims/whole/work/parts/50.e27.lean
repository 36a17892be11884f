/-! ===== questions about guests ===== -/
set_option maxRecDepth 16384 in
theorem no3 {k : Nat} (h : k < 1000) (c : k ≠ 3) : ¬ nn k = (3 : Int32) := fun e => c ((nn_is 3 h (by omega)).mp e)
set_option maxRecDepth 16384 in
theorem eq_no {a : Int32} {f : Nat → Option Nat} {k : Option Nat} (h : fX6_isGuest a = some 0) (hf : f 0 = some 0) : x_or (eX6_requireGuest a) f k = some 0 := by rw [eg_no h, xo_some, hf]
set_option maxRecDepth 16384 in
theorem s_22 {A : Nat} {σ : x_S} (Y : Sy A σ) (hA : A + 1300000 ≤ 700000000) (a a2 : Int32) : Ok (gL_22 σ a a2) (Sy (A + 1300000)) := by
  obtain ⟨w, n, S, t, K, l, x, Y, M, N⟩ := Y
  obtain ⟨B, F, ⟨hn, hS⟩, hK, hx, b1, b2, b3⟩ := id N
  have hm := F.1.2.2.1.2
  have NA := Yn_up N (show A ≤ A + 1300000 by omega) hA
  have NS := Yn_save N
  show Ok (gI (fL_doingOf σ a) (fun m => fX7_doingOf m a)) _
  unfold fL_doingOf
  have M0 := Ym_rf M (0 : Int32)
  rcases a_guest a with ⟨h1, h2⟩ | ⟨g, hg, rfl⟩
  · refine gI_exc (0 : Nat) 1 ?_ rfl (by omega) (by omega) Y NA ?_
    · rw [eX6_doingOf, eg_no h1]; rfl
    · show Ok (fX7_doingOf (σ 11) a) _
      rw [fX7_doingOf, mg_no h2, xb_some, if_neg nn_one]
      exact Ok_some ⟨rfz (σ 11) (1 : Int32), Ym_rf M _⟩
  · have e5 := g_doing Y.1 hg
    refine gI_qry (nn (w (8 * g))) ?_ ?_ Y NA ?_
    · rw [eX6_doingOf, eg_ok hg, xo_none, fg_ok hg, xb_some]
    · rw [fX6_doingOf, fg_ok hg, xb_some, if_pos (nn_in (by omega) hg), e5]
    · show Ok (fX7_doingOf (σ 11) (nn g)) _
      rw [fX7_doingOf, mg_ok hg, xb_some, if_pos rfl, v_doing M0.1 hg, xb_some]
      exact Ok_some ⟨rfl, rfz (σ 11) (0 : Int32), M0⟩
set_option maxRecDepth 16384 in
theorem s_23 {A : Nat} {σ : x_S} (Y : Sy A σ) (hA : A + 1300000 ≤ 700000000) (a a2 : Int32) : Ok (gL_23 σ a a2) (Sy (A + 1300000)) := by
  obtain ⟨w, n, S, t, K, l, x, Y, M, N⟩ := Y
  obtain ⟨B, F, ⟨hn, hS⟩, hK, hx, b1, b2, b3⟩ := id N
  have hm := F.1.2.2.1.2
  have NA := Yn_up N (show A ≤ A + 1300000 by omega) hA
  have NS := Yn_save N
  show Ok (gI (fL_roomOf σ a) (fun m => fX7_roomOf m a)) _
  unfold fL_roomOf
  have M0 := Ym_rf M (0 : Int32)
  rcases a_guest a with ⟨h1, h2⟩ | ⟨g, hg, rfl⟩
  · refine gI_exc (0 : Nat) 1 ?_ rfl (by omega) (by omega) Y NA ?_
    · rw [eX6_roomOf, eg_no h1]; rfl
    · show Ok (fX7_roomOf (σ 11) a) _
      rw [fX7_roomOf, h2, xb_some, if_pos rfl, fX7_roomOf_j31, rf1, xb_some, if_neg nn_one]
      exact Ok_some ⟨rfz (σ 11) (1 : Int32), Ym_rf M _⟩
  · have z := F.1.1 g hg
    have e6 : σ 0 6 (Int32.toNatClampNeg (nn g)) = mm (if 2 ≤ w (8 * g) then w (8 * g + 1) + 1 else 0) := by rw [nn_clamp (by omega)]; exact (Y.1.1 g hg).2.1
    by_cases c : 2 ≤ w (8 * g)
    · rw [if_pos c, mm_succ] at e6
      have d : ¬ nn (w (8 * g + 1)) = (-1 : Int32) := fun e => (nn_neg (a := w (8 * g + 1)) (by omega)).mp (by rw [e]; decide)
      refine gI_qry (nn (w (8 * g + 1))) ?_ ?_ Y NA ?_
      · rw [eX6_roomOf, eg_ok hg, xo_none, fg_ok hg, xb_some, if_pos (nn_in (by omega) hg), e6, if_neg d, er1, xo_none, fr1, xb_some]
      · rw [fX6_roomOf, fg_ok hg, xb_some, if_pos (nn_in (by omega) hg), e6, if_neg d, fr1, xb_some]
      · show Ok (fX7_roomOf (σ 11) (nn g)) _
        have ek : (8 : Int32) * nn g + 1 = nn (8 * g + 1) := by (try simp (disch := omega) only [nn_add, nn_mul, nn_clamp, nn_in1, nn_inj, nn_lt, nn_le, nn_neg, nu_eq1, nu_ne1, nn_nb0, nn_true, nn_false, if_true, if_false, x_let_n, x_let_m, xb_some, eq_self, ite_true, ite_false, not_false_eq_true, not_true_eq_false, nneg1, nl0, nl1, nl2, nl3, nl4, nl5, nl6, nl7, nl8, nl9, nl10, nl11, nl12, nl15, nl16, nl60, nl96, nl192, nl552, nl553, nl554, nl555, nl556, nl557, nl558, nl559, nl560, nl561, nl562, nl563, nl570])
        rw [fX7_roomOf, v_isGuest hg, xb_some, if_neg nn_one, v_doing M.1 hg, xb_some, if_pos (show (2 : Int32) ≤ nn (w (8 * g)) from (nn_le (a := 2) (by omega) (by omega)).mpr c), fX7_roomOf_j31, rf0, xb_some, if_pos rfl, ek, if_pos (nn_in (by omega) (by omega)), nn_clamp (by omega)]
        exact Ok_some ⟨M0.1 _ (by omega), rfz (σ 11) (0 : Int32), M0⟩
    · rw [if_neg c] at e6
      refine gI_exc (2 : Nat) 2 ?_ rfl (by omega) (by omega) Y NA ?_
      · rw [eX6_roomOf, eg_ok hg, xo_none, fg_ok hg, xb_some, if_pos (nn_in (by omega) hg), e6, if_pos (show mm 0 = (-1 : Int32) from rfl), er0, xo_some]
      · show Ok (fX7_roomOf (σ 11) (nn g)) _
        rw [fX7_roomOf, v_isGuest hg, xb_some, if_neg nn_one, v_doing M.1 hg, xb_some, if_neg (show ¬ (2 : Int32) ≤ nn (w (8 * g)) from fun h => c ((nn_le (a := 2) (by omega) (by omega)).mp h)), fX7_roomOf_j31, rf2, xb_some, if_neg nn_one]
        exact Ok_some ⟨rfz (σ 11) (2 : Int32), Ym_rf M _⟩
set_option maxRecDepth 16384 in
theorem v_leftTo {u : x_H} {w : Nat → Nat} {B : Nat} (R : Rv (u 41) w) (F : Wf B w) {g : Nat} (hg : g < 12) (h3 : w (8 * g) = 3) : fX7_leftTo u (nn g) = some (nn (w (8 * g + 2) + w (8 * g + 3) - w 554)) := by
  have X := F.2.1.1 g hg h3
  have b0 := F.2.2.1
  have b1 := F.2.2.2 (8 * g + 2)
  have ek2 : (8 : Int32) * nn g + 2 = nn (8 * g + 2) := by (try simp (disch := omega) only [nn_add, nn_mul, nn_clamp, nn_in1, nn_inj, nn_lt, nn_le, nn_neg, nu_eq1, nu_ne1, nn_nb0, nn_true, nn_false, if_true, if_false, x_let_n, x_let_m, xb_some, eq_self, ite_true, ite_false, not_false_eq_true, not_true_eq_false, nneg1, nl0, nl1, nl2, nl3, nl4, nl5, nl6, nl7, nl8, nl9, nl10, nl11, nl12, nl15, nl16, nl60, nl96, nl192, nl552, nl553, nl554, nl555, nl556, nl557, nl558, nl559, nl560, nl561, nl562, nl563, nl570])
  have ek3 : (8 : Int32) * nn g + 3 = nn (8 * g + 3) := by (try simp (disch := omega) only [nn_add, nn_mul, nn_clamp, nn_in1, nn_inj, nn_lt, nn_le, nn_neg, nu_eq1, nu_ne1, nn_nb0, nn_true, nn_false, if_true, if_false, x_let_n, x_let_m, xb_some, eq_self, ite_true, ite_false, not_false_eq_true, not_true_eq_false, nneg1, nl0, nl1, nl2, nl3, nl4, nl5, nl6, nl7, nl8, nl9, nl10, nl11, nl12, nl15, nl16, nl60, nl96, nl192, nl552, nl553, nl554, nl555, nl556, nl557, nl558, nl559, nl560, nl561, nl562, nl563, nl570])
  rw [fX7_leftTo, ek2, ek3, if_pos (nn_in (by omega) (by omega)), if_pos (nn_in (by omega) (by omega)), nn_clamp (by omega), nn_clamp (by omega), R _ (by omega), R _ (by omega), show u 41 (Int32.toNatClampNeg (554 : Int32)) = nn (w 554) from R 554 (by omega), nn_add, nn_sub (by omega)]
set_option maxRecDepth 16384 in
theorem s_24 {A : Nat} {σ : x_S} (Y : Sy A σ) (hA : A + 1300000 ≤ 700000000) (a a2 : Int32) : Ok (gL_24 σ a a2) (Sy (A + 1300000)) := by
  obtain ⟨w, n, S, t, K, l, x, Y, M, N⟩ := Y
  obtain ⟨B, F, ⟨hn, hS⟩, hK, hx, b1, b2, b3⟩ := id N
  have hm := F.1.2.2.1.2
  have NA := Yn_up N (show A ≤ A + 1300000 by omega) hA
  have NS := Yn_save N
  show Ok (gI (fL_ticksLeft σ a) (fun m => fX7_ticksLeft m a)) _
  unfold fL_ticksLeft
  have M0 := Ym_rf M (0 : Int32)
  rcases a_guest a with ⟨h1, h2⟩ | ⟨g, hg, rfl⟩
  · refine gI_exc (0 : Nat) 1 ?_ rfl (by omega) (by omega) Y NA ?_
    · rw [eX6_ticksLeft, eg_no h1]; rfl
    · show Ok (fX7_ticksLeft (σ 11) a) _
      rw [fX7_ticksLeft, mh_no h2, xb_some, if_neg nn_one]
      exact Ok_some ⟨rfz (σ 11) (1 : Int32), Ym_rf M _⟩
  · have z := F.1.1 g hg
    have e5 := g_doing Y.1 hg
    have et : σ 0 0 0 = nn (w 554) := Y.1.2.2.2.2.2.1.1
    by_cases c : w (8 * g) = 3
    · have e6 := u_ticksUntilEnd Y.1 (show Wm B w from ⟨F.1, F.2.2⟩) hg
      rw [if_pos c] at e6
      rw [c] at e5
      refine gI_qry (nn (w (8 * g + 2) + w (8 * g + 3) - w 554)) ?_ ?_ Y NA ?_
      · rw [eX6_ticksLeft, eg_ok hg, xo_none, fg_ok hg, xb_some, if_pos (nn_in (by omega) hg), e5, if_pos (show nn 3 = (3 : Int32) from rfl), er1, xo_none, fr1, xb_some]
      · rw [fX6_ticksLeft, fg_ok hg, xb_some, if_pos (nn_in (by omega) hg), e5, if_pos (show nn 3 = (3 : Int32) from rfl), fr1, xb_some, et, e6, xb_some]
      · show Ok (fX7_ticksLeft (σ 11) (nn g)) _
        rw [fX7_ticksLeft, mh_ok M.1 F.1 hg, if_pos c, xb_some, if_pos rfl, v_leftTo M0.1 F hg c, xb_some]
        exact Ok_some ⟨rfl, rfz (σ 11) (0 : Int32), M0⟩
    · have d := no3 (k := w (8 * g)) (by omega) c
      refine gI_exc (2 : Nat) 2 ?_ rfl (by omega) (by omega) Y NA ?_
      · rw [eX6_ticksLeft, eg_ok hg, xo_none, fg_ok hg, xb_some, if_pos (nn_in (by omega) hg), e5, if_neg d, er0, xo_some]
      · show Ok (fX7_ticksLeft (σ 11) (nn g)) _
        rw [fX7_ticksLeft, mh_ok M.1 F.1 hg, if_neg c, xb_some, if_neg nn_one]
        exact Ok_some ⟨rfz (σ 11) (2 : Int32), Ym_rf M _⟩
/- in how many ticks a guest asks -/
def n_ask (w : Nat → Nat) (g : Nat) : Nat := if w 554 - w (8 * g + 2) < w (8 * g + 3) / 2 then w (8 * g + 3) / 2 - (w 554 - w (8 * g + 2)) else 7 * w (8 * g + 3) / 8 - (w 554 - w (8 * g + 2))
set_option maxRecDepth 16384 in
theorem u_ask {B : Nat} {u : x_H} {w : Nat → Nat} (R : Ru u w) (F : Wm B w) {g : Nat} (hg : g < 12) : fX1_ticksUntilAsking u (nn g) (nn (w 554)) = some (nn (if w (8 * g) = 3 then n_ask w g else 0)) := by
  have z := F.1.1 g hg
  have b0 := F.2.1
  have b1 := F.2.2 554
  rw [fX1_ticksUntilAsking, u_isGuest hg, xb_some, if_neg nn_one, if_pos (nn_in (by omega) hg), g_doing R hg]
  by_cases c : w (8 * g) = 3
  · rw [if_pos (show nn (w (8 * g)) = (3 : Int32) by rw [c]; rfl), if_pos c, nn_clamp (by omega), (R.1 g hg).2.2.2.2.1, nn_sub (by omega), x_let_n, u_early R F hg, xb_some, n_ask]
    by_cases d : w 554 - w (8 * g + 2) < w (8 * g + 3) / 2
    · rw [if_neg (fun h => by have := (nn_le (by omega) (by omega)).mp h; omega), if_pos d, nn_max0 (by omega) (by omega)]
    · rw [if_pos ((nn_le (by omega) (by omega)).mpr (by omega)), if_neg d, u_late R F hg, xb_some, nn_max0 (by omega) (by omega)]
  · rw [if_neg (no3 (by omega) c), if_neg c]; rfl
set_option maxRecDepth 16384 in
theorem nn_sub_le {a c : Nat} (ha : a < 1073741824) (hc : c < 1073741824) : (nn a - nn c ≤ (0 : Int32)) ↔ a ≤ c := by
  rw [Int32.le_iff_toInt_le, nn_subInt ha hc, show (0 : Int32).toInt = 0 from rfl]; omega
set_option maxRecDepth 16384 in
theorem v_ask {u : x_H} {w : Nat → Nat} {B : Nat} (R : Rv (u 41) w) (F : Wm B w) {g : Nat} (hg : g < 12) : fX7_askIn u (nn g) = some (nn (n_ask w g)) := by
  have z := F.1.1 g hg
  have b0 := F.2.1
  have b1 := F.2.2 554
  have ek2 : (8 : Int32) * nn g + 2 = nn (8 * g + 2) := by (try simp (disch := omega) only [nn_add, nn_mul, nn_clamp, nn_in1, nn_inj, nn_lt, nn_le, nn_neg, nu_eq1, nu_ne1, nn_nb0, nn_true, nn_false, if_true, if_false, x_let_n, x_let_m, xb_some, eq_self, ite_true, ite_false, not_false_eq_true, not_true_eq_false, nneg1, nl0, nl1, nl2, nl3, nl4, nl5, nl6, nl7, nl8, nl9, nl10, nl11, nl12, nl15, nl16, nl60, nl96, nl192, nl552, nl553, nl554, nl555, nl556, nl557, nl558, nl559, nl560, nl561, nl562, nl563, nl570])
  have ek3 : (8 : Int32) * nn g + 3 = nn (8 * g + 3) := by (try simp (disch := omega) only [nn_add, nn_mul, nn_clamp, nn_in1, nn_inj, nn_lt, nn_le, nn_neg, nu_eq1, nu_ne1, nn_nb0, nn_true, nn_false, if_true, if_false, x_let_n, x_let_m, xb_some, eq_self, ite_true, ite_false, not_false_eq_true, not_true_eq_false, nneg1, nl0, nl1, nl2, nl3, nl4, nl5, nl6, nl7, nl8, nl9, nl10, nl11, nl12, nl15, nl16, nl60, nl96, nl192, nl552, nl553, nl554, nl555, nl556, nl557, nl558, nl559, nl560, nl561, nl562, nl563, nl570])
  have d1 : nn (w (8 * g + 3)) / (2 : Int32) = nn (w (8 * g + 3) / 2) := nn_div (b := 2) (by omega) (by omega) (by omega)
  have d2 : (7 : Int32) * nn (w (8 * g + 3)) / (8 : Int32) = nn (7 * w (8 * g + 3) / 8) := by
    rw [show (7 : Int32) * nn (w (8 * g + 3)) = nn (7 * w (8 * g + 3)) from nn_mul 7 _]
    exact nn_div (b := 8) (by omega) (by omega) (by omega)
  rw [fX7_askIn, ek2, ek3, show u 41 (Int32.toNatClampNeg (554 : Int32)) = nn (w 554) from R 554 (by omega), if_pos (nn_in (by omega) (by omega)), nn_clamp (by omega), R (8 * g + 3) (by omega), x_let_n, if_pos (nn_in (by omega) (by omega)), nn_clamp (by omega), R (8 * g + 2) (by omega), nn_sub (by omega), x_let_n, d1, d2]
  show (if nn (w (8 * g + 3) / 2) - nn (w 554 - w (8 * g + 2)) ≤ 0 then (if nn (7 * w (8 * g + 3) / 8) - nn (w 554 - w (8 * g + 2)) ≤ 0 then some (0 : Int32) else some (nn (7 * w (8 * g + 3) / 8) - nn (w 554 - w (8 * g + 2)))) else some (nn (w (8 * g + 3) / 2) - nn (w 554 - w (8 * g + 2)))) = _
  rw [n_ask]
  by_cases c : w 554 - w (8 * g + 2) < w (8 * g + 3) / 2
  · rw [if_neg (fun h => by have := (nn_sub_le (by omega) (by omega)).mp h; omega), if_pos c, nn_sub (by omega)]
  · rw [if_pos ((nn_sub_le (by omega) (by omega)).mpr (by omega)), if_neg c]
    by_cases d : 7 * w (8 * g + 3) / 8 ≤ w 554 - w (8 * g + 2)
    · rw [if_pos ((nn_sub_le (by omega) (by omega)).mpr d), show 7 * w (8 * g + 3) / 8 - (w 554 - w (8 * g + 2)) = 0 by omega]; rfl
    · rw [if_neg (fun h => d ((nn_sub_le (by omega) (by omega)).mp h)), nn_sub (by omega)]
set_option maxRecDepth 16384 in
theorem s_25 {A : Nat} {σ : x_S} (Y : Sy A σ) (hA : A + 1300000 ≤ 700000000) (a a2 : Int32) : Ok (gL_25 σ a a2) (Sy (A + 1300000)) := by
  obtain ⟨w, n, S, t, K, l, x, Y, M, N⟩ := Y
  obtain ⟨B, F, ⟨hn, hS⟩, hK, hx, b1, b2, b3⟩ := id N
  have hm := F.1.2.2.1.2
  have NA := Yn_up N (show A ≤ A + 1300000 by omega) hA
  have NS := Yn_save N
  show Ok (gI (fL_ticksToRenewal σ a) (fun m => fX7_ticksToRenewal m a)) _
  unfold fL_ticksToRenewal
  have M0 := Ym_rf M (0 : Int32)
  have FM : Wm B w := ⟨F.1, F.2.2⟩
  have b0 := F.2.2.1
  rcases a_guest a with ⟨h1, h2⟩ | ⟨g, hg, rfl⟩
  · refine gI_exc (0 : Nat) 1 ?_ rfl (by omega) (by omega) Y NA ?_
    · rw [eX6_ticksToRenewal, eg_no h1]; rfl
    · show Ok (fX7_ticksToRenewal (σ 11) a) _
      rw [fX7_ticksToRenewal, h2, xb_some, if_pos rfl, rf1, xb_some, if_neg nn_one]
      exact Ok_some ⟨rfz (σ 11) (1 : Int32), Ym_rf M _⟩
  · have z := F.1.1 g hg
    have et : σ 0 0 0 = nn (w 554) := Y.1.2.2.2.2.2.1.1
    have e6 := u_ask Y.1 FM hg
    have hq : n_ask w g ≤ 1000 := by unfold n_ask; split <;> omega
    by_cases c : w (8 * g) = 3 ∧ n_ask w g ≠ 0
    · rw [if_pos c.1] at e6
      have d : ¬ nn (n_ask w g) ≤ (0 : Int32) := fun h => by have := (nn_le (b := 0) (by omega) (by omega)).mp h; omega
      refine gI_qry (nn (n_ask w g)) ?_ ?_ Y NA ?_
      · rw [eX6_ticksToRenewal, eg_ok hg, xo_none, fg_ok hg, xb_some, et, e6, xb_some, if_neg d, er1, xo_none, fr1, xb_some]
      · rw [fX6_ticksToRenewal, fg_ok hg, xb_some, et, e6, xb_some, if_neg d, fr1, xb_some]
      · show Ok (fX7_ticksToRenewal (σ 11) (nn g)) _
        rw [fX7_ticksToRenewal, v_isGuest hg, xb_some, if_neg nn_one, v_doing M.1 hg, xb_some, if_pos (show nn (w (8 * g)) = (3 : Int32) by rw [c.1]; rfl), v_ask M.1 FM hg, xb_some, if_neg (fun h => c.2 ((nn_0 (by omega)).mp h)), rf0, xb_some, if_pos rfl, v_ask M0.1 FM hg, xb_some]
        exact Ok_some ⟨rfl, rfz (σ 11) (0 : Int32), M0⟩
    · have e7 : (if w (8 * g) = 3 then n_ask w g else 0) = 0 := by
        by_cases c1 : w (8 * g) = 3
        · rw [if_pos c1]; exact Decidable.byContradiction (fun h => c ⟨c1, h⟩)
        · rw [if_neg c1]
      rw [e7] at e6
      refine gI_exc (2 : Nat) 2 ?_ rfl (by omega) (by omega) Y NA ?_
      · rw [eX6_ticksToRenewal, eg_ok hg, xo_none, fg_ok hg, xb_some, et, e6, xb_some, if_pos (show nn 0 ≤ (0 : Int32) by decide), er0, xo_some]
      · show Ok (fX7_ticksToRenewal (σ 11) (nn g)) _
        rw [fX7_ticksToRenewal, v_isGuest hg, xb_some, if_neg nn_one, v_doing M.1 hg, xb_some]
        by_cases c1 : w (8 * g) = 3
        · rw [if_pos c1] at e7
          rw [if_pos (show nn (w (8 * g)) = (3 : Int32) by rw [c1]; rfl), v_ask M.1 FM hg, xb_some, if_pos (show nn (n_ask w g) = (0 : Int32) by rw [e7]; rfl), rf2, xb_some, if_neg nn_one]
          exact Ok_some ⟨rfz (σ 11) (2 : Int32), Ym_rf M _⟩
        · rw [if_neg (no3 (by omega) c1), rf2, xb_some, if_neg nn_one]
          exact Ok_some ⟨rfz (σ 11) (2 : Int32), Ym_rf M _⟩
set_option maxRecDepth 16384 in
theorem vpb {c : Prop} [Decidable c] : vp_nar .boolean (nn (if c then 1 else 0)) = nn (if c then 1 else 0) := by
  split
  · exact vpb1
  · exact vpb0
set_option maxRecDepth 16384 in
theorem nb_z {c : Prop} [Decidable c] {β : Type} (p q : β) : (if nn (if c then 1 else 0) = (0 : Int32) then p else q) = if c then q else p := by
  by_cases h : c
  · rw [if_pos h, if_pos h, if_neg (show ¬ nn 1 = (0 : Int32) from nn_one)]
  · rw [if_neg h, if_neg h, if_pos (show nn 0 = (0 : Int32) from rfl)]
abbrev n_hnt (w : Nat → Nat) (g : Nat) : Prop := w (8 * g) = 3 ∧ w (96 + 6 * w (8 * g + 1) + 5) = 1
set_option maxRecDepth 16384 in
theorem u_hnt {u : x_H} {w : Nat → Nat} (R : Ru u w) (Z : Wz w) {g : Nat} (hg : g < 12) : fX2_sleepsByGhost u (nn g) = some (nn (if n_hnt w g then 1 else 0)) := by
  have z := Z.1 g hg
  rw [fX2_sleepsByGhost, u_isGuest hg, xb_some, if_neg nn_one, if_pos (nn_in (by omega) hg), g_doing R hg]
  by_cases c : w (8 * g) = 3
  · rw [if_pos (show nn (w (8 * g)) = (3 : Int32) by rw [c]; rfl), nn_clamp (by omega), (R.1 g hg).2.1, if_pos (by omega), mm_succ, u_ghostIn R z.2.1, xb_some, nb_z]
    by_cases d : w (96 + 6 * w (8 * g + 1) + 5) = 1
    · rw [if_pos d, if_pos (show n_hnt w g from ⟨c, d⟩)]; rfl
    · rw [if_neg d, if_neg (show ¬ n_hnt w g from fun h => d h.2)]; rfl
  · rw [if_neg (no3 (by omega) c), if_neg (show ¬ n_hnt w g from fun h => c h.1)]; rfl
set_option maxRecDepth 16384 in
theorem v_hnt {u : x_H} {w : Nat → Nat} (R : Rv (u 41) w) (Z : Wz w) {g : Nat} (hg : g < 12) : fX7_haunted u (nn g) = some (nn (if n_hnt w g then 1 else 0)) := by
  have z := Z.1 g hg
  have zr := Z.2.1.1 _ z.2.1
  have ek : (8 : Int32) * nn g + 1 = nn (8 * g + 1) := by (try simp (disch := omega) only [nn_add, nn_mul, nn_clamp, nn_in1, nn_inj, nn_lt, nn_le, nn_neg, nu_eq1, nu_ne1, nn_nb0, nn_true, nn_false, if_true, if_false, x_let_n, x_let_m, xb_some, eq_self, ite_true, ite_false, not_false_eq_true, not_true_eq_false, nneg1, nl0, nl1, nl2, nl3, nl4, nl5, nl6, nl7, nl8, nl9, nl10, nl11, nl12, nl15, nl16, nl60, nl96, nl192, nl552, nl553, nl554, nl555, nl556, nl557, nl558, nl559, nl560, nl561, nl562, nl563, nl570])
  rw [fX7_haunted, v_doing R hg, xb_some]
  by_cases c : w (8 * g) = 3
  · rw [if_pos (show nn (w (8 * g)) = (3 : Int32) by rw [c]; rfl), ek, if_pos (nn_in (by omega) (by omega)), nn_clamp (by omega), R _ (by omega), kx5, if_pos (nn_in (by omega) (by omega)), nn_clamp (by omega), R _ (by omega)]
    by_cases d : w (96 + 6 * w (8 * g + 1) + 5) = 1
    · rw [if_pos (show nn (w (96 + 6 * w (8 * g + 1) + 5)) = (1 : Int32) by rw [d]; rfl), if_pos (show n_hnt w g from ⟨c, d⟩)]; rfl
    · rw [if_neg (show ¬ nn (w (96 + 6 * w (8 * g + 1) + 5)) = (1 : Int32) from fun e => d ((nn_is 1 (by omega) (by omega)).mp e)), if_neg (show ¬ n_hnt w g from fun h => d h.2)]; rfl
  · rw [if_neg (no3 (by omega) c), if_neg (show ¬ n_hnt w g from fun h => c h.1)]; rfl
set_option maxRecDepth 16384 in
theorem s_26 {A : Nat} {σ : x_S} (Y : Sy A σ) (hA : A + 1300000 ≤ 700000000) (a a2 : Int32) : Ok (gL_26 σ a a2) (Sy (A + 1300000)) := by
  obtain ⟨w, n, S, t, K, l, x, Y, M, N⟩ := Y
  obtain ⟨B, F, ⟨hn, hS⟩, hK, hx, b1, b2, b3⟩ := id N
  have hm := F.1.2.2.1.2
  have NA := Yn_up N (show A ≤ A + 1300000 by omega) hA
  have NS := Yn_save N
  show Ok (gB (fL_isHaunted σ a) (fun m => fX7_isHaunted m a)) _
  unfold fL_isHaunted
  have M0 := Ym_rf M (0 : Int32)
  rcases a_guest a with ⟨h1, h2⟩ | ⟨g, hg, rfl⟩
  · refine gB_exc (0 : Nat) 1 ?_ rfl (by omega) (by omega) Y NA ?_
    · rw [eX6_isHaunted, eg_no h1]; rfl
    · show Ok (fX7_isHaunted (σ 11) a) _
      rw [fX7_isHaunted, mg_no h2, xb_some, if_neg nn_one]
      exact Ok_some ⟨rfz (σ 11) (1 : Int32), Ym_rf M _⟩
  · refine gB_qry (n_hnt w g) ?_ ?_ Y NA ?_
    · rw [eX6_isHaunted, eg_ok hg, xo_none, fg_ok hg, xb_some]
    · rw [fX6_isHaunted, fg_ok hg, xb_some, u_hnt Y.1 F.1 hg, xb_some, if_pos vpb]
    · show Ok (fX7_isHaunted (σ 11) (nn g)) _
      rw [fX7_isHaunted, mg_ok hg, xb_some, if_pos rfl, v_hnt M0.1 F.1 hg, xb_some, nb_z]
      by_cases c : n_hnt w g
      · rw [if_pos c, if_pos c]; exact Ok_some ⟨rfl, rfz (σ 11) (0 : Int32), M0⟩
      · rw [if_neg c, if_neg c]; exact Ok_some ⟨rfl, rfz (σ 11) (0 : Int32), M0⟩
set_option maxRecDepth 16384 in
theorem s_27 {A : Nat} {σ : x_S} (Y : Sy A σ) (hA : A + 1300000 ≤ 700000000) (a a2 : Int32) : Ok (gL_27 σ a a2) (Sy (A + 1300000)) := by
  obtain ⟨w, n, S, t, K, l, x, Y, M, N⟩ := Y
  obtain ⟨B, F, ⟨hn, hS⟩, hK, hx, b1, b2, b3⟩ := id N
  have hm := F.1.2.2.1.2
  have NA := Yn_up N (show A ≤ A + 1300000 by omega) hA
  have NS := Yn_save N
  show Ok (gI (fL_staysOf σ a) (fun m => fX7_staysOf m a)) _
  unfold fL_staysOf
  have M0 := Ym_rf M (0 : Int32)
  rcases a_guest a with ⟨h1, h2⟩ | ⟨g, hg, rfl⟩
  · refine gI_exc (0 : Nat) 1 ?_ rfl (by omega) (by omega) Y NA ?_
    · rw [eX6_staysOf, eg_no h1]; rfl
    · show Ok (fX7_staysOf (σ 11) a) _
      rw [fX7_staysOf, mg_no h2, xb_some, if_neg nn_one]
      exact Ok_some ⟨rfz (σ 11) (1 : Int32), Ym_rf M _⟩
  · refine gI_qry (nn (w (8 * g + 6))) ?_ ?_ Y NA ?_
    · rw [eX6_staysOf, eg_ok hg, xo_none, fg_ok hg, xb_some]
    · rw [fX6_staysOf, fg_ok hg, xb_some, if_pos (nn_in (by omega) hg), nn_clamp (by omega), (Y.1.1 g hg).2.2.2.2.2.2.1]
    · show Ok (fX7_staysOf (σ 11) (nn g)) _
      have ek : (8 : Int32) * nn g + 6 = nn (8 * g + 6) := by (try simp (disch := omega) only [nn_add, nn_mul, nn_clamp, nn_in1, nn_inj, nn_lt, nn_le, nn_neg, nu_eq1, nu_ne1, nn_nb0, nn_true, nn_false, if_true, if_false, x_let_n, x_let_m, xb_some, eq_self, ite_true, ite_false, not_false_eq_true, not_true_eq_false, nneg1, nl0, nl1, nl2, nl3, nl4, nl5, nl6, nl7, nl8, nl9, nl10, nl11, nl12, nl15, nl16, nl60, nl96, nl192, nl552, nl553, nl554, nl555, nl556, nl557, nl558, nl559, nl560, nl561, nl562, nl563, nl570])
      rw [fX7_staysOf, mg_ok hg, xb_some, if_pos rfl, ek, if_pos (nn_in (by omega) (by omega)), nn_clamp (by omega)]
      exact Ok_some ⟨M0.1 _ (by omega), rfz (σ 11) (0 : Int32), M0⟩
