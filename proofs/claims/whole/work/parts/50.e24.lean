/-! ===== reservations, ghosts ===== -/
set_option maxRecDepth 16384 in
theorem Wz_k {w : Nat → Nat} (Z : Wz w) {r y : Nat} (hr : r < 16) (hy : y ≤ 12) (hu : y ≠ 0 → ∀ r', r' < 16 → r' ≠ r → w (96 + 6 * r' + 4) ≠ y) : Wz (nu w (96 + 6 * r + 4) y) := by
  obtain ⟨zg, ⟨zr1, zr2, zr3⟩, ⟨zm1, hm⟩, zn⟩ := Z
  have E : ∀ i, (i < 96 ∨ 192 ≤ i) → nu w (96 + 6 * r + 4) y i = w i := fun i hi => nu_ne1 (by omega)
  have F : ∀ r' j, j < 6 → j ≠ 4 → nu w (96 + 6 * r + 4) y (96 + 6 * r' + j) = w (96 + 6 * r' + j) := fun r' j h1 h2 => nu_ne1 (by omega)
  have F0 : ∀ r', nu w (96 + 6 * r + 4) y (96 + 6 * r') = w (96 + 6 * r') := fun r' => F r' 0 (by omega) (by omega)
  have F4 : ∀ r', nu w (96 + 6 * r + 4) y (96 + 6 * r' + 4) = if r' = r then y else w (96 + 6 * r' + 4) := fun r' => by
    by_cases c : r' = r
    · rw [if_pos c, nu_eq1 (by omega)]
    · rw [if_neg c, nu_ne1 (by omega)]
  refine ⟨fun g' hg' => ?_, ⟨fun r' hr' => ?_, fun r1 r2 h1 h2 => ?_, fun r1 r2 h1 h2 => ?_⟩, ⟨fun p hp => ?_, ?_⟩, ?_⟩
  · rw [E _ (by omega), E _ (by omega), E _ (by omega), E _ (by omega), E _ (by omega), E _ (by omega), E _ (by omega), E _ (by omega), E _ (by omega)]
    exact zg g' hg'
  · rw [F0, F r' 1 (by omega) (by omega), F r' 2 (by omega) (by omega), F r' 3 (by omega) (by omega), F4, F r' 5 (by omega) (by omega), E 553 (by omega), E 554 (by omega)]
    have := zr1 r' hr'
    refine ⟨this.1, this.2.1, this.2.2.1, this.2.2.2.1, ?_, this.2.2.2.2.2⟩
    by_cases c : r' = r
    · rw [if_pos c]; exact hy
    · rw [if_neg c]; exact this.2.2.2.2.1
  · rw [F4, F4]
    by_cases c1 : r1 = r
    · by_cases c2 : r2 = r
      · intro _ _; omega
      · rw [if_pos c1, if_neg c2]
        intro q1 q2
        exact absurd q2.symm (hu q1 r2 h2 c2)
    · by_cases c2 : r2 = r
      · rw [if_neg c1, if_pos c2]
        intro q1 q2
        exact absurd q2 (hu (by omega) r1 h1 c1)
      · rw [if_neg c1, if_neg c2]
        exact zr2 r1 r2 h1 h2
  · rw [F0, F0, F r1 2 (by omega) (by omega), F r2 2 (by omega) (by omega)]
    exact zr3 r1 r2 h1 h2
  · rw [E 552 (by omega)] at hp
    rw [E _ (by omega), E _ (by omega), E _ (by omega), E _ (by omega), E _ (by omega), E _ (by omega), E _ (by omega)]
    exact zm1 p hp
  · rw [E _ (by omega)]; exact hm
  · unfold WzN
    rw [E _ (by omega), E _ (by omega), E _ (by omega)]
    exact zn
set_option maxRecDepth 16384 in
theorem Wz_h {w : Nat → Nat} (Z : Wz w) {r y : Nat} (hr : r < 16) (hy : y ≤ 1) : Wz (nu w (96 + 6 * r + 5) y) := by
  obtain ⟨zg, ⟨zr1, zr2, zr3⟩, ⟨zm1, hm⟩, zn⟩ := Z
  have E : ∀ i, (i < 96 ∨ 192 ≤ i) → nu w (96 + 6 * r + 5) y i = w i := fun i hi => nu_ne1 (by omega)
  have F : ∀ r' j, j < 6 → j ≠ 5 → nu w (96 + 6 * r + 5) y (96 + 6 * r' + j) = w (96 + 6 * r' + j) := fun r' j h1 h2 => nu_ne1 (by omega)
  have F0 : ∀ r', nu w (96 + 6 * r + 5) y (96 + 6 * r') = w (96 + 6 * r') := fun r' => F r' 0 (by omega) (by omega)
  refine ⟨fun g' hg' => ?_, ⟨fun r' hr' => ?_, fun r1 r2 h1 h2 => ?_, fun r1 r2 h1 h2 => ?_⟩, ⟨fun p hp => ?_, ?_⟩, ?_⟩
  · rw [E _ (by omega), E _ (by omega), E _ (by omega), E _ (by omega), E _ (by omega), E _ (by omega), E _ (by omega), E _ (by omega), E _ (by omega)]
    exact zg g' hg'
  · rw [F0, F r' 1 (by omega) (by omega), F r' 2 (by omega) (by omega), F r' 3 (by omega) (by omega), F r' 4 (by omega) (by omega), E 553 (by omega), E 554 (by omega)]
    have := zr1 r' hr'
    refine ⟨this.1, this.2.1, this.2.2.1, this.2.2.2.1, this.2.2.2.2.1, ?_⟩
    unfold nu
    split <;> omega
  · rw [F r1 4 (by omega) (by omega), F r2 4 (by omega) (by omega)]
    exact zr2 r1 r2 h1 h2
  · rw [F0, F0, F r1 2 (by omega) (by omega), F r2 2 (by omega) (by omega)]
    exact zr3 r1 r2 h1 h2
  · rw [E 552 (by omega)] at hp
    rw [E _ (by omega), E _ (by omega), E _ (by omega), E _ (by omega), E _ (by omega), E _ (by omega), E _ (by omega)]
    exact zm1 p hp
  · rw [E _ (by omega)]; exact hm
  · unfold WzN
    rw [E _ (by omega), E _ (by omega), E _ (by omega)]
    exact zn
/- a length changes -/
set_option maxRecDepth 16384 in
theorem Wz_n {w : Nat → Nat} (Z : Wz w) {k y : Nat} (hk : 555 ≤ k ∧ k ≤ 557) (h : WzN (nu w k y)) : Wz (nu w k y) := by
  obtain ⟨zg, ⟨zr1, zr2, zr3⟩, ⟨zm1, hm⟩, zn⟩ := Z
  have E : ∀ i, i < 555 → nu w k y i = w i := fun i hi => nu_ne1 (by omega)
  refine ⟨fun g' hg' => ?_, ⟨fun r' hr' => ?_, fun r1 r2 h1 h2 => ?_, fun r1 r2 h1 h2 => ?_⟩, ⟨fun p hp => ?_, ?_⟩, h⟩
  · rw [E _ (by omega), E _ (by omega), E _ (by omega), E _ (by omega), E _ (by omega), E _ (by omega), E _ (by omega), E _ (by omega), E _ (by omega)]
    exact zg g' hg'
  · rw [E _ (by omega), E _ (by omega), E _ (by omega), E _ (by omega), E _ (by omega), E _ (by omega), E _ (by omega), E _ (by omega)]
    exact zr1 r' hr'
  · rw [E _ (by omega), E _ (by omega)]
    exact zr2 r1 r2 h1 h2
  · rw [E _ (by omega), E _ (by omega), E _ (by omega), E _ (by omega)]
    exact zr3 r1 r2 h1 h2
  · rw [E 552 (by omega)] at hp
    rw [E _ (by omega), E _ (by omega), E _ (by omega), E _ (by omega), E _ (by omega), E _ (by omega), E _ (by omega)]
    exact zm1 p hp
  · rw [E _ (by omega)]; exact hm
set_option maxRecDepth 16384 in
theorem Ru_k {u : x_H} {w : Nat → Nat} (R : Ru u w) (hm : w 552 ≤ 60) {r y : Nat} (hr : r < 16) : Ru (x_hu u 16 r (mm y)) (nu w (96 + 6 * r + 4) y) := by
  obtain ⟨RG, RI, RL, RH, RM, RN⟩ := R
  have E : ∀ i, i ≠ 96 + 6 * r + 4 → nu w (96 + 6 * r + 4) y i = w i := fun i h => nu_ne1 h
  refine ⟨RuG_of RG (fun k i hk => x_hu_ne (by omega)) (fun i hi => E i (by omega)), fun r' hr' => ?_, fun g hg => ?_, RuH_of RH (x_hu_ne (by omega)) (fun r' hr' => E _ (by omega)), RuM_of RM (fun k i hk => x_hu_ne (by omega)) (fun i hi hi2 => E i (by omega)) hm, RuN_of RN (fun k i hk => x_hu_ne (by omega)) (fun i hi => E i (by omega))⟩
  · have I := RI r' hr'
    rw [x_hu_ne (by omega), x_hu_ne (by omega), x_hu_ne (by omega), x_hu_ne (by omega), E _ (by omega), E _ (by omega), E _ (by omega), E _ (by omega)]
    refine ⟨I.1, I.2.1, I.2.2.1, I.2.2.2.1, ?_⟩
    by_cases c : r' = r
    · rw [x_hu_eq rfl c, nu_eq1 (by omega)]
    · rw [x_hu_ni c, E _ (by omega)]; exact I.2.2.2.2
  · rw [x_hu_ne (by omega), RL g hg, n_ls_of (w := w) (w' := nu w (96 + 6 * r + 4) y) 16 (by omega) (fun r' hr' => by rw [E _ (by omega), E _ (by omega)])]
def n_drop (w : Nat → Nat) (g : Nat) : Nat → Nat := if n_res w g 16 = 0 then w else nu w (96 + 6 * (n_res w g 16 - 1) + 4) 0
set_option maxRecDepth 16384 in
theorem n_drop_no {w : Nat → Nat} {g : Nat} (h : n_res w g 16 = 0) : n_drop w g = w := if_pos h
set_option maxRecDepth 16384 in
theorem n_drop_at {w : Nat → Nat} {g r : Nat} (h : n_res w g 16 = r + 1) : n_drop w g = nu w (96 + 6 * r + 4) 0 := by
  rw [n_drop, if_neg (by omega), h, Nat.add_sub_cancel]
set_option maxRecDepth 16384 in
theorem n_drop_552 {w : Nat → Nat} {g : Nat} : n_drop w g 552 = w 552 := by
  rcases n_res_is (w := w) (g := g) 16 (by omega) with ⟨h, -⟩ | ⟨r, h, hr, -⟩
  · rw [n_drop, if_pos h]
  · rw [n_drop, if_neg (by omega), nu_ne1 (by omega)]
set_option maxRecDepth 16384 in
theorem u_dropRes {u : x_H} {w : Nat → Nat} (R : Ru u w) (Z : Wz w) {g : Nat} (hg : g < 12) : Ok (fX3_dropReservation u (nn g)) (fun q => q.1 = mm (n_res w g 16) ∧ Ru q.2 (n_drop w g)) := by
  rw [fX3_dropReservation, u_reservedRoom R Z hg, xb_some]
  rcases n_res_is (w := w) (g := g) 16 (by omega) with ⟨h, -⟩ | ⟨r, h, hr, -⟩
  · rw [n_drop_no h, h, show fX6_isRoom (mm 0) = some 0 from rfl, xb_some, if_pos rfl]
    exact Ok_some ⟨rfl, R⟩
  · rw [n_drop_at h, h, mm_succ, u_isRoom hr, xb_some, if_neg nn_one, if_pos (nn_in (by omega) hr), nn_clamp (by omega)]
    exact Ok_let (fun u6 e6 => Ok_some ⟨rfl, by show Ru u6 _; rw [e6]; exact Ru_k R Z.2.2.1.2 hr⟩)
set_option maxRecDepth 16384 in
theorem v_kept {u : x_H} {w : Nat → Nat} (R : Rv (u 41) w) (Z : Wz w) {g : Nat} (hg : g < 12) : ∀ (d n : Nat), d ≤ 16 → d < n → fX7_keptFor_b2 n u (nn g) (nn (16 - d)) = some (mm (n_res w g d)) := by
  intro d
  induction d with
  | zero =>
    intro n hd hn
    obtain ⟨n, rfl⟩ : ∃ m, n = m + 1 := ⟨n - 1, by omega⟩
    rw [fX7_keptFor_b2, n_res, if_pos (by decide)]
    rfl
  | succ d ih =>
    intro n hd hn
    obtain ⟨n, rfl⟩ : ∃ m, n = m + 1 := ⟨n - 1, by omega⟩
    have e1 : 16 - (d + 1) = 15 - d := by omega
    have e2 : 16 - d = 15 - d + 1 := by omega
    have I := ih n (by omega) (by omega)
    rw [e2] at I
    have zr := Z.2.1.1 (15 - d) (by omega)
    have ea : (96 : Int32) + 6 * nn (15 - d) + 4 = nn (96 + 6 * (15 - d) + 4) := by (try simp (disch := omega) only [nn_add, nn_mul, nn_clamp, nn_in1, nn_inj, nn_lt, nn_le, nn_neg, nu_eq1, nu_ne1, nn_nb0, nn_true, nn_false, if_true, if_false, x_let_n, x_let_m, xb_some, eq_self, ite_true, ite_false, not_false_eq_true, not_true_eq_false, nneg1, nl0, nl1, nl2, nl3, nl4, nl5, nl6, nl7, nl8, nl9, nl10, nl11, nl12, nl15, nl16, nl60, nl96, nl192, nl552, nl553, nl554, nl555, nl556, nl557, nl558, nl559, nl560, nl561, nl562, nl563, nl570])
    rw [fX7_keptFor_b2, n_res, e1, if_neg (fun h => by have := (nn_le (a := 16) (by omega) (by omega)).mp h; omega), ea, if_pos (nn_in (by omega) (by omega)), nn_clamp (by omega), R _ (by omega), show nn g + (1 : Int32) = nn (g + 1) from nn_add g 1]
    by_cases c : w (96 + 6 * (15 - d) + 4) = g + 1
    · rw [if_pos c, if_pos (by rw [c]), mm_succ]
    · rw [if_neg c, if_neg (fun h => c ((nn_inj (by omega) (by omega)).mp h))]
      rw [show nn (15 - d) + (1 : Int32) = nn (15 - d + 1) from nn_add _ 1, x_let_n]
      exact I
set_option maxRecDepth 16384 in
theorem v_keptFor {u : x_H} {w : Nat → Nat} (R : Rv (u 41) w) (Z : Wz w) {g : Nat} (hg : g < 12) : fX7_keptFor u (nn g) = some (mm (n_res w g 16)) := v_kept R Z hg 16 400 (by omega) (by omega)
def n_resv (w : Nat → Nat) (g r : Nat) : Nat → Nat := nu (n_drop w g) (96 + 6 * r + 4) (g + 1)
set_option maxRecDepth 16384 in
theorem Wz_drop {w : Nat → Nat} (Z : Wz w) {g : Nat} (hg : g < 12) : Wz (n_drop w g) ∧ ∀ r, r < 16 → n_drop w g (96 + 6 * r + 4) ≠ g + 1 := by
  rcases n_res_is (w := w) (g := g) 16 (by omega) with ⟨h, h1⟩ | ⟨r, h, hr, h1⟩
  · rw [n_drop, if_pos h]
    exact ⟨Z, fun r hr => h1 r (by omega) hr⟩
  · rw [n_drop, if_neg (by omega), h, Nat.add_sub_cancel]
    refine ⟨Wz_k Z hr (by omega) (fun h => absurd rfl h), fun r' hr' => ?_⟩
    by_cases c : r' = r
    · rw [nu_eq1 (by omega)]; omega
    · rw [nu_ne1 (by omega)]
      intro e
      exact c (Z.2.1.2.1 r' r hr' hr (by omega) (e.trans h1.symm))
set_option maxRecDepth 16384 in
theorem Wf_drop {B : Nat} {w : Nat → Nat} (F : Wf B w) {g : Nat} (hg : g < 12) : Wf B (n_drop w g) := by
  refine ⟨(Wz_drop F.1 hg).1, ?_, ?_⟩
  · unfold n_drop
    split
    · exact F.2.1
    · exact Wx_o F.2.1 (Or.inl (by have := n_res_is (w := w) (g := g) 16 (by omega); omega))
  · unfold n_drop
    split
    · exact F.2.2
    · exact Wb_nu F.2.2 (by omega)
set_option maxRecDepth 16384 in
theorem Wf_resv {B : Nat} {w : Nat → Nat} (F : Wf B w) {g r : Nat} (hg : g < 12) (hr : r < 16) (h9 : B + 1000 ≤ 1000000000) : Wf (B + 1000) (n_resv w g r) := by
  have D := Wf_drop F hg
  have D2 := (Wz_drop F.1 hg).2
  exact ⟨Wz_k D.1 hr (by omega) (fun _ r' hr' _ => D2 r' hr'), Wx_o D.2.1 (Or.inl (by omega)), Wb_nu (Wb_up D.2.2 (by omega) h9) (by omega)⟩
set_option maxRecDepth 16384 in
theorem g_kept {u : x_H} {w : Nat → Nat} (R : Ru u w) {r : Nat} (hr : r < 16) : u 16 (Int32.toNatClampNeg (nn r)) = mm (w (96 + 6 * r + 4)) := by rw [nn_clamp (by omega)]; exact (R.2.1 r hr).2.2.2.2
set_option maxRecDepth 16384 in
theorem mm_none {n : Nat} (h : n < 1000) : (mm n = (-1 : Int32)) ↔ n = 0 := mm_inj (b := 0) (by omega) (by omega)
set_option maxRecDepth 16384 in
theorem kx4 {r : Nat} : (96 : Int32) + 6 * nn r + 4 = nn (96 + 6 * r + 4) := by (try simp (disch := omega) only [nn_add, nn_mul, nn_clamp, nn_in1, nn_inj, nn_lt, nn_le, nn_neg, nu_eq1, nu_ne1, nn_nb0, nn_true, nn_false, if_true, if_false, x_let_n, x_let_m, xb_some, eq_self, ite_true, ite_false, not_false_eq_true, not_true_eq_false, nneg1, nl0, nl1, nl2, nl3, nl4, nl5, nl6, nl7, nl8, nl9, nl10, nl11, nl12, nl15, nl16, nl60, nl96, nl192, nl552, nl553, nl554, nl555, nl556, nl557, nl558, nl559, nl560, nl561, nl562, nl563, nl570])
set_option maxRecDepth 16384 in
theorem kx5 {r : Nat} : (96 : Int32) + 6 * nn r + 5 = nn (96 + 6 * r + 5) := by (try simp (disch := omega) only [nn_add, nn_mul, nn_clamp, nn_in1, nn_inj, nn_lt, nn_le, nn_neg, nu_eq1, nu_ne1, nn_nb0, nn_true, nn_false, if_true, if_false, x_let_n, x_let_m, xb_some, eq_self, ite_true, ite_false, not_false_eq_true, not_true_eq_false, nneg1, nl0, nl1, nl2, nl3, nl4, nl5, nl6, nl7, nl8, nl9, nl10, nl11, nl12, nl15, nl16, nl60, nl96, nl192, nl552, nl553, nl554, nl555, nl556, nl557, nl558, nl559, nl560, nl561, nl562, nl563, nl570])
set_option maxRecDepth 16384 in
theorem s_4 {A : Nat} {σ : x_S} (Y : Sy A σ) (hA : A + 1300000 ≤ 700000000) (a a2 : Int32) : Ok (gL_4 σ a a2) (Sy (A + 1300000)) := by
  obtain ⟨w, n, S, t, K, l, x, Y, M, N⟩ := Y
  obtain ⟨B, F, ⟨hn, hS⟩, hK, hx, b1, b2, b3⟩ := id N
  have hm := F.1.2.2.1.2
  have NA := Yn_up N (show A ≤ A + 1300000 by omega) hA
  have NS := Yn_save N
  show Ok (gN (fL_reserve σ a a2) (fun m => fX7_reserve m a a2)) _
  unfold fL_reserve
  have XN : ∀ (b c : Int32), (fX6_isGuest b = some 0 ∧ fX7_isGuest b = some 0) ∨ (∃ g, g < 12 ∧ b = nn g ∧ fX6_isRoom c = some 0 ∧ fX7_isRoom c = some 0) → fX7_reserve (σ 11) b c = some (x_hu (σ 11) 40 0 (1 : Int32)) ∧ eX6_reserve σ b c = some (0, σ) := by
    intro b c h
    rcases h with ⟨h1, h2⟩ | ⟨g, hg, rfl, h1, h2⟩
    · refine ⟨?_, by rw [eX6_reserve, eg_no h1]; rfl⟩
      rw [fX7_reserve, h2, xb_some, if_pos rfl, fX7_reserve_j18, fX7_reserve_j19, if_pos rfl, fX7_reserve_j51, rf1, xb_some, if_neg nn_one]
    · refine ⟨?_, by rw [eX6_reserve, eg_ok hg, xo_none, fg_ok hg, xb_some, er_no h1]; rfl⟩
      rw [fX7_reserve, v_isGuest hg, xb_some, if_neg nn_one, h2, xb_some, if_pos rfl, fX7_reserve_j18, fX7_reserve_j19, if_pos rfl, fX7_reserve_j51, rf1, xb_some, if_neg nn_one]
  rcases a_guest a with h | ⟨g, hg, rfl⟩
  · obtain ⟨x1, x2⟩ := XN a a2 (Or.inl h)
    refine gN_exc (0, σ) 1 x2 rfl Y NA ?_
    show Ok (fX7_reserve (σ 11) a a2) _
    rw [x1]
    exact Ok_some ⟨rfz (σ 11) (1 : Int32), Ym_rf M _⟩
  rcases a_room a2 with h | ⟨r, hr, rfl⟩
  · obtain ⟨x1, x2⟩ := XN (nn g) a2 (Or.inr ⟨g, hg, rfl, h.1, h.2⟩)
    refine gN_exc (0, σ) 1 x2 rfl Y NA ?_
    show Ok (fX7_reserve (σ 11) (nn g) a2) _
    rw [x1]
    exact Ok_some ⟨rfz (σ 11) (1 : Int32), Ym_rf M _⟩
  have z := F.1.2.1.1 r hr
  have e5 := g_kept Y.1 hr
  by_cases c : w (96 + 6 * r + 4) = 0
  · refine gN_val (σ := σ) (w := n_resv w g r) ?_ ?_ (Yn_now 1000 NS (fun B F h => Wf_resv F hg hr (by omega)) (by omega) hA) ?_
    · rw [eX6_reserve, eg_ok hg, xo_none, fg_ok hg, xb_some, er_ok hr, xo_none, fr_ok hr, xb_some, if_pos (nn_in (by omega) hr), e5, if_pos ((mm_none (by omega)).mpr c), er1, xo_none, fr1, xb_some]
    · rw [fX6_reserve, fg_ok hg, xb_some, fr_ok hr, xb_some, if_pos (nn_in (by omega) hr), e5, if_pos ((mm_none (by omega)).mpr c), fX6_reserve_j29, fr1, xb_some]
      refine Ok_bind (c_push Y hn) (fun τ hτ => ?_)
      obtain ⟨Y1, t11, t12⟩ := hτ
      refine Ok_bind (u_dropRes Y1.1 F.1 hg) (fun u hu => Ok_let (fun τ2 e2 => ?_))
      rw [if_pos (nn_in (by omega) hr), nn_clamp (by omega)]
      refine Ok_let (fun τ3 e3 => Ok_some ⟨?_, ?_⟩)
      · have hu2 : Ru (τ2 0) (n_drop w g) := by rw [e2, x_sh_eq]; exact hu.2
        have Y2 : Yc τ2 (n_drop w g) (n_sn n) (n_sS w n S) t K l x := by rw [e2]; exact Yc_now Y1 (n_sn_le hn) hu.2
        rw [e3]
        refine Yc_now Y2 (n_sn_le hn) ?_
        have k := Ru_k (y := g + 1) hu2 (by rw [n_drop_552]; exact hm) hr
        rw [mm_succ] at k
        exact k
      · rw [e3, x_sh_ne _ _ (by omega), e2, x_sh_ne _ _ (by omega), t11]
    · show Ok (fX7_reserve (σ 11) (nn g) (nn r)) _
      have e6 : σ 11 41 (96 + 6 * r + 4) = nn 0 := by rw [M.1 _ (by omega), c]
      rw [fX7_reserve, v_isGuest hg, xb_some, if_neg nn_one, v_isRoom hr, xb_some, if_neg nn_one, fX7_reserve_j19, if_neg nn_one, kx4, if_pos (nn_in (by omega) (by omega)), nn_clamp (by omega), e6, if_pos (show nn 0 ≤ (0 : Int32) by decide), fX7_reserve_j51, rf0, xb_some, if_pos rfl]
      refine Ok_bind (m_save (Ym_rf M (0 : Int32)) hn) (fun m1 h1 => ?_)
      obtain ⟨M1, r1, r42⟩ := h1
      have r1 : m1 40 0 = nn 0 := r1.trans (rfz (σ 11) (0 : Int32))
      rw [v_keptFor M1.1 F.1 hg, xb_some]
      have J : ∀ (m2 : x_H) (w2 : Nat → Nat), Ym m2 w2 (n_sn n) (n_sS w n S) t K l x → m2 40 0 = nn 0 → Ok (fX7_reserve_j91 m2 (nn g) (nn r)) (fun q => q 40 0 = nn 0 ∧ Ym q (nu w2 (96 + 6 * r + 4) (g + 1)) (n_sn n) (n_sS w n S) t K l x) := by
        intro m2 w2 M2 r2
        rw [fX7_reserve_j91, kx4, if_pos (nn_in (by omega) (by omega)), nn_clamp (by omega), show nn g + (1 : Int32) = nn (g + 1) from nn_add g 1]
        refine Ok_let (fun u1 e1 => Ok_some ⟨?_, ?_⟩)
        · rw [e1, x_hu_ne (by omega), r2]
        · rw [e1]; exact Ym_now M2 (Rv_up M2.1 _ _)
      rcases n_res_is (w := w) (g := g) 16 (by omega) with ⟨h, -⟩ | ⟨q, h, hq, -⟩
      · rw [n_resv, n_drop_no h, h, if_pos (show mm 0 = (-1 : Int32) from rfl)]
        exact J m1 w M1 r1
      · rw [n_resv, n_drop_at h, h, mm_succ, if_neg (show ¬ nn q = (-1 : Int32) from fun e => (nn_neg (a := q) (by omega)).mp (by rw [e]; decide)), kx4, if_pos (nn_in (by omega) (by omega)), nn_clamp (by omega)]
        refine Ok_let (fun u1 e1 => ?_)
        exact J u1 _ (by rw [e1]; exact Ym_now M1 (Rv_up M1.1 _ 0)) (by rw [e1, x_hu_ne (by omega), r1])
  · refine gN_exc (2, σ) 2 ?_ rfl Y NA ?_
    · rw [eX6_reserve, eg_ok hg, xo_none, fg_ok hg, xb_some, er_ok hr, xo_none, fr_ok hr, xb_some, if_pos (nn_in (by omega) hr), e5, if_neg (fun e => c ((mm_none (by omega)).mp e)), er0, xo_some]
    · show Ok (fX7_reserve (σ 11) (nn g) (nn r)) _
      have e6 : σ 11 41 (96 + 6 * r + 4) = nn (w (96 + 6 * r + 4)) := M.1 _ (by omega)
      rw [fX7_reserve, v_isGuest hg, xb_some, if_neg nn_one, v_isRoom hr, xb_some, if_neg nn_one, fX7_reserve_j19, if_neg nn_one, kx4, if_pos (nn_in (by omega) (by omega)), nn_clamp (by omega), e6, if_neg (fun h => by have := (nn_le (b := 0) (by omega) (by omega)).mp h; omega), fX7_reserve_j51, rf2, xb_some, if_neg nn_one]
      exact Ok_some ⟨rfz (σ 11) (2 : Int32), Ym_rf M _⟩
set_option maxRecDepth 16384 in
theorem s_5 {A : Nat} {σ : x_S} (Y : Sy A σ) (hA : A + 1300000 ≤ 700000000) (a a2 : Int32) : Ok (gL_5 σ a a2) (Sy (A + 1300000)) := by
  obtain ⟨w, n, S, t, K, l, x, Y, M, N⟩ := Y
  obtain ⟨B, F, ⟨hn, hS⟩, hK, hx, b1, b2, b3⟩ := id N
  have hm := F.1.2.2.1.2
  have NA := Yn_up N (show A ≤ A + 1300000 by omega) hA
  have NS := Yn_save N
  show Ok (gI (fL_unreserve σ a) (fun m => fX7_unreserve m a)) _
  unfold fL_unreserve
  rcases a_guest a with ⟨h1, h2⟩ | ⟨g, hg, rfl⟩
  · refine gI_exc (0, σ) 1 ?_ rfl (by omega) (by omega) Y NA ?_
    · rw [eX6_unreserve, eg_no h1]; rfl
    · show Ok (fX7_unreserve (σ 11) a) _
      rw [fX7_unreserve, h2, xb_some, if_pos rfl, fX7_unreserve_j28, rf1, xb_some, if_neg nn_one]
      exact Ok_some ⟨rfz (σ 11) (1 : Int32), Ym_rf M _⟩
  · have er := u_reservedRoom Y.1 F.1 hg
    rcases n_res_is (w := w) (g := g) 16 (by omega) with ⟨h, -⟩ | ⟨q, h, hq, -⟩
    · rw [h] at er
      refine gI_exc (2, σ) 2 ?_ rfl (by omega) (by omega) Y NA ?_
      · rw [eX6_unreserve, eg_ok hg, xo_none, fg_ok hg, xb_some, er, xb_some, if_pos (show mm 0 = (-1 : Int32) from rfl), er0, xo_some]
      · show Ok (fX7_unreserve (σ 11) (nn g)) _
        rw [fX7_unreserve, v_isGuest hg, xb_some, if_neg nn_one, v_keptFor M.1 F.1 hg, h, xb_some, if_pos (show mm 0 = (-1 : Int32) from rfl), fX7_unreserve_j28, rf2, xb_some, if_neg nn_one]
        exact Ok_some ⟨rfz (σ 11) (2 : Int32), Ym_rf M _⟩
    · have dq : ¬ nn q = (-1 : Int32) := fun e => (nn_neg (a := q) (by omega)).mp (by rw [e]; decide)
      rw [h, mm_succ] at er
      refine gI_val (σ := σ) (w := n_drop w g) (nn q) ?_ ?_ (Yn_now 0 NS (fun B F h => Wf_drop F hg) (by omega) hA) ?_
      · rw [eX6_unreserve, eg_ok hg, xo_none, fg_ok hg, xb_some, er, xb_some, if_neg dq, er1, xo_none, fr1, xb_some]
      · rw [fX6_unreserve, fg_ok hg, xb_some, er, xb_some, if_neg dq, fr1, xb_some]
        refine Ok_bind (c_push Y hn) (fun τ hτ => ?_)
        obtain ⟨Y1, t11, t12⟩ := hτ
        refine Ok_bind (u_dropRes Y1.1 F.1 hg) (fun u hu => Ok_let (fun τ2 e2 => Ok_some ⟨?_, ?_, ?_⟩))
        · show u.1 = _
          rw [hu.1, h, mm_succ]
        · show Yc τ2 _ _ _ _ _ _ _
          rw [e2]; exact Yc_now Y1 (n_sn_le hn) hu.2
        · show τ2 11 = _
          rw [e2, x_sh_ne _ _ (by omega), t11]
      · show Ok (fX7_unreserve (σ 11) (nn g)) _
        rw [fX7_unreserve, v_isGuest hg, xb_some, if_neg nn_one, v_keptFor M.1 F.1 hg, h, mm_succ, xb_some, if_neg dq, fX7_unreserve_j28, rf0, xb_some, if_pos rfl]
        refine Ok_bind (m_save (Ym_rf M (0 : Int32)) hn) (fun m1 h1 => ?_)
        obtain ⟨M1, r1, r42⟩ := h1
        have r1 : m1 40 0 = nn 0 := r1.trans (rfz (σ 11) (0 : Int32))
        rw [v_keptFor M1.1 F.1 hg, h, mm_succ, xb_some, kx4, if_pos (nn_in (by omega) (by omega)), nn_clamp (by omega), n_drop_at h]
        refine Ok_let (fun u1 e1 => Ok_some ⟨rfl, ?_, ?_⟩)
        · show u1 40 0 = _
          rw [e1, x_hu_ne (by omega), r1]
        · show Ym u1 _ _ _ _ _ _ _
          rw [e1]; exact Ym_now M1 (Rv_up M1.1 _ 0)
def n_tog (w : Nat → Nat) (r : Nat) : Nat → Nat := nu w (96 + 6 * r + 5) (1 - w (96 + 6 * r + 5))
set_option maxRecDepth 16384 in
theorem Wf_tog {B : Nat} {w : Nat → Nat} (F : Wf B w) {r : Nat} (hr : r < 16) (h1 : 1 ≤ B) : Wf B (n_tog w r) := ⟨Wz_h F.1 hr (by omega), Wx_o F.2.1 (Or.inl (by omega)), Wb_nu F.2.2 (by omega)⟩
set_option maxRecDepth 16384 in
theorem Ru_tog {u : x_H} {w : Nat → Nat} (R : Ru u w) (Z : Wz w) {r : Nat} (hr : r < 16) : Ru (x_hu u 2 0 ((u 2 0) ^^^ ((1 : Int32) <<< (nn r &&& 31)))) (n_tog w r) := by
  obtain ⟨RG, RI, RL, RH, RM, RN⟩ := R
  have hm := Z.2.2.1.2
  have z := Z.2.1.1 r hr
  have E : ∀ i, i ≠ 96 + 6 * r + 5 → n_tog w r i = w i := fun i h => nu_ne1 h
  refine ⟨RuG_of RG (fun k i hk => x_hu_ne (by omega)) (fun i hi => E i (by omega)), fun r' hr' => ?_, fun g hg => ?_, fun r' hr' => ?_, RuM_of RM (fun k i hk => x_hu_ne (by omega)) (fun i hi hi2 => E i (by omega)) hm, RuN_of RN (fun k i hk => ?_) (fun i hi => E i (by omega))⟩
  · have I := RI r' hr'
    rw [x_hu_ne (by omega), x_hu_ne (by omega), x_hu_ne (by omega), x_hu_ne (by omega), x_hu_ne (by omega), E _ (by omega), E _ (by omega), E _ (by omega), E _ (by omega), E _ (by omega)]
    exact I
  · rw [x_hu_ne (by omega), RL g hg, n_ls_of (w := w) (w' := n_tog w r) 16 (by omega) (fun r' hr' => by rw [E _ (by omega), E _ (by omega)])]
  · rw [x_hu_eq rfl rfl, xb_tog _ hr hr', RH r' hr']
    by_cases c : r' = r
    · subst c
      unfold n_tog
      rw [nu_eq1 rfl, decide_eq_true rfl]
      by_cases d : w (96 + 6 * r' + 5) = 1
      · rw [d]; rfl
      · rw [show w (96 + 6 * r' + 5) = 0 by omega]; rfl
    · rw [E _ (by omega), decide_eq_false c, Bool.xor_false]
  · by_cases c : k = 2
    · exact x_hu_ni (by omega)
    · exact x_hu_ne c
set_option maxRecDepth 16384 in
theorem u_ghostB {u : x_H} {w : Nat → Nat} (R : Ru u w) {r : Nat} (hr : r < 16) {β : Type} (f : Int32 → Option β) : (Option.bind (fX3_ghostIn u (nn r)) fun r7 => if vp_nar .boolean r7 = r7 then f r7 else none) = f (nn (if w (96 + 6 * r + 5) = 1 then 1 else 0)) := by
  rw [u_ghostIn R hr, xb_some]
  split
  · rw [if_pos (show vp_nar .boolean (nn 1) = nn 1 from vpb1)]
  · rw [if_pos (show vp_nar .boolean (nn 0) = nn 0 from vpb0)]
set_option maxRecDepth 16384 in
theorem s_6 {A : Nat} {σ : x_S} (Y : Sy A σ) (hA : A + 1300000 ≤ 700000000) (a a2 : Int32) : Ok (gL_6 σ a a2) (Sy (A + 1300000)) := by
  obtain ⟨w, n, S, t, K, l, x, Y, M, N⟩ := Y
  obtain ⟨B, F, ⟨hn, hS⟩, hK, hx, b1, b2, b3⟩ := id N
  have hm := F.1.2.2.1.2
  have NA := Yn_up N (show A ≤ A + 1300000 by omega) hA
  have NS := Yn_save N
  show Ok (gB (fL_turnGhost σ a) (fun m => fX7_turnGhost m a)) _
  unfold fL_turnGhost
  rcases a_room a with ⟨h1, h2⟩ | ⟨r, hr, rfl⟩
  · refine gB_exc (0, σ) 1 ?_ rfl (by omega) (by omega) Y NA ?_
    · rw [eX6_turnGhost, er_no h1]; rfl
    · show Ok (fX7_turnGhost (σ 11) a) _
      rw [fX7_turnGhost, mr_no h2, xb_some, if_neg nn_one]
      exact Ok_some ⟨rfz (σ 11) (1 : Int32), Ym_rf M _⟩
  · have z := F.1.2.1.1 r hr
    refine gB_val (σ := σ) (w := n_tog w r) (n_tog w r (96 + 6 * r + 5) = 1) ?_ ?_ (Yn_now 1000 NS (fun B F h => Wf_up (Wf_tog (Wf_up F (show B ≤ B + 1000 by omega) (by omega)) hr (by omega)) (by omega) (by omega)) (by omega) hA) ?_
    · rw [eX6_turnGhost, er_ok hr, xo_none, fr_ok hr, xb_some]
    · rw [fX6_turnGhost, fr_ok hr, xb_some]
      refine Ok_bind (c_push Y hn) (fun τ hτ => ?_)
      obtain ⟨Y1, t11, t12⟩ := hτ
      refine Ok_let (fun τ2 e2 => ?_)
      have hu : Ru (τ2 0) (n_tog w r) := by rw [e2, x_sh_eq]; exact Ru_tog Y1.1 F.1 hr
      rw [u_ghostB hu hr (fun y => some (y, τ2))]
      refine Ok_some ⟨rfl, ?_, ?_⟩
      · show Yc τ2 _ _ _ _ _ _ _
        rw [e2]; exact Yc_now Y1 (n_sn_le hn) (Ru_tog Y1.1 F.1 hr)
      · show τ2 11 = _
        rw [e2, x_sh_ne _ _ (by omega), t11]
    · show Ok (fX7_turnGhost (σ 11) (nn r)) _
      rw [fX7_turnGhost, mr_ok hr, xb_some, if_pos rfl]
      refine Ok_bind (m_save (Ym_rf M (0 : Int32)) hn) (fun m1 h1 => ?_)
      obtain ⟨M1, r1, r42⟩ := h1
      have r1 : m1 40 0 = nn 0 := r1.trans (rfz (σ 11) (0 : Int32))
      have e6 : (1 : Int32) - m1 41 (96 + 6 * r + 5) = nn (1 - w (96 + 6 * r + 5)) := by rw [M1.1 _ (by omega)]; exact nn_sub (a := 1) (by omega)
      rw [kx5, if_pos (nn_in (by omega) (by omega)), nn_clamp (by omega), e6]
      refine Ok_let (fun u1 e1 => ?_)
      have hM : Ym u1 (n_tog w r) (n_sn n) (n_sS w n S) t K l x := by rw [e1]; exact Ym_now M1 (Rv_up M1.1 _ _)
      have r2 : u1 40 0 = nn 0 := by rw [e1, x_hu_ne (by omega), r1]
      have e7 : u1 41 (96 + 6 * r + 5) = nn (n_tog w r (96 + 6 * r + 5)) := hM.1 _ (by omega)
      have e8 : n_tog w r (96 + 6 * r + 5) ≤ 1 := by unfold n_tog; rw [nu_eq1 rfl]; omega
      rw [e7]
      by_cases c : n_tog w r (96 + 6 * r + 5) = 1
      · rw [if_pos (show nn (n_tog w r (96 + 6 * r + 5)) = (1 : Int32) by rw [c]; rfl), if_pos c]
        exact Ok_some ⟨rfl, r2, hM⟩
      · rw [if_neg (show ¬ nn (n_tog w r (96 + 6 * r + 5)) = (1 : Int32) from fun e => c ((nn_is 1 (by omega) (by omega)).mp e)), if_neg c]
        exact Ok_some ⟨rfl, r2, hM⟩
