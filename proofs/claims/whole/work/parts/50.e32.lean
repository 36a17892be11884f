/-! ===== the hash: accounts, slots, text; its case ===== -/
def n_hA (w : Nat → Nat) : Nat → Int64 → Int64
  | 0, h => mx (mx (mx (mx (mx h (w 558)) (w 559)) (w 560)) (w 561)) (w 562)
  | d + 1, h => n_hA w d (mx h (w (563 + (6 - d))))
set_option maxRecDepth 16384 in
theorem u_hA {σ : x_S} {w : Nat → Nat} (R : Ru (σ 0) w) : ∀ (d n : Nat) (h : Int64), d ≤ 7 → d < n → fX6_mixAccounts_b16 n σ h (nn (7 - d)) = some (n_hA w d h) := by
  obtain ⟨⟨-, -, q2, q3, q4, q5, q6⟩, -, q7⟩ := R.2.2.2.2.2
  intro d
  induction d with
  | zero =>
    intro n h hd hn
    obtain ⟨n, rfl⟩ : ∃ m, n = m + 1 := ⟨n - 1, by omega⟩
    rw [fX6_mixAccounts_b16, n_hA, if_pos (by decide), q2, mx6, xb_some, q3, mx6, xb_some, q4, mx6, xb_some, q5, mx6, xb_some, q6, mx6, xb_some]
  | succ d ih =>
    intro n h hd hn
    obtain ⟨n, rfl⟩ : ∃ m, n = m + 1 := ⟨n - 1, by omega⟩
    have e12 : 7 - (d + 1) = 6 - d := by omega
    have e13 : 7 - d = 6 - d + 1 := by omega
    have I := fun h => ih n h (by omega) (by omega)
    rw [e13] at I
    rw [fX6_mixAccounts_b16, n_hA, e12, if_neg (fun h => by have := (nn_le (a := 7) (by omega) (by omega)).mp h; omega), if_pos (nn_in (by omega) (by omega)), nn_clamp (by omega), q7 (6 - d) (by omega), mx6, xb_some, show nn (6 - d) + (1 : Int32) = nn (6 - d + 1) from nn_add _ 1, x_let_n]
    exact I _
def n_hX (x : Nat → Nat) (l : Nat) : Nat → Int64 → Int64
  | 0, h => h
  | d + 1, h => n_hX x l d (mx h (x (l - (d + 1))))
set_option maxRecDepth 16384 in
theorem u_hX {σ : x_S} {l : Nat} {x : Nat → Nat} (X : YcX σ l x) (hl : l ≤ 60) : ∀ (d n p : Nat) (h : Int64), p + d = l → d < n → fX6_mixSlotsAndText_b53 n σ h (nn p) = some (n_hX x l d h) := by
  intro d
  induction d with
  | zero =>
    intro n p h hd hn
    obtain ⟨n, rfl⟩ : ∃ m, n = m + 1 := ⟨n - 1, by omega⟩
    rw [fX6_mixSlotsAndText_b53, n_hX, X.1, if_pos ((nn_le (by omega) (by omega)).mpr (by omega))]
  | succ d ih =>
    intro n p h hd hn
    obtain ⟨n, rfl⟩ : ∃ m, n = m + 1 := ⟨n - 1, by omega⟩
    rw [fX6_mixSlotsAndText_b53, n_hX, X.1, show l - (d + 1) = p by omega, if_neg (fun h => by have := (nn_le (by omega) (by omega)).mp h; omega), if_neg (fun h => by have := (nn_le (a := 60) (by omega) (by omega)).mp h; omega), if_pos (nn_in (by omega) (by omega)), nn_clamp (by omega), X.2 p (by omega), mx6, xb_some, show nn p + (1 : Int32) = nn (p + 1) from nn_add p 1, x_let_n]
    exact ih n (p + 1) _ (by omega) (by omega)
set_option maxRecDepth 16384 in
theorem v_hX {u : x_H} {l : Nat} {x : Nat → Nat} (h4 : u 40 2 = nn l) (h6 : ∀ i, i < l → u 46 i = nn (x i)) (hl : l ≤ 60) : ∀ (d n p : Nat) (h : Int64), p + d = l → d < n → fX7_digest_b474 n u h (nn p) = some (n_hX x l d h, u) := by
  intro d
  induction d with
  | zero =>
    intro n p h hd hn
    obtain ⟨n, rfl⟩ : ∃ m, n = m + 1 := ⟨n - 1, by omega⟩
    rw [fX7_digest_b474, n_hX, h4, if_pos ((nn_le (by omega) (by omega)).mpr (by omega))]
  | succ d ih =>
    intro n p h hd hn
    obtain ⟨n, rfl⟩ : ∃ m, n = m + 1 := ⟨n - 1, by omega⟩
    rw [fX7_digest_b474, n_hX, h4, show l - (d + 1) = p by omega, if_neg (fun h => by have := (nn_le (by omega) (by omega)).mp h; omega), if_pos (nn_in (by omega) (by omega)), nn_clamp (by omega), h6 p (by omega), mx7, xb_some, show nn p + (1 : Int32) = nn (p + 1) from nn_add p 1, x_let_n]
    exact ih n (p + 1) _ (by omega) (by omega)
/- all of the hash behind the messages -/
def n_tail (w v : Nat → Nat) (o n : Nat) (t : Nat → Nat) (l : Nat) (x : Nat → Nat) (h : Int64) : Int64 := n_hX x l l (mx (mx (mx ((31 : Int64) * mx (mx (mx h o) (n_hs 12 v)) n + n_bit (n_cn w 2 16)) (t 0)) (t 1)) l)
section
variable {A n l : Nat} {σ τ : x_S} {m m' : x_H} {w v : Nat → Nat} {S K : Nat → Nat → Nat} {t x : Nat → Nat}
set_option maxRecDepth 16384 in
theorem v_hT {B o : Nat} (M : Ym m w n S t K l x) (F : Wf B w) (R2 : Rv (m 42) v) (Z2 : WzG v) (ht : ∀ s, s < 2 → t s ≤ 1) (hl : l ≤ 60) : ∀ (d N : Nat) (h : Int64), d ≤ 7 → d < N → fX7_digest_b293 N m (nn o) h (nn (7 - d)) = some (n_tail w v o n t l x (n_hA w d h), m) := by
  have R := M.1
  intro d
  induction d with
  | zero =>
    intro N h hd hn
    obtain ⟨N, rfl⟩ : ∃ m, N = m + 1 := ⟨N - 1, by omega⟩
    have z := n_cn_le w 2 16
    have t0 : m 45 (Int32.toNatClampNeg (0 : Int32)) = nn (t 0) := (M.2.2.1 0 (by omega)).1
    have t1 : m 45 (Int32.toNatClampNeg (1 : Int32)) = nn (t 1) := (M.2.2.1 1 (by omega)).1
    have ht0 := ht 0 (by omega)
    have ht1 := ht 1 (by omega)
    have e1 : m 40 1 = nn n := M.2.1.1
    have e2 : m 40 2 = nn l := M.2.2.2.1
    have J2 : ∀ (z0 : Nat) (z1 : Int64), fX7_digest_j457 m (nn z0).toInt64 z1 = some (n_hX x l l (mx (mx z1 z0) l), m) := by
      intro z0 z1
      rw [fX7_digest_j457, mx7, xb_some, e2, mx7, xb_some]
      exact v_hX e2 M.2.2.2.2 hl l 400 0 _ (by omega) (by omega)
    have J1 : ∀ (z0 : Nat) (z1 : Int64), fX7_digest_j440 m (nn z0).toInt64 z1 = some (n_hX x l l (mx (mx (mx z1 z0) (t 1)) l), m) := by
      intro z0 z1
      rw [fX7_digest_j440, mx7, xb_some, t1]
      by_cases c : t 1 = 0
      · rw [if_pos (show nn (t 1) = (0 : Int32) by rw [c]; rfl), ← mz0, J2, c]
      · rw [if_neg (show ¬ nn (t 1) = (0 : Int32) from fun e => c ((nn_0 (by omega)).mp e)), ← mz1, J2, show t 1 = 1 by omega]
    rw [fX7_digest_b293, n_hA, if_pos (by decide), show m 41 (Int32.toNatClampNeg (558 : Int32)) = nn (w 558) from R 558 (by omega), mx7, xb_some, show m 41 (Int32.toNatClampNeg (559 : Int32)) = nn (w 559) from R 559 (by omega), mx7, xb_some, show m 41 (Int32.toNatClampNeg (560 : Int32)) = nn (w 560) from R 560 (by omega), mx7, xb_some, show m 41 (Int32.toNatClampNeg (561 : Int32)) = nn (w 561) from R 561 (by omega), mx7, xb_some, show m 41 (Int32.toNatClampNeg (562 : Int32)) = nn (w 562) from R 562 (by omega), mx7, xb_some, mx7, xb_some, v_inRooms R2 Z2, xb_some, mx7, xb_some, e1, mx7, xb_some, v_share R F.1, xb_some, n_bit7 (by omega), xb_some, fX7_mix, xb_some, t0, n_tail]
    by_cases c : t 0 = 0
    · rw [if_pos (show nn (t 0) = (0 : Int32) by rw [c]; rfl), ← mz0, J1, c]
    · rw [if_neg (show ¬ nn (t 0) = (0 : Int32) from fun e => c ((nn_0 (by omega)).mp e)), ← mz1, J1, show t 0 = 1 by omega]
  | succ d ih =>
    intro N h hd hn
    obtain ⟨N, rfl⟩ : ∃ m, N = m + 1 := ⟨N - 1, by omega⟩
    have e12 : 7 - (d + 1) = 6 - d := by omega
    have e13 : 7 - d = 6 - d + 1 := by omega
    have I := fun h => ih N h (by omega) (by omega)
    rw [e13] at I
    rw [fX7_digest_b293, n_hA, e12, if_neg (fun h => by have := (nn_le (a := 7) (by omega) (by omega)).mp h; omega), show (563 : Int32) + nn (6 - d) = nn (563 + (6 - d)) from nn_add 563 _, if_pos (nn_in (by omega) (by omega)), nn_clamp (by omega), R _ (by omega), mx7, xb_some, show nn (6 - d) + (1 : Int32) = nn (6 - d + 1) from nn_add _ 1, x_let_n]
    exact I _
set_option maxRecDepth 16384 in
theorem u_hS (Y : Yc σ w n S t K l x) (ht : ∀ s, s < 2 → t s ≤ 1) (hl : l ≤ 60) (h : Int64) : fX6_mixSlotsAndText σ h = some (n_hX x l l (mx (mx (mx h (t 0)) (t 1)) l)) := by
  have t0 : σ 10 36 (Int32.toNatClampNeg (0 : Int32)) = nn (t 0) := (Y.2.2.1 0 (by omega)).2.1
  have t1 : σ 10 36 (Int32.toNatClampNeg (nn 1)) = nn (t 1) := (Y.2.2.1 1 (by omega)).2.1
  have ht0 := ht 0 (by omega)
  have ht1 := ht 1 (by omega)
  have J2 : ∀ z1 : Int64, fX6_mixSlotsAndText_b5 398 σ z1 (nn 2) = some (n_hX x l l (mx z1 l)) := by
    intro z1
    rw [fX6_mixSlotsAndText_b5, if_pos (by decide), Y.2.2.2.1, mx6, xb_some]
    exact u_hX Y.2.2.2 hl l 400 0 _ (by omega) (by omega)
  have J1 : ∀ z1 : Int64, fX6_mixSlotsAndText_b5 399 σ z1 (nn 1) = some (n_hX x l l (mx (mx z1 (t 1)) l)) := by
    intro z1
    rw [fX6_mixSlotsAndText_b5, if_neg (by decide), if_pos (nn_in (by omega) (by omega)), t1, show nn 1 + (1 : Int32) = nn 2 from nn_add 1 1]
    by_cases c : t 1 = 0
    · rw [if_pos (show nn (t 1) = (0 : Int32) by rw [c]; rfl), mx60, xb_some, x_let_n, c]; exact J2 _
    · rw [if_neg (show ¬ nn (t 1) = (0 : Int32) from fun e => c ((nn_0 (by omega)).mp e)), mx61, xb_some, x_let_n, show t 1 = 1 by omega]; exact J2 _
  rw [fX6_mixSlotsAndText, fX6_mixSlotsAndText_b5, if_neg (by decide), if_pos (show x_in (0 : Int32) 2 by decide), t0, show (0 : Int32) + (1 : Int32) = nn 1 from rfl]
  by_cases c : t 0 = 0
  · rw [if_pos (show nn (t 0) = (0 : Int32) by rw [c]; rfl), mx60, xb_some, x_let_n, c]; exact J1 _
  · rw [if_neg (show ¬ nn (t 0) = (0 : Int32) from fun e => c ((nn_0 (by omega)).mp e)), mx61, xb_some, x_let_n, show t 0 = 1 by omega]; exact J1 _
end
set_option maxRecDepth 16384 in
theorem s_57 {A : Nat} {σ : x_S} (Y : Sy A σ) (hA : A + 1300000 ≤ 700000000) (a a2 : Int32) : Ok (gL_57 σ a a2) (Sy (A + 1300000)) := by
  obtain ⟨w, n, S, t, K, l, x, Y, M, N⟩ := Y
  obtain ⟨B, F, ⟨hn, hS⟩, hK, hx, b1, b2, b3⟩ := id N
  have hm := F.1.2.2.1.2
  have NA := Yn_up N (show A ≤ A + 1300000 by omega) hA
  have NS := Yn_save N
  have E := v_each M.1 F (by omega)
  have hl := hx.1
  have ht : ∀ s, s < 2 → t s ≤ 1 := fun s hs => (hK s hs).1
  have z := n_cn_le w 2 16
  obtain ⟨H, hH⟩ : ∃ H, H = n_tail w (n_each w).2 (n_each w).1 n t l x (n_hA w 7 (mx (n_hM w (w 552) (mx (n_hR w 16 (n_hG w 12 (4409 : Int64))) (w 552))) (w 554))) := ⟨_, rfl⟩
  have hC : Ok (fX6_digest σ) (fun r => r.1 = H ∧ Yc r.2 w n S t K l x ∧ r.2 11 = σ 11) := by
    rw [fX6_digest, fX6_mixGuests, show (0 : Int32) = nn (12 - 12) from rfl, u_hG Y.1 F 12 400 _ (by omega) (by omega), xb_some, fX6_mixRooms, show (0 : Int32) = nn (16 - 16) from rfl]
    refine Ok_bind (u_hR Y.1 F 16 400 _ (by omega) (by omega)) (fun r3 h3 => ?_)
    obtain ⟨a1, a2⟩ := h3
    have Y3 := Yc_1 Y hn a2
    have q3 : r3.2 0 3 0 = nn (w 552) := Y3.1.2.2.2.2.1.1
    have q0 : r3.2 0 0 0 = nn (w 554) := Y3.1.2.2.2.2.2.1.1
    rw [a1, fX6_mixMessages, q3, mx6, xb_some, show (0 : Int32) = nn 0 from rfl, u_hM Y3.1 hm (w 552) 400 0 _ (by omega) (by omega), xb_some, fX6_mixAccounts, q0, mx6, xb_some, show (0 : Int32) = nn (7 - 7) from rfl, u_hA Y3.1 7 400 _ (by omega) (by omega), xb_some]
    refine Ok_bind (c_try Y3 hn F (by omega)) (fun r9 h9 => ?_)
    obtain ⟨b1, b2, b3⟩ := h9
    have Y9 := Yc_1 Y3 hn b3
    have q9 : r9.2 10 33 0 = nn n := Y9.2.1.1
    have q2 : fX3_countRooms (r9.2 0) (2 : Int32) = some (nn (n_cn w 2 16)) := u_rooms Y9.1.2.1 F.1 (s := 2) (by omega)
    rw [b1, mx6, xb_some, u_inRooms b2.1 E.2.1.1.1, xb_some, mx6, xb_some, q9, mx6, xb_some, q2, xb_some, n_bit6 (by omega), xb_some, fX6_mix, xb_some, u_hS Y9 ht hl, xb_some]
    exact Ok_some ⟨hH.symm, Y9, (b3 11 (by omega)).trans (a2 11 (by omega))⟩
  have hM : Ok (fX7_digest (σ 11)) (fun r => r.1 = H ∧ Ym r.2 w n S t K l x) := by
    rw [fX7_digest]
    refine Ok_let (fun u1 e1 => Ok_let (fun u3 e3 => ?_))
    have M1 : Ym u1 w n S t K l x := by rw [e1]; exact Ym_rf M _
    have M3 : Ym u3 w n S t K l x := by rw [e3]; exact Ym_42 M1 _
    have R3 : Rv (u3 42) w := by rw [e3, x_hs_eq]; exact M1.1
    refine Ok_bind (v_each R3 F (by omega)).1 (fun q hq => Ok_let (fun u7 e7 => ?_))
    have R7 : Rv (u7 42) (n_each w).2 := by rw [e7, x_hs_eq]; exact hq.2
    have M7 : Ym u7 w n S t K l x := by rw [e7]; exact Ym_42 M3 _
    rw [hq.1, show (0 : Int32) = nn (12 - 12) from rfl, v_hG M7.1 F _ 12 400 _ (by omega) (by omega), show nn 0 = nn (16 - 16) from rfl, v_hR M7.1 F _ 16 400 _ (by omega) (by omega), v_hM M7.1 F _ (w 552) 400 0 _ (by omega) (by omega), show nn 0 = nn (7 - 7) from rfl, v_hT M7 F R7 E.2.1.1.1 ht hl 7 400 _ (by omega) (by omega)]
    exact Ok_some ⟨hH.symm, M7⟩
  rw [gL_57]
  refine Ok_bind hC (fun r1 h1 => ?_)
  obtain ⟨c1, c2, c3⟩ := h1
  rw [c3]
  refine Ok_bind hM (fun r3 h3 => Ok_let (fun τ5 h5 => ?_))
  rw [c1, h3.1, if_pos (lgc _)]
  exact Ok_some (Sy_mk c2 h3.2 NA (fun j h _ => by rw [h5, x_sh_ne _ _ h]) (by rw [h5, x_sh_eq]))
