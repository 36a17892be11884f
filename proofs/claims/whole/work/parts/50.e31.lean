/-! ===== the share, the hash ===== -/
set_option maxRecDepth 16384 in
theorem sh_tab : ∀ k, k < 17 → (x_nn (FP.ddiv (FP.i2d (nn k)) (4625196817309499392 : UInt64)) ∧ fX6_bitsOfShare (nn k) = fJxe99ae_doubleToLongBits_ccdee (FP.ddiv (FP.i2d (nn k)) (4625196817309499392 : UInt64))) ∧ (fX6_bitsOfShare (nn k)).isSome = true := by decide +kernel
def n_bit (k : Nat) : Int64 := (fX6_bitsOfShare (nn k)).getD 0
set_option maxRecDepth 16384 in
theorem n_bit6 {k : Nat} (h : k < 17) : fX6_bitsOfShare (nn k) = some (n_bit k) := by
  have q := (sh_tab k h).2
  unfold n_bit
  cases e : fX6_bitsOfShare (nn k) with
  | none => rw [e] at q; cases q
  | some y => rfl
set_option maxRecDepth 16384 in
theorem n_bit7 {k : Nat} (h : k < 17) : fJxe99ae_doubleToLongBits_ccdee (FP.ddiv (FP.i2d (nn k)) (4625196817309499392 : UInt64)) = some (n_bit k) := by rw [← (sh_tab k h).1.2]; exact n_bit6 h
set_option maxRecDepth 16384 in
theorem v_share {u : x_H} {w : Nat → Nat} (R : Rv (u 41) w) (Z : Wz w) : fX7_share u = some (FP.ddiv (FP.i2d (nn (n_cn w 2 16))) (4625196817309499392 : UInt64)) := by
  have z := n_cn_le w 2 16
  rw [fX7_share, show (2 : Int32) = nn 2 from rfl, v_rooms2 R Z (by omega), xb_some, if_pos (sh_tab _ (by omega)).1.1]
set_option maxRecDepth 16384 in
theorem s_56 {A : Nat} {σ : x_S} (Y : Sy A σ) (hA : A + 1300000 ≤ 700000000) (a a2 : Int32) : Ok (gL_56 σ a a2) (Sy (A + 1300000)) := by
  obtain ⟨w, n, S, t, K, l, x, Y, M, N⟩ := Y
  obtain ⟨B, F, ⟨hn, hS⟩, hK, hx, b1, b2, b3⟩ := id N
  have hm := F.1.2.2.1.2
  have NA := Yn_up N (show A ≤ A + 1300000 by omega) hA
  have NS := Yn_save N
  have M0 := Ym_rf M (0 : Int32)
  have z := n_cn_le w 2 16
  have e1 : fX6_leasedShare σ = some (FP.ddiv (FP.i2d (nn (n_cn w 2 16))) (4625196817309499392 : UInt64)) := by
    rw [fX6_leasedShare, show (2 : Int32) = nn 2 from rfl, u_rooms Y.1.2.1 F.1 (by omega), xb_some, if_pos (sh_tab _ (by omega)).1.1]
  have e2 : fX7_leasedShare (σ 11) = some (FP.ddiv (FP.i2d (nn (n_cn w 2 16))) (4625196817309499392 : UInt64), x_hu (σ 11) 40 0 (0 : Int32)) := by
    rw [fX7_leasedShare]
    show Option.bind (fX7_share (x_hu (σ 11) 40 0 (0 : Int32))) _ = _
    rw [v_share M0.1 F.1, xb_some]
  rw [gL_56, e1, xb_some, e2, xb_some]
  generalize FP.ddiv (FP.i2d (nn (n_cn w 2 16))) (4625196817309499392 : UInt64) = q
  refine Ok_let (fun τ e => ?_)
  have G : Ok (some τ) (Sy (A + 1300000)) := Ok_some (Sy_mk Y M0 NA (fun j h _ => by rw [e, x_sh_ne _ _ h]) (by rw [e, x_sh_eq]))
  by_cases c : Op.cmpValue (FP.dcmp q q) CmpOp.l = 0
  · rw [if_pos c]; exact G
  · rw [if_neg c, if_neg c, if_neg c]; exact G
def mx (h : Int64) (a : Nat) : Int64 := (31 : Int64) * h + (nn a).toInt64
set_option maxRecDepth 16384 in
theorem mx6 (h : Int64) (a : Nat) : fX6_mix h (nn a).toInt64 = some (mx h a) := rfl
set_option maxRecDepth 16384 in
theorem mx7 (h : Int64) (a : Nat) : fX7_mix h (nn a).toInt64 = some (mx h a) := rfl
set_option maxRecDepth 16384 in
theorem mz0 : (nn 0).toInt64 = (0 : Int64) := by decide
set_option maxRecDepth 16384 in
theorem mz1 : (nn 1).toInt64 = (1 : Int64) := by decide
set_option maxRecDepth 16384 in
theorem mx60 (h : Int64) : fX6_mix h (0 : Int64) = some (mx h 0) := by rw [← mz0]; rfl
set_option maxRecDepth 16384 in
theorem mx61 (h : Int64) : fX6_mix h (1 : Int64) = some (mx h 1) := by rw [← mz1]; rfl
def n_hg (w : Nat → Nat) (h : Int64) (g : Nat) : Int64 := mx (mx (mx (mx (mx (mx (mx h (w (8 * g))) (if 2 ≤ w (8 * g) then w (8 * g + 1) + 1 else 0)) (if w (8 * g) = 3 then w (8 * g + 2) + w (8 * g + 3) - w 554 else 0)) (if w (8 * g) = 3 then n_ask w g else 0)) (if n_hnt w g then 1 else 0)) (w (8 * g + 6))) (n_choice w g)
def n_hG (w : Nat → Nat) : Nat → Int64 → Int64
  | 0, h => mx h (n_hs 12 w)
  | d + 1, h => n_hG w d (n_hg w h (11 - d))
set_option maxRecDepth 16384 in
theorem u_hG {σ : x_S} {w : Nat → Nat} {B : Nat} (R : Ru (σ 0) w) (F : Wf B w) : ∀ (d n : Nat) (h : Int64), d ≤ 12 → d < n → fX6_mixGuests_b14 n σ h (nn (12 - d)) = some (n_hG w d h) := by
  have FM : Wm B w := ⟨F.1, F.2.2⟩
  have et : σ 0 0 0 = nn (w 554) := R.2.2.2.2.2.1.1
  intro d
  induction d with
  | zero =>
    intro n h hd hn
    obtain ⟨n, rfl⟩ : ∃ m, n = m + 1 := ⟨n - 1, by omega⟩
    rw [fX6_mixGuests_b14, n_hG, if_pos (by decide), u_inRooms R.1 F.1.1, xb_some, mx6, xb_some]
  | succ d ih =>
    intro n h hd hn
    obtain ⟨n, rfl⟩ : ∃ m, n = m + 1 := ⟨n - 1, by omega⟩
    obtain ⟨g, hgd⟩ : ∃ g, g = 11 - d := ⟨_, rfl⟩
    have e12 : 12 - (d + 1) = g := by omega
    have e13 : 12 - d = g + 1 := by omega
    have hg : g < 12 := by omega
    have I := fun h => ih n h (by omega) (by omega)
    rw [e13] at I
    have e6 : σ 0 6 (Int32.toNatClampNeg (nn g)) = mm (if 2 ≤ w (8 * g) then w (8 * g + 1) + 1 else 0) := by rw [nn_clamp (by omega)]; exact (R.1 g hg).2.1
    have e11 : σ 0 11 (Int32.toNatClampNeg (nn g)) = nn (w (8 * g + 6)) := by rw [nn_clamp (by omega)]; exact (R.1 g hg).2.2.2.2.2.2.1
    rw [fX6_mixGuests_b14, n_hG, e12, ← hgd, if_neg (fun h => by have := (nn_le (a := 12) (by omega) (by omega)).mp h; omega), if_pos (nn_in (by omega) hg), g_doing R hg, mx6, xb_some, e6, mm_add1, mx6, xb_some, et, u_ticksUntilEnd R FM hg, xb_some, mx6, xb_some, u_ask R FM hg, xb_some, mx6, xb_some, u_hnt R F.1 hg, xb_some, nb_z, u_roomToOffer R F.1 hg, e11, show nn g + (1 : Int32) = nn (g + 1) from nn_add g 1, n_hg]
    by_cases c : n_hnt w g
    · rw [if_pos c, if_pos c, mx61, xb_some, mx6, xb_some, xb_some, mm_add1, mx6, xb_some, x_let_n]
      exact I _
    · rw [if_neg c, if_neg c, mx60, xb_some, mx6, xb_some, xb_some, mm_add1, mx6, xb_some, x_let_n]
      exact I _
set_option maxRecDepth 16384 in
theorem v_hg {u : x_H} {w : Nat → Nat} {B : Nat} (R : Rv (u 41) w) (F : Wf B w) {g : Nat} (hg : g < 12) (h : Int64) : fX7_guestHash u h (nn g) = some (n_hg w h g) := by
  have FM : Wm B w := ⟨F.1, F.2.2⟩
  have z := F.1.1 g hg
  have ek1 : (8 : Int32) * nn g + 1 = nn (8 * g + 1) := by (try simp (disch := omega) only [nn_add, nn_mul, nn_clamp, nn_in1, nn_inj, nn_lt, nn_le, nn_neg, nu_eq1, nu_ne1, nn_nb0, nn_true, nn_false, if_true, if_false, x_let_n, x_let_m, xb_some, eq_self, ite_true, ite_false, not_false_eq_true, not_true_eq_false, nneg1, nl0, nl1, nl2, nl3, nl4, nl5, nl6, nl7, nl8, nl9, nl10, nl11, nl12, nl15, nl16, nl60, nl96, nl192, nl552, nl553, nl554, nl555, nl556, nl557, nl558, nl559, nl560, nl561, nl562, nl563, nl570])
  have ek6 : (8 : Int32) * nn g + 6 = nn (8 * g + 6) := by (try simp (disch := omega) only [nn_add, nn_mul, nn_clamp, nn_in1, nn_inj, nn_lt, nn_le, nn_neg, nu_eq1, nu_ne1, nn_nb0, nn_true, nn_false, if_true, if_false, x_let_n, x_let_m, xb_some, eq_self, ite_true, ite_false, not_false_eq_true, not_true_eq_false, nneg1, nl0, nl1, nl2, nl3, nl4, nl5, nl6, nl7, nl8, nl9, nl10, nl11, nl12, nl15, nl16, nl60, nl96, nl192, nl552, nl553, nl554, nl555, nl556, nl557, nl558, nl559, nl560, nl561, nl562, nl563, nl570])
  have J4 : ∀ (z0 : Nat) (z1 : Int64), fX7_guestHash_j122 u (nn g) (nn z0).toInt64 z1 = some (mx (mx (mx z1 z0) (w (8 * g + 6))) (n_choice w g)) := by
    intro z0 z1
    rw [fX7_guestHash_j122, mx7, xb_some, ek6, if_pos (nn_in (by omega) (by omega)), nn_clamp (by omega), R _ (by omega), mx7, xb_some, v_choice R F.1 hg, xb_some, mm_add1, mx7, xb_some]
  have J3 : ∀ (z0 : Nat) (z1 : Int64), fX7_guestHash_j102 u (nn g) (nn z0).toInt64 z1 = some (mx (mx (mx (mx z1 z0) (if n_hnt w g then 1 else 0)) (w (8 * g + 6))) (n_choice w g)) := by
    intro z0 z1
    rw [fX7_guestHash_j102, mx7, xb_some, v_hnt R F.1 hg, xb_some, nb_z, ← mz0, ← mz1, J4, J4]
    by_cases c : n_hnt w g
    · rw [if_pos c, if_pos c]
    · rw [if_neg c, if_neg c]
  rw [fX7_guestHash, v_doing R hg, xb_some]
  have J17 : ∀ y : Int32, (w (8 * g) = 3 → y = nn 1) → (w (8 * g) ≠ 3 → y = nn 0) → fX7_guestHash_j17 u h (nn g) y = some (n_hg w h g) := by
    intro y hy1 hy2
    have J1 : ∀ (z0 : Nat) (z1 : Int64), fX7_guestHash_j62 u (nn g) y (nn z0).toInt64 z1 = some (mx (mx (mx (mx (mx (mx z1 z0) (if w (8 * g) = 3 then w (8 * g + 2) + w (8 * g + 3) - w 554 else 0)) (if w (8 * g) = 3 then n_ask w g else 0)) (if n_hnt w g then 1 else 0)) (w (8 * g + 6))) (n_choice w g)) := by
      intro z0 z1
      rw [fX7_guestHash_j62, mx7, xb_some]
      by_cases c : w (8 * g) = 3
      · rw [hy1 c, if_neg (show ¬ nn 1 = (0 : Int32) from nn_one), v_leftTo R F hg c, xb_some, fX7_guestHash_j84, mx7, xb_some, if_neg (show ¬ nn 1 = (0 : Int32) from nn_one), v_ask R FM hg, xb_some, J3, if_pos c, if_pos c]
      · rw [hy2 c, if_pos (show nn 0 = (0 : Int32) from rfl), fX7_guestHash_j84, ← mz0, mx7, xb_some, if_pos (show nn 0 = (0 : Int32) from rfl), J3, if_neg c, if_neg c]
    rw [fX7_guestHash_j17, v_doing R hg, xb_some, mx7, xb_some, xb_some, n_hg]
    by_cases c : 2 ≤ w (8 * g)
    · rw [if_pos (show (2 : Int32) ≤ nn (w (8 * g)) from (nn_le (a := 2) (by omega) (by omega)).mpr c), ek1, if_pos (nn_in (by omega) (by omega)), nn_clamp (by omega), R _ (by omega), show nn (w (8 * g + 1)) + (1 : Int32) = nn (w (8 * g + 1) + 1) from nn_add _ 1, J1, if_pos c]
    · rw [if_neg (show ¬ (2 : Int32) ≤ nn (w (8 * g)) from fun h => c ((nn_le (a := 2) (by omega) (by omega)).mp h)), ← mz0, J1, if_neg c]
  by_cases c : w (8 * g) = 3
  · rw [if_pos (show nn (w (8 * g)) = (3 : Int32) by rw [c]; rfl)]
    exact J17 _ (fun _ => rfl) (fun h => absurd c h)
  · rw [if_neg (no3 (by omega) c)]
    exact J17 _ (fun h => absurd h c) (fun _ => rfl)
set_option maxRecDepth 16384 in
theorem v_hG {u : x_H} {w : Nat → Nat} {B : Nat} (R : Rv (u 41) w) (F : Wf B w) (y1 : Int32) : ∀ (d n : Nat) (h : Int64), d ≤ 12 → d < n → fX7_digest_b31 n u y1 h (nn (12 - d)) = fX7_digest_b68 400 u y1 (n_hG w d h) (nn 0) := by
  intro d
  induction d with
  | zero =>
    intro n h hd hn
    obtain ⟨n, rfl⟩ : ∃ m, n = m + 1 := ⟨n - 1, by omega⟩
    rw [fX7_digest_b31, n_hG, if_pos (by decide), v_inRooms R F.1.1, xb_some, mx7, xb_some]
    rfl
  | succ d ih =>
    intro n h hd hn
    obtain ⟨n, rfl⟩ : ∃ m, n = m + 1 := ⟨n - 1, by omega⟩
    have e12 : 12 - (d + 1) = 11 - d := by omega
    have e13 : 12 - d = 11 - d + 1 := by omega
    have I := fun h => ih n h (by omega) (by omega)
    rw [e13] at I
    rw [fX7_digest_b31, n_hG, e12, if_neg (fun h => by have := (nn_le (a := 12) (by omega) (by omega)).mp h; omega), v_hg R F (by omega), xb_some, show nn (11 - d) + (1 : Int32) = nn (11 - d + 1) from nn_add _ 1, x_let_n]
    exact I _
def n_hr (w : Nat → Nat) (h : Int64) (r : Nat) : Int64 := mx (mx (mx (mx (mx h (w (96 + 6 * r))) (if n_who w r then w (96 + 6 * r + 2) + 1 else 0)) (n_left w r)) (w (96 + 6 * r + 4))) (w (96 + 6 * r + 5))
def n_hR (w : Nat → Nat) : Nat → Int64 → Int64
  | 0, h => mx (mx (mx (mx (mx (mx (mx (mx h (n_cn w 2 16)) (n_cn w 2 16)) (n_cn w 0 16)) (n_nx w 16 0)) (n_nx w 16 0)) (w 555)) (w 556)) (w 557)
  | d + 1, h => n_hR w d (n_hr w h (15 - d))
set_option maxRecDepth 16384 in
theorem u_hR {σ : x_S} {w : Nat → Nat} {B : Nat} (R : Ru (σ 0) w) (F : Wf B w) : ∀ (d n : Nat) (h : Int64), d ≤ 16 → d < n → Ok (fX6_mixRooms_b14 n σ h (nn (16 - d))) (fun q => q.1 = n_hR w d h ∧ ∀ i, i ≠ 1 → q.2 i = σ i) := by
  have et : σ 0 0 0 = nn (w 554) := R.2.2.2.2.2.1.1
  intro d
  induction d with
  | zero =>
    intro n h hd hn
    obtain ⟨n, rfl⟩ : ∃ m, n = m + 1 := ⟨n - 1, by omega⟩
    have q2 : fX3_countRooms (σ 0) (2 : Int32) = some (nn (n_cn w 2 16)) := u_rooms R.2.1 F.1 (s := 2) (by omega)
    have q0 : fX3_countRooms (σ 0) (0 : Int32) = some (nn (n_cn w 0 16)) := u_rooms R.2.1 F.1 (s := 0) (by omega)
    rw [fX6_mixRooms_b14, n_hR, if_pos (by decide), q2, xb_some, mx6, xb_some, u_leased R.2.2.1 F.1, xb_some, mx6, xb_some, q0, xb_some, mx6, xb_some, et, u_next R F, xb_some, mx6, xb_some]
    refine Ok_bind (c_tryTicks F R) (fun q hq => ?_)
    rw [hq.1, hq.2 0 (by omega), mx6, xb_some, R.2.2.2.2.2.2.1.1, mx6, xb_some, R.2.2.2.2.2.2.1.2.1, mx6, xb_some, R.2.2.2.2.2.2.1.2.2, mx6, xb_some]
    exact Ok_some ⟨rfl, hq.2⟩
  | succ d ih =>
    intro n h hd hn
    obtain ⟨n, rfl⟩ : ∃ m, n = m + 1 := ⟨n - 1, by omega⟩
    obtain ⟨r, hrd⟩ : ∃ r, r = 15 - d := ⟨_, rfl⟩
    have e12 : 16 - (d + 1) = r := by omega
    have e13 : 16 - d = r + 1 := by omega
    have hr : r < 16 := by omega
    have z := F.1.2.1.1 r hr
    have I := fun h => ih n h (by omega) (by omega)
    rw [e13] at I
    rw [fX6_mixRooms_b14, n_hR, e12, ← hrd, if_neg (fun h => by have := (nn_le (a := 16) (by omega) (by omega)).mp h; omega), if_pos (nn_in (by omega) hr), g_state R hr, mx6, xb_some, g_who R F.1 hr, mm_add1, mx6, xb_some, et, u_left R F hr, xb_some, mx6, xb_some, g_kept R hr, mm_add1, mx6, xb_some, u_ghostIn R hr, xb_some, nb_z, show nn r + (1 : Int32) = nn (r + 1) from nn_add r 1, n_hr]
    by_cases c : w (96 + 6 * r + 5) = 1
    · rw [if_pos c, mx61, xb_some, x_let_n, c]
      exact I _
    · rw [if_neg c, mx60, xb_some, x_let_n, show w (96 + 6 * r + 5) = 0 by omega]
      exact I _
set_option maxRecDepth 16384 in
theorem v_hr {u : x_H} {w : Nat → Nat} {B : Nat} (R : Rv (u 41) w) (F : Wf B w) {r : Nat} (hr : r < 16) (h : Int64) : fX7_roomHash u h (nn r) = some (n_hr w h r) := by
  have J : ∀ (z0 : Nat) (z1 : Int64), fX7_roomHash_j42 u (nn r) (nn z0).toInt64 z1 = some (mx (mx (mx (mx z1 z0) (n_left w r)) (w (96 + 6 * r + 4))) (w (96 + 6 * r + 5))) := by
    intro z0 z1
    rw [fX7_roomHash_j42, mx7, xb_some, v_left R F hr, xb_some, mx7, xb_some, kx4, kx5, if_pos (nn_in (by omega) (by omega)), nn_clamp (by omega), R (96 + 6 * r + 4) (by omega), mx7, xb_some, if_pos (nn_in (by omega) (by omega)), nn_clamp (by omega), R (96 + 6 * r + 5) (by omega), mx7, xb_some]
  rw [fX7_roomHash, v_state R hr, xb_some, mx7, xb_some, v_who R F.1 hr, xb_some, nb_z, n_hr]
  by_cases c : n_who w r
  · rw [if_pos c, kx2, if_pos (nn_in (by omega) (by omega)), nn_clamp (by omega), R _ (by omega), show nn (w (96 + 6 * r + 2)) + (1 : Int32) = nn (w (96 + 6 * r + 2) + 1) from nn_add _ 1, J, if_pos c]
  · rw [if_neg c, ← mz0, J, if_neg c]
set_option maxRecDepth 16384 in
theorem v_hR {u : x_H} {w : Nat → Nat} {B : Nat} (R : Rv (u 41) w) (F : Wf B w) (y1 : Int32) : ∀ (d n : Nat) (h : Int64), d ≤ 16 → d < n → fX7_digest_b68 n u y1 h (nn (16 - d)) = fX7_digest_b191 400 u y1 (mx (n_hR w d h) (w 552)) (nn 0) := by
  intro d
  induction d with
  | zero =>
    intro n h hd hn
    obtain ⟨n, rfl⟩ : ∃ m, n = m + 1 := ⟨n - 1, by omega⟩
    have q2 : fX7_rooms u (2 : Int32) = some (nn (n_cn w 2 16)) := v_rooms2 R F.1 (s := 2) (by omega)
    have q0 : fX7_rooms u (0 : Int32) = some (nn (n_cn w 0 16)) := v_rooms2 R F.1 (s := 0) (by omega)
    rw [fX7_digest_b68, n_hR, if_pos (by decide), q2, xb_some, mx7, xb_some, xb_some, mx7, xb_some, q0, xb_some, mx7, xb_some, v_next R F, xb_some, mx7, xb_some, xb_some, mx7, xb_some, show u 41 (Int32.toNatClampNeg (555 : Int32)) = nn (w 555) from R 555 (by omega), mx7, xb_some, show u 41 (Int32.toNatClampNeg (556 : Int32)) = nn (w 556) from R 556 (by omega), mx7, xb_some, show u 41 (Int32.toNatClampNeg (557 : Int32)) = nn (w 557) from R 557 (by omega), mx7, xb_some, show u 41 (Int32.toNatClampNeg (552 : Int32)) = nn (w 552) from R 552 (by omega), mx7, xb_some]
    rfl
  | succ d ih =>
    intro n h hd hn
    obtain ⟨n, rfl⟩ : ∃ m, n = m + 1 := ⟨n - 1, by omega⟩
    have e12 : 16 - (d + 1) = 15 - d := by omega
    have e13 : 16 - d = 15 - d + 1 := by omega
    have I := fun h => ih n h (by omega) (by omega)
    rw [e13] at I
    rw [fX7_digest_b68, n_hR, e12, if_neg (fun h => by have := (nn_le (a := 16) (by omega) (by omega)).mp h; omega), v_hr R F (by omega), xb_some, show nn (15 - d) + (1 : Int32) = nn (15 - d + 1) from nn_add _ 1, x_let_n]
    exact I _
def n_hm (w : Nat → Nat) (h : Int64) (p : Nat) : Int64 := mx (mx (mx h (w (192 + 6 * p))) (w (192 + 6 * p + 1))) (if w (192 + 6 * p) = 0 then 0 else w (192 + 6 * p + 2) + 1)
def n_hM (w : Nat → Nat) : Nat → Int64 → Int64
  | 0, h => h
  | d + 1, h => n_hM w d (n_hm w h (w 552 - (d + 1)))
set_option maxRecDepth 16384 in
theorem u_hM {σ : x_S} {w : Nat → Nat} (R : Ru (σ 0) w) (hm : w 552 ≤ 60) : ∀ (d n p : Nat) (h : Int64), p + d = w 552 → d < n → fX6_mixMessages_b22 n σ h (nn p) = some (n_hM w d h) := by
  have e3 : σ 0 3 0 = nn (w 552) := R.2.2.2.2.1.1
  intro d
  induction d with
  | zero =>
    intro n p h hd hn
    obtain ⟨n, rfl⟩ : ∃ m, n = m + 1 := ⟨n - 1, by omega⟩
    rw [fX6_mixMessages_b22, n_hM, e3, if_pos ((nn_le (by omega) (by omega)).mpr (by omega))]
  | succ d ih =>
    intro n p h hd hn
    obtain ⟨n, rfl⟩ : ∃ m, n = m + 1 := ⟨n - 1, by omega⟩
    obtain ⟨a1, a2, a3, -⟩ := R.2.2.2.2.1.2 p (by omega)
    rw [fX6_mixMessages_b22, n_hM, e3, show w 552 - (d + 1) = p by omega, if_neg (fun h => by have := (nn_le (by omega) (by omega)).mp h; omega), if_neg (fun h => by have := (nn_le (a := 60) (by omega) (by omega)).mp h; omega), if_pos (nn_in (by omega) (by omega)), nn_clamp (by omega), a1, mx6, xb_some, a2, mx6, xb_some, a3, mm_add1, mx6, xb_some, show nn p + (1 : Int32) = nn (p + 1) from nn_add p 1, x_let_n]
    exact ih n (p + 1) _ (by omega) (by omega)
set_option maxRecDepth 16384 in
theorem v_hM {u : x_H} {w : Nat → Nat} {B : Nat} (R : Rv (u 41) w) (F : Wf B w) (y1 : Int32) : ∀ (d n p : Nat) (h : Int64), p + d = w 552 → d < n → fX7_digest_b191 n u y1 h (nn p) = fX7_digest_b293 400 u y1 (mx (n_hM w d h) (w 554)) (nn 0) := by
  have hm := F.1.2.2.1.2
  have e3 : u 41 (Int32.toNatClampNeg (552 : Int32)) = nn (w 552) := R 552 (by omega)
  intro d
  induction d with
  | zero =>
    intro n p h hd hn
    obtain ⟨n, rfl⟩ : ∃ m, n = m + 1 := ⟨n - 1, by omega⟩
    rw [fX7_digest_b191, n_hM, e3, if_pos ((nn_le (by omega) (by omega)).mpr (by omega)), show u 41 (Int32.toNatClampNeg (554 : Int32)) = nn (w 554) from R 554 (by omega), mx7, xb_some]
    rfl
  | succ d ih =>
    intro n p h hd hn
    obtain ⟨n, rfl⟩ : ∃ m, n = m + 1 := ⟨n - 1, by omega⟩
    have z := F.1.2.2.1.1 p (by omega)
    have I := fun h => ih n (p + 1) h (by omega) (by omega)
    rw [fX7_digest_b191, n_hM, e3, show w 552 - (d + 1) = p by omega, if_neg (fun h => by have := (nn_le (by omega) (by omega)).mp h; omega), kp0, x_let_n, show nn (192 + 6 * p) + (1 : Int32) = nn (192 + 6 * p + 1) from nn_add _ 1, show nn (192 + 6 * p) + (2 : Int32) = nn (192 + 6 * p + 2) from nn_add _ 2, if_pos (nn_in (by omega) (by omega)), nn_clamp (by omega), R (192 + 6 * p) (by omega), mx7, xb_some, if_pos (nn_in (by omega) (by omega)), nn_clamp (by omega), R (192 + 6 * p + 1) (by omega), mx7, xb_some, show nn p + (1 : Int32) = nn (p + 1) from nn_add p 1, n_hm]
    by_cases c : w (192 + 6 * p) = 0
    · rw [if_pos (show nn (w (192 + 6 * p)) = (0 : Int32) by rw [c]; rfl), ← mz0, mx7, xb_some, x_let_n, if_pos c]
      exact I _
    · rw [if_neg (show ¬ nn (w (192 + 6 * p)) = (0 : Int32) from fun e => c ((nn_0 (by omega)).mp e)), if_pos (nn_in (by omega) (by omega)), nn_clamp (by omega), R (192 + 6 * p + 2) (by omega), show nn (w (192 + 6 * p + 2)) + (1 : Int32) = nn (w (192 + 6 * p + 2) + 1) from nn_add _ 1, mx7, xb_some, x_let_n, if_neg c]
      exact I _
