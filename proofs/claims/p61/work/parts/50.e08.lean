set_option maxRecDepth 16384 in
theorem sh_tab : ∀ k, k < 17 → (fX6_bitsOfShare (nn k)).isSome = true := by decide +kernel
def n_bit (k : Nat) : Int64 := (fX6_bitsOfShare (nn k)).getD 0
set_option maxRecDepth 16384 in
theorem n_bit6 {k : Nat} (h : k < 17) : fX6_bitsOfShare (nn k) = some (n_bit k) := by
  have q := sh_tab k h
  unfold n_bit
  cases e : fX6_bitsOfShare (nn k) with
  | none => rw [e] at q; cases q
  | some y => rfl
def mx (h : Int64) (a : Nat) : Int64 := (31 : Int64) * h + (nn a).toInt64
set_option maxRecDepth 16384 in
theorem mx6 (h : Int64) (a : Nat) : fX6_mix h (nn a).toInt64 = some (mx h a) := rfl
set_option maxRecDepth 16384 in
theorem mz0 : (nn 0).toInt64 = (0 : Int64) := by decide
set_option maxRecDepth 16384 in
theorem mz1 : (nn 1).toInt64 = (1 : Int64) := by decide
set_option maxRecDepth 16384 in
theorem mx60 (h : Int64) : fX6_mix h (0 : Int64) = some (mx h 0) := by rw [← mz0]; rfl
set_option maxRecDepth 16384 in
theorem mx61 (h : Int64) : fX6_mix h (1 : Int64) = some (mx h 1) := by rw [← mz1]; rfl
def n_hg (w : Nat → Nat) (h : Int64) (g : Nat) : Int64 := mx (mx (mx (mx (mx (mx (mx h (w (8 * g))) (if 2 ≤ w (8 * g) then w (8 * g + 1) + 1 else 0)) (if w (8 * g) = 3 then w (8 * g + 2) + w (8 * g + 3) - w 554 else 0)) (if w (8 * g) = 3 then n_ask w g else 0)) (if n_hnt w g then 1 else 0)) (w (8 * g + 6))) (n_choice w g)
def n_hG (w : Nat → Nat) : Nat → Int64 → Int64
  | 0, h => mx h (n_hs 12 w)
  | d + 1, h => n_hG w d (n_hg w h (11 - d))
set_option maxRecDepth 16384 in
theorem u_hG {σ : x_S} {w : Nat → Nat} {B : Nat} (R : Ru (σ 0) w) (F : Wf B w) : ∀ (d n : Nat) (h : Int64), d ≤ 12 → d < n → fX6_mixGuests_b14 n σ h (nn (12 - d)) = some (n_hG w d h) := by
  have FM : Wm B w := ⟨F.1, F.2.2⟩
  have et : σ 0 0 0 = nn (w 554) := R.2.2.2.2.2.1.1
  intro d
  induction d with
  | zero =>
    intro n h hd hn
    obtain ⟨n, rfl⟩ : ∃ m, n = m + 1 := ⟨n - 1, by omega⟩
    rw [fX6_mixGuests_b14, n_hG, if_pos (by decide), u_inRooms R.1 F.1.1, xb_some, mx6, xb_some]
  | succ d ih =>
    intro n h hd hn
    obtain ⟨n, rfl⟩ : ∃ m, n = m + 1 := ⟨n - 1, by omega⟩
    obtain ⟨g, hgd⟩ : ∃ g, g = 11 - d := ⟨_, rfl⟩
    have e12 : 12 - (d + 1) = g := by omega
    have e13 : 12 - d = g + 1 := by omega
    have hg : g < 12 := by omega
    have I := fun h => ih n h (by omega) (by omega)
    rw [e13] at I
    have e6 : σ 0 6 (Int32.toNatClampNeg (nn g)) = mm (if 2 ≤ w (8 * g) then w (8 * g + 1) + 1 else 0) := by rw [nn_clamp (by omega)]; exact (R.1 g hg).2.1
    have e11 : σ 0 11 (Int32.toNatClampNeg (nn g)) = nn (w (8 * g + 6)) := by rw [nn_clamp (by omega)]; exact (R.1 g hg).2.2.2.2.2.2.1
    rw [fX6_mixGuests_b14, n_hG, e12, ← hgd, if_neg (fun h => by have := (nn_le (a := 12) (by omega) (by omega)).mp h; omega), if_pos (nn_in (by omega) hg), g_doing R hg, mx6, xb_some, e6, mm_add1, mx6, xb_some, et, u_ticksUntilEnd R FM hg, xb_some, mx6, xb_some, u_ask R FM hg, xb_some, mx6, xb_some, u_hnt R F.1 hg, xb_some, nb_z, u_roomToOffer R F.1 hg, e11, show nn g + (1 : Int32) = nn (g + 1) from nn_add g 1, n_hg]
    by_cases c : n_hnt w g
    · rw [if_pos c, if_pos c, mx61, xb_some, mx6, xb_some, xb_some, mm_add1, mx6, xb_some, x_let_n]
      exact I _
    · rw [if_neg c, if_neg c, mx60, xb_some, mx6, xb_some, xb_some, mm_add1, mx6, xb_some, x_let_n]
      exact I _
def n_hr (w : Nat → Nat) (h : Int64) (r : Nat) : Int64 := mx (mx (mx (mx (mx h (w (96 + 6 * r))) (if n_who w r then w (96 + 6 * r + 2) + 1 else 0)) (n_left w r)) (w (96 + 6 * r + 4))) (w (96 + 6 * r + 5))
def n_hR (w : Nat → Nat) : Nat → Int64 → Int64
  | 0, h => mx (mx (mx (mx (mx (mx (mx (mx h (n_cn w 2 16)) (n_cn w 2 16)) (n_cn w 0 16)) (n_nx w 16 0)) (n_nx w 16 0)) (w 555)) (w 556)) (w 557)
  | d + 1, h => n_hR w d (n_hr w h (15 - d))
set_option maxRecDepth 16384 in
theorem u_hR {σ : x_S} {w : Nat → Nat} {B : Nat} (R : Ru (σ 0) w) (F : Wf B w) : ∀ (d n : Nat) (h : Int64), d ≤ 16 → d < n → Ok (fX6_mixRooms_b14 n σ h (nn (16 - d))) (fun q => q.1 = n_hR w d h ∧ ∀ i, i ≠ 1 → q.2 i = σ i) := by
  have et : σ 0 0 0 = nn (w 554) := R.2.2.2.2.2.1.1
  intro d
  induction d with
  | zero =>
    intro n h hd hn
    obtain ⟨n, rfl⟩ : ∃ m, n = m + 1 := ⟨n - 1, by omega⟩
    have q2 : fX3_countRooms (σ 0) (2 : Int32) = some (nn (n_cn w 2 16)) := u_rooms R.2.1 F.1 (s := 2) (by omega)
    have q0 : fX3_countRooms (σ 0) (0 : Int32) = some (nn (n_cn w 0 16)) := u_rooms R.2.1 F.1 (s := 0) (by omega)
    rw [fX6_mixRooms_b14, n_hR, if_pos (by decide), q2, xb_some, mx6, xb_some, u_leased R.2.2.1 F.1, xb_some, mx6, xb_some, q0, xb_some, mx6, xb_some, et, u_next R F, xb_some, mx6, xb_some]
    refine Ok_bind (c_tryTicks F R) (fun q hq => ?_)
    rw [hq.1, hq.2 0 (by omega), mx6, xb_some, R.2.2.2.2.2.2.1.1, mx6, xb_some, R.2.2.2.2.2.2.1.2.1, mx6, xb_some, R.2.2.2.2.2.2.1.2.2, mx6, xb_some]
    exact Ok_some ⟨rfl, hq.2⟩
  | succ d ih =>
    intro n h hd hn
    obtain ⟨n, rfl⟩ : ∃ m, n = m + 1 := ⟨n - 1, by omega⟩
    obtain ⟨r, hrd⟩ : ∃ r, r = 15 - d := ⟨_, rfl⟩
    have e12 : 16 - (d + 1) = r := by omega
    have e13 : 16 - d = r + 1 := by omega
    have hr : r < 16 := by omega
    have z := F.1.2.1.1 r hr
    have I := fun h => ih n h (by omega) (by omega)
    rw [e13] at I
    rw [fX6_mixRooms_b14, n_hR, e12, ← hrd, if_neg (fun h => by have := (nn_le (a := 16) (by omega) (by omega)).mp h; omega), if_pos (nn_in (by omega) hr), g_state R hr, mx6, xb_some, g_who R F.1 hr, mm_add1, mx6, xb_some, et, u_left R F hr, xb_some, mx6, xb_some, g_kept R hr, mm_add1, mx6, xb_some, u_ghostIn R hr, xb_some, nb_z, show nn r + (1 : Int32) = nn (r + 1) from nn_add r 1, n_hr]
    by_cases c : w (96 + 6 * r + 5) = 1
    · rw [if_pos c, mx61, xb_some, x_let_n, c]
      exact I _
    · rw [if_neg c, mx60, xb_some, x_let_n, show w (96 + 6 * r + 5) = 0 by omega]
      exact I _
def n_hm (w : Nat → Nat) (h : Int64) (p : Nat) : Int64 := mx (mx (mx h (w (192 + 6 * p))) (w (192 + 6 * p + 1))) (if w (192 + 6 * p) = 0 then 0 else w (192 + 6 * p + 2) + 1)
def n_hM (w : Nat → Nat) : Nat → Int64 → Int64
  | 0, h => h
  | d + 1, h => n_hM w d (n_hm w h (w 552 - (d + 1)))
set_option maxRecDepth 16384 in
theorem u_hM {σ : x_S} {w : Nat → Nat} (R : Ru (σ 0) w) (hm : w 552 ≤ 60) : ∀ (d n p : Nat) (h : Int64), p + d = w 552 → d < n → fX6_mixMessages_b22 n σ h (nn p) = some (n_hM w d h) := by
  have e3 : σ 0 3 0 = nn (w 552) := R.2.2.2.2.1.1
  intro d
  induction d with
  | zero =>
    intro n p h hd hn
    obtain ⟨n, rfl⟩ : ∃ m, n = m + 1 := ⟨n - 1, by omega⟩
    rw [fX6_mixMessages_b22, n_hM, e3, if_pos ((nn_le (by omega) (by omega)).mpr (by omega))]
  | succ d ih =>
    intro n p h hd hn
    obtain ⟨n, rfl⟩ : ∃ m, n = m + 1 := ⟨n - 1, by omega⟩
    obtain ⟨a1, a2, a3, -⟩ := R.2.2.2.2.1.2 p (by omega)
    rw [fX6_mixMessages_b22, n_hM, e3, show w 552 - (d + 1) = p by omega, if_neg (fun h => by have := (nn_le (by omega) (by omega)).mp h; omega), if_neg (fun h => by have := (nn_le (a := 60) (by omega) (by omega)).mp h; omega), if_pos (nn_in (by omega) (by omega)), nn_clamp (by omega), a1, mx6, xb_some, a2, mx6, xb_some, a3, mm_add1, mx6, xb_some, show nn p + (1 : Int32) = nn (p + 1) from nn_add p 1, x_let_n]
    exact ih n (p + 1) _ (by omega) (by omega)
def n_hA (w : Nat → Nat) : Nat → Int64 → Int64
  | 0, h => mx (mx (mx (mx (mx h (w 558)) (w 559)) (w 560)) (w 561)) (w 562)
  | d + 1, h => n_hA w d (mx h (w (563 + (6 - d))))
set_option maxRecDepth 16384 in
theorem u_hA {σ : x_S} {w : Nat → Nat} (R : Ru (σ 0) w) : ∀ (d n : Nat) (h : Int64), d ≤ 7 → d < n → fX6_mixAccounts_b16 n σ h (nn (7 - d)) = some (n_hA w d h) := by
  obtain ⟨⟨-, -, q2, q3, q4, q5, q6⟩, -, q7⟩ := R.2.2.2.2.2
  intro d
  induction d with
  | zero =>
    intro n h hd hn
    obtain ⟨n, rfl⟩ : ∃ m, n = m + 1 := ⟨n - 1, by omega⟩
    rw [fX6_mixAccounts_b16, n_hA, if_pos (by decide), q2, mx6, xb_some, q3, mx6, xb_some, q4, mx6, xb_some, q5, mx6, xb_some, q6, mx6, xb_some]
  | succ d ih =>
    intro n h hd hn
    obtain ⟨n, rfl⟩ : ∃ m, n = m + 1 := ⟨n - 1, by omega⟩
    have e12 : 7 - (d + 1) = 6 - d := by omega
    have e13 : 7 - d = 6 - d + 1 := by omega
    have I := fun h => ih n h (by omega) (by omega)
    rw [e13] at I
    rw [fX6_mixAccounts_b16, n_hA, e12, if_neg (fun h => by have := (nn_le (a := 7) (by omega) (by omega)).mp h; omega), if_pos (nn_in (by omega) (by omega)), nn_clamp (by omega), q7 (6 - d) (by omega), mx6, xb_some, show nn (6 - d) + (1 : Int32) = nn (6 - d + 1) from nn_add _ 1, x_let_n]
    exact I _
def n_hX (x : Nat → Nat) (l : Nat) : Nat → Int64 → Int64
  | 0, h => h
  | d + 1, h => n_hX x l d (mx h (x (l - (d + 1))))
set_option maxRecDepth 16384 in
theorem u_hX {σ : x_S} {l : Nat} {x : Nat → Nat} (X : YcX σ l x) (hl : l ≤ 60) : ∀ (d n p : Nat) (h : Int64), p + d = l → d < n → fX6_mixSlotsAndText_b53 n σ h (nn p) = some (n_hX x l d h) := by
  intro d
  induction d with
  | zero =>
    intro n p h hd hn
    obtain ⟨n, rfl⟩ : ∃ m, n = m + 1 := ⟨n - 1, by omega⟩
    rw [fX6_mixSlotsAndText_b53, n_hX, X.1, if_pos ((nn_le (by omega) (by omega)).mpr (by omega))]
  | succ d ih =>
    intro n p h hd hn
    obtain ⟨n, rfl⟩ : ∃ m, n = m + 1 := ⟨n - 1, by omega⟩
    rw [fX6_mixSlotsAndText_b53, n_hX, X.1, show l - (d + 1) = p by omega, if_neg (fun h => by have := (nn_le (by omega) (by omega)).mp h; omega), if_neg (fun h => by have := (nn_le (a := 60) (by omega) (by omega)).mp h; omega), if_pos (nn_in (by omega) (by omega)), nn_clamp (by omega), X.2 p (by omega), mx6, xb_some, show nn p + (1 : Int32) = nn (p + 1) from nn_add p 1, x_let_n]
    exact ih n (p + 1) _ (by omega) (by omega)
def n_tail (w v : Nat → Nat) (o n : Nat) (t : Nat → Nat) (l : Nat) (x : Nat → Nat) (h : Int64) : Int64 := n_hX x l l (mx (mx (mx ((31 : Int64) * mx (mx (mx h o) (n_hs 12 v)) n + n_bit (n_cn w 2 16)) (t 0)) (t 1)) l)
section
variable {A n l : Nat} {σ τ : x_S} {m m' : x_H} {w v : Nat → Nat} {S K : Nat → Nat → Nat} {t x : Nat → Nat}
set_option maxRecDepth 16384 in
theorem u_hS (Y : Yc σ w n S t K l x) (ht : ∀ s, s < 2 → t s ≤ 1) (hl : l ≤ 60) (h : Int64) : fX6_mixSlotsAndText σ h = some (n_hX x l l (mx (mx (mx h (t 0)) (t 1)) l)) := by
  have t0 : σ 10 36 (Int32.toNatClampNeg (0 : Int32)) = nn (t 0) := (Y.2.2.1 0 (by omega)).2.1
  have t1 : σ 10 36 (Int32.toNatClampNeg (nn 1)) = nn (t 1) := (Y.2.2.1 1 (by omega)).2.1
  have ht0 := ht 0 (by omega)
  have ht1 := ht 1 (by omega)
  have J2 : ∀ z1 : Int64, fX6_mixSlotsAndText_b5 398 σ z1 (nn 2) = some (n_hX x l l (mx z1 l)) := by
    intro z1
    rw [fX6_mixSlotsAndText_b5, if_pos (by decide), Y.2.2.2.1, mx6, xb_some]
    exact u_hX Y.2.2.2 hl l 400 0 _ (by omega) (by omega)
  have J1 : ∀ z1 : Int64, fX6_mixSlotsAndText_b5 399 σ z1 (nn 1) = some (n_hX x l l (mx (mx z1 (t 1)) l)) := by
    intro z1
    rw [fX6_mixSlotsAndText_b5, if_neg (by decide), if_pos (nn_in (by omega) (by omega)), t1, show nn 1 + (1 : Int32) = nn 2 from nn_add 1 1]
    by_cases c : t 1 = 0
    · rw [if_pos (show nn (t 1) = (0 : Int32) by rw [c]; rfl), mx60, xb_some, x_let_n, c]; exact J2 _
    · rw [if_neg (show ¬ nn (t 1) = (0 : Int32) from fun e => c ((nn_0 (by omega)).mp e)), mx61, xb_some, x_let_n, show t 1 = 1 by omega]; exact J2 _
  rw [fX6_mixSlotsAndText, fX6_mixSlotsAndText_b5, if_neg (by decide), if_pos (show x_in (0 : Int32) 2 by decide), t0, show (0 : Int32) + (1 : Int32) = nn 1 from rfl]
  by_cases c : t 0 = 0
  · rw [if_pos (show nn (t 0) = (0 : Int32) by rw [c]; rfl), mx60, xb_some, x_let_n, c]; exact J1 _
  · rw [if_neg (show ¬ nn (t 0) = (0 : Int32) from fun e => c ((nn_0 (by omega)).mp e)), mx61, xb_some, x_let_n, show t 0 = 1 by omega]; exact J1 _
end
