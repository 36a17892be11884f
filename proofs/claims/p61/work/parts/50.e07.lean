set_option maxRecDepth 16384 in
theorem no3 {k : Nat} (h : k < 1000) (c : k ≠ 3) : ¬ nn k = (3 : Int32) := fun e => c ((nn_is 3 h (by omega)).mp e)
set_option maxRecDepth 16384 in
theorem eq_no {a : Int32} {f : Nat → Option Nat} {k : Option Nat} (h : fX6_isGuest a = some 0) (hf : f 0 = some 0) : x_or (eX6_requireGuest a) f k = some 0 := by rw [eg_no h, xo_some, hf]
def n_ask (w : Nat → Nat) (g : Nat) : Nat := if w 554 - w (8 * g + 2) < w (8 * g + 3) / 2 then w (8 * g + 3) / 2 - (w 554 - w (8 * g + 2)) else 7 * w (8 * g + 3) / 8 - (w 554 - w (8 * g + 2))
set_option maxRecDepth 16384 in
theorem u_ask {B : Nat} {u : x_H} {w : Nat → Nat} (R : Ru u w) (F : Wm B w) {g : Nat} (hg : g < 12) : fX1_ticksUntilAsking u (nn g) (nn (w 554)) = some (nn (if w (8 * g) = 3 then n_ask w g else 0)) := by
  have z := F.1.1 g hg
  have b0 := F.2.1
  have b1 := F.2.2 554
  rw [fX1_ticksUntilAsking, u_isGuest hg, xb_some, if_neg nn_one, if_pos (nn_in (by omega) hg), g_doing R hg]
  by_cases c : w (8 * g) = 3
  · rw [if_pos (show nn (w (8 * g)) = (3 : Int32) by rw [c]; rfl), if_pos c, nn_clamp (by omega), (R.1 g hg).2.2.2.2.1, nn_sub (by omega), x_let_n, u_early R F hg, xb_some, n_ask]
    by_cases d : w 554 - w (8 * g + 2) < w (8 * g + 3) / 2
    · rw [if_neg (fun h => by have := (nn_le (by omega) (by omega)).mp h; omega), if_pos d, nn_max0 (by omega) (by omega)]
    · rw [if_pos ((nn_le (by omega) (by omega)).mpr (by omega)), if_neg d, u_late R F hg, xb_some, nn_max0 (by omega) (by omega)]
  · rw [if_neg (no3 (by omega) c), if_neg c]; rfl
set_option maxRecDepth 16384 in
theorem nn_sub_le {a c : Nat} (ha : a < 1073741824) (hc : c < 1073741824) : (nn a - nn c ≤ (0 : Int32)) ↔ a ≤ c := by
  rw [Int32.le_iff_toInt_le, nn_subInt ha hc, show (0 : Int32).toInt = 0 from rfl]; omega
set_option maxRecDepth 16384 in
theorem vpb {c : Prop} [Decidable c] : vp_nar .boolean (nn (if c then 1 else 0)) = nn (if c then 1 else 0) := by
  split
  · exact vpb1
  · exact vpb0
set_option maxRecDepth 16384 in
theorem nb_z {c : Prop} [Decidable c] {β : Type} (p q : β) : (if nn (if c then 1 else 0) = (0 : Int32) then p else q) = if c then q else p := by
  by_cases h : c
  · rw [if_pos h, if_pos h, if_neg (show ¬ nn 1 = (0 : Int32) from nn_one)]
  · rw [if_neg h, if_neg h, if_pos (show nn 0 = (0 : Int32) from rfl)]
abbrev n_hnt (w : Nat → Nat) (g : Nat) : Prop := w (8 * g) = 3 ∧ w (96 + 6 * w (8 * g + 1) + 5) = 1
set_option maxRecDepth 16384 in
theorem u_hnt {u : x_H} {w : Nat → Nat} (R : Ru u w) (Z : Wz w) {g : Nat} (hg : g < 12) : fX2_sleepsByGhost u (nn g) = some (nn (if n_hnt w g then 1 else 0)) := by
  have z := Z.1 g hg
  rw [fX2_sleepsByGhost, u_isGuest hg, xb_some, if_neg nn_one, if_pos (nn_in (by omega) hg), g_doing R hg]
  by_cases c : w (8 * g) = 3
  · rw [if_pos (show nn (w (8 * g)) = (3 : Int32) by rw [c]; rfl), nn_clamp (by omega), (R.1 g hg).2.1, if_pos (by omega), mm_succ, u_ghostIn R z.2.1, xb_some, nb_z]
    by_cases d : w (96 + 6 * w (8 * g + 1) + 5) = 1
    · rw [if_pos d, if_pos (show n_hnt w g from ⟨c, d⟩)]; rfl
    · rw [if_neg d, if_neg (show ¬ n_hnt w g from fun h => d h.2)]; rfl
  · rw [if_neg (no3 (by omega) c), if_neg (show ¬ n_hnt w g from fun h => c h.1)]; rfl
set_option maxRecDepth 16384 in
theorem g_state {u : x_H} {w : Nat → Nat} (R : Ru u w) {r : Nat} (hr : r < 16) : u 12 (Int32.toNatClampNeg (nn r)) = nn (w (96 + 6 * r)) := by rw [nn_clamp (by omega)]; exact (R.2.1 r hr).1
set_option maxRecDepth 16384 in
theorem kx1 {r : Nat} : (96 : Int32) + 6 * nn r + 1 = nn (96 + 6 * r + 1) := by (try simp (disch := omega) only [nn_add, nn_mul, nn_clamp, nn_in1, nn_inj, nn_lt, nn_le, nn_neg, nu_eq1, nu_ne1, nn_nb0, nn_true, nn_false, if_true, if_false, x_let_n, x_let_m, xb_some, eq_self, ite_true, ite_false, not_false_eq_true, not_true_eq_false, nneg1, nl0, nl1, nl2, nl3, nl4, nl5, nl6, nl7, nl8, nl9, nl10, nl11, nl12, nl15, nl16, nl60, nl96, nl192, nl552, nl553, nl554, nl555, nl556, nl557, nl558, nl559, nl560, nl561, nl562, nl563, nl570])
set_option maxRecDepth 16384 in
theorem kx2 {r : Nat} : (96 : Int32) + 6 * nn r + 2 = nn (96 + 6 * r + 2) := by (try simp (disch := omega) only [nn_add, nn_mul, nn_clamp, nn_in1, nn_inj, nn_lt, nn_le, nn_neg, nu_eq1, nu_ne1, nn_nb0, nn_true, nn_false, if_true, if_false, x_let_n, x_let_m, xb_some, eq_self, ite_true, ite_false, not_false_eq_true, not_true_eq_false, nneg1, nl0, nl1, nl2, nl3, nl4, nl5, nl6, nl7, nl8, nl9, nl10, nl11, nl12, nl15, nl16, nl60, nl96, nl192, nl552, nl553, nl554, nl555, nl556, nl557, nl558, nl559, nl560, nl561, nl562, nl563, nl570])
abbrev n_who (w : Nat → Nat) (r : Nat) : Prop := 1 ≤ w (96 + 6 * r) ∧ w (96 + 6 * r) ≤ 2
set_option maxRecDepth 16384 in
theorem g_who {u : x_H} {w : Nat → Nat} (R : Ru u w) (Z : Wz w) {r : Nat} (hr : r < 16) : u 13 (Int32.toNatClampNeg (nn r)) = mm (if n_who w r then w (96 + 6 * r + 2) + 1 else 0) := by
  have z := Z.2.1.1 r hr
  rw [nn_clamp (by omega), (R.2.1 r hr).2.1]
  by_cases c : n_who w r
  · rw [if_pos c, if_pos (by omega)]
  · rw [if_neg c, if_neg (by omega)]
def n_left (w : Nat → Nat) (r : Nat) : Nat := if w (96 + 6 * r) = 0 then 0 else w (96 + 6 * r + 1) - w 554
set_option maxRecDepth 16384 in
theorem u_left {u : x_H} {w : Nat → Nat} {B : Nat} (R : Ru u w) (F : Wf B w) {r : Nat} (hr : r < 16) : fX3_ticksUntilFree u (nn r) (nn (w 554)) = some (nn (n_left w r)) := by
  have z := F.1.2.1.1 r hr
  have X := F.2.1.2 r hr
  rw [fX3_ticksUntilFree, u_isRoom hr, xb_some, if_neg nn_one, if_pos (nn_in (by omega) hr), g_state R hr, n_left]
  by_cases c : w (96 + 6 * r) = 0
  · rw [if_pos (show nn (w (96 + 6 * r)) = (0 : Int32) by rw [c]; rfl), if_pos c]; rfl
  · rw [if_neg (fun e => c ((nn_0 (by omega)).mp e)), if_neg c, nn_clamp (by omega), (R.2.1 r hr).2.2.1 c, nn_sub (by have := X c; omega)]
section
variable {n l : Nat} {m : x_H} {w : Nat → Nat} {S K : Nat → Nat → Nat} {t x : Nat → Nat}
end
set_option maxRecDepth 16384 in
theorem kp0 {p : Nat} : (192 : Int32) + 6 * nn p = nn (192 + 6 * p) := by (try simp (disch := omega) only [nn_add, nn_mul, nn_clamp, nn_in1, nn_inj, nn_lt, nn_le, nn_neg, nu_eq1, nu_ne1, nn_nb0, nn_true, nn_false, if_true, if_false, x_let_n, x_let_m, xb_some, eq_self, ite_true, ite_false, not_false_eq_true, not_true_eq_false, nneg1, nl0, nl1, nl2, nl3, nl4, nl5, nl6, nl7, nl8, nl9, nl10, nl11, nl12, nl15, nl16, nl60, nl96, nl192, nl552, nl553, nl554, nl555, nl556, nl557, nl558, nl559, nl560, nl561, nl562, nl563, nl570])
set_option maxRecDepth 16384 in
theorem kp1 {p : Nat} : (192 : Int32) + 6 * nn p + 1 = nn (192 + 6 * p + 1) := by (try simp (disch := omega) only [nn_add, nn_mul, nn_clamp, nn_in1, nn_inj, nn_lt, nn_le, nn_neg, nu_eq1, nu_ne1, nn_nb0, nn_true, nn_false, if_true, if_false, x_let_n, x_let_m, xb_some, eq_self, ite_true, ite_false, not_false_eq_true, not_true_eq_false, nneg1, nl0, nl1, nl2, nl3, nl4, nl5, nl6, nl7, nl8, nl9, nl10, nl11, nl12, nl15, nl16, nl60, nl96, nl192, nl552, nl553, nl554, nl555, nl556, nl557, nl558, nl559, nl560, nl561, nl562, nl563, nl570])
set_option maxRecDepth 16384 in
theorem kp2 {p : Nat} : (192 : Int32) + 6 * nn p + 2 = nn (192 + 6 * p + 2) := by (try simp (disch := omega) only [nn_add, nn_mul, nn_clamp, nn_in1, nn_inj, nn_lt, nn_le, nn_neg, nu_eq1, nu_ne1, nn_nb0, nn_true, nn_false, if_true, if_false, x_let_n, x_let_m, xb_some, eq_self, ite_true, ite_false, not_false_eq_true, not_true_eq_false, nneg1, nl0, nl1, nl2, nl3, nl4, nl5, nl6, nl7, nl8, nl9, nl10, nl11, nl12, nl15, nl16, nl60, nl96, nl192, nl552, nl553, nl554, nl555, nl556, nl557, nl558, nl559, nl560, nl561, nl562, nl563, nl570])
set_option maxRecDepth 16384 in
theorem u_hs {u : x_H} {w : Nat → Nat} (R : RuG u w) (Z : WzG w) : ∀ (d n c : Nat), d ≤ 12 → d < n → fX1_countHoused_b4 n u (nn c) (nn (12 - d)) = some (nn (c + n_hs d w)) := by
  intro d
  induction d with
  | zero =>
    intro n c hd hn
    obtain ⟨n, rfl⟩ : ∃ m, n = m + 1 := ⟨n - 1, by omega⟩
    rw [fX1_countHoused_b4, n_hs, if_pos (by decide)]
    rfl
  | succ d ih =>
    intro n c hd hn
    obtain ⟨n, rfl⟩ : ∃ m, n = m + 1 := ⟨n - 1, by omega⟩
    have e12 : 12 - (d + 1) = 11 - d := by omega
    have e13 : 12 - d = 11 - d + 1 := by omega
    have z := (Z (11 - d) (by omega)).1
    have I := fun c => ih n c (by omega) (by omega)
    rw [e13] at I
    rw [fX1_countHoused_b4, n_hs, e12, if_neg (fun h => by have := (nn_le (a := 12) (by omega) (by omega)).mp h; omega), if_pos (nn_in (by omega) (by omega)), nn_clamp (by omega), (R (11 - d) (by omega)).1]
    by_cases c1 : w (8 * (11 - d)) = 3
    · rw [if_pos c1, if_pos (show nn (w (8 * (11 - d))) = (3 : Int32) by rw [c1]; rfl)]
      have h := I (c + 1)
      rw [← nn_add, ← nn_add] at h
      rw [show c + (1 + n_hs d w) = c + 1 + n_hs d w by omega]
      exact h
    · rw [if_neg c1, if_neg (no3 (by omega) c1)]
      have h := I c
      rw [← nn_add] at h
      rw [Nat.zero_add]
      exact h
set_option maxRecDepth 16384 in
theorem u_inRooms {u : x_H} {w : Nat → Nat} (R : RuG u w) (Z : WzG w) : fX1_countHoused u = some (nn (n_hs 12 w)) := by
  have h := u_hs R Z 12 400 0 (by omega) (by omega)
  rw [Nat.zero_add] at h
  exact h
def n_cn (w : Nat → Nat) (s : Nat) : Nat → Nat
  | 0 => 0
  | d + 1 => (if w (96 + 6 * (15 - d)) = s then 1 else 0) + n_cn w s d
set_option maxRecDepth 16384 in
theorem n_cn_le (w : Nat → Nat) (s d : Nat) : n_cn w s d ≤ d := by
  induction d with
  | zero => exact Nat.le_refl _
  | succ d ih => unfold n_cn; split <;> omega
set_option maxRecDepth 16384 in
theorem u_cn {u : x_H} {w : Nat → Nat} (R : RuI u w) (Z : Wz w) {s : Nat} (hs : s < 9) : ∀ (d n c : Nat), d ≤ 16 → d < n → fX3_countRooms_b4 n u (nn s) (nn c) (nn (16 - d)) = some (nn (c + n_cn w s d)) := by
  intro d
  induction d with
  | zero =>
    intro n c hd hn
    obtain ⟨n, rfl⟩ : ∃ m, n = m + 1 := ⟨n - 1, by omega⟩
    rw [fX3_countRooms_b4, n_cn, if_pos (by decide)]
    rfl
  | succ d ih =>
    intro n c hd hn
    obtain ⟨n, rfl⟩ : ∃ m, n = m + 1 := ⟨n - 1, by omega⟩
    have e12 : 16 - (d + 1) = 15 - d := by omega
    have e13 : 16 - d = 15 - d + 1 := by omega
    have z := (Z.2.1.1 (15 - d) (by omega)).1
    have I := fun c => ih n c (by omega) (by omega)
    rw [e13] at I
    rw [fX3_countRooms_b4, n_cn, e12, if_neg (fun h => by have := (nn_le (a := 16) (by omega) (by omega)).mp h; omega), if_pos (nn_in (by omega) (by omega)), nn_clamp (by omega), (R (15 - d) (by omega)).1]
    by_cases c1 : w (96 + 6 * (15 - d)) = s
    · rw [if_pos c1, if_pos (by rw [c1])]
      have h := I (c + 1)
      rw [← nn_add, ← nn_add] at h
      rw [show c + (1 + n_cn w s d) = c + 1 + n_cn w s d by omega]
      exact h
    · rw [if_neg c1, if_neg (fun h => c1 ((nn_inj (by omega) (by omega)).mp h))]
      have h := I c
      rw [← nn_add] at h
      rw [Nat.zero_add]
      exact h
set_option maxRecDepth 16384 in
theorem u_rooms {u : x_H} {w : Nat → Nat} (R : RuI u w) (Z : Wz w) {s : Nat} (hs : s < 9) : fX3_countRooms u (nn s) = some (nn (n_cn w s 16)) := by
  have h := u_cn R Z hs 16 400 0 (by omega) (by omega)
  rw [Nat.zero_add] at h
  exact h
def n_up (w : Nat → Nat) : Nat → Nat
  | 0 => 0
  | r + 1 => n_up w r + if w (96 + 6 * r) = 2 then 1 else 0
set_option maxRecDepth 16384 in
theorem n_up_cn (w : Nat → Nat) : ∀ d, d ≤ 16 → n_up w (16 - d) + n_cn w 2 d = n_up w 16 := by
  intro d
  induction d with
  | zero => intro _; rfl
  | succ d ih =>
    intro hd
    have h := ih (by omega)
    rw [show 16 - d = 15 - d + 1 by omega, n_up] at h
    rw [show 16 - (d + 1) = 15 - d by omega, n_cn, ← h]
    generalize (if w (96 + 6 * (15 - d)) = 2 then 1 else 0) = q
    omega
def n_sm (w : Nat → Nat) (R : Nat) : Nat → Nat
  | 0 => 0
  | d + 1 => n_ls w (11 - d) R + n_sm w R d
def n_si (a : Nat) : Nat → Nat
  | 0 => 0
  | d + 1 => (if a = 11 - d then 1 else 0) + n_si a d
set_option maxRecDepth 16384 in
theorem n_si_is (a : Nat) : ∀ d, d ≤ 12 → n_si a d = if 12 - d ≤ a ∧ a < 12 then 1 else 0 := by
  intro d
  induction d with
  | zero => intro _; rw [n_si, if_neg (by omega)]
  | succ d ih =>
    intro hd
    rw [n_si, ih (by omega)]
    by_cases c : a = 11 - d
    · rw [if_pos c, if_neg (by omega), if_pos (by omega)]
    · rw [if_neg c]
      by_cases c2 : 12 - d ≤ a ∧ a < 12
      · rw [if_pos c2, if_pos (by omega)]
      · rw [if_neg c2, if_neg (by omega)]
set_option maxRecDepth 16384 in
theorem n_sm_step (w : Nat → Nat) (r : Nat) : ∀ d, n_sm w (r + 1) d = n_sm w r d + if w (96 + 6 * r) = 2 then n_si (w (96 + 6 * r + 2)) d else 0 := by
  intro d
  induction d with
  | zero => rw [n_sm, n_sm, n_si]; split <;> rfl
  | succ d ih =>
    rw [n_sm, n_sm, ih, n_ls, n_si]
    by_cases c : w (96 + 6 * r) = 2
    · rw [if_pos c, if_pos c]
      by_cases c2 : w (96 + 6 * r + 2) = 11 - d
      · rw [if_pos ⟨c, c2⟩, if_pos c2]; omega
      · rw [if_neg (fun h => c2 h.2), if_neg c2]; omega
    · rw [if_neg c, if_neg c, if_neg (fun h => c h.1)]; omega
set_option maxRecDepth 16384 in
theorem n_sm_0 (w : Nat → Nat) : ∀ d, n_sm w 0 d = 0 := by
  intro d
  induction d with
  | zero => rfl
  | succ d ih => rw [n_sm, ih]; rfl
set_option maxRecDepth 16384 in
theorem n_sm_up {w : Nat → Nat} (Z : Wz w) : ∀ r, r ≤ 16 → n_sm w r 12 = n_up w r := by
  intro r
  induction r with
  | zero => intro _; exact n_sm_0 w 12
  | succ r ih =>
    intro hr
    have z := Z.2.1.1 r (by omega)
    rw [n_sm_step, ih (by omega), n_up, n_si_is _ 12 (by omega), if_pos (show 12 - 12 ≤ w (96 + 6 * r + 2) ∧ w (96 + 6 * r + 2) < 12 by omega)]
set_option maxRecDepth 16384 in
theorem n_sm_cn {w : Nat → Nat} (Z : Wz w) : n_sm w 16 12 = n_cn w 2 16 := by
  have h := n_up_cn w 16 (by omega)
  rw [n_sm_up Z 16 (by omega), ← h]
  exact Nat.zero_add _
set_option maxRecDepth 16384 in
theorem u_sm {u : x_H} {w : Nat → Nat} (R : RuL u w) : ∀ (d n c : Nat), d ≤ 12 → d < n → fX3_countLeasesOfGuests_b4 n u (nn c) (nn (12 - d)) = some (nn (c + n_sm w 16 d)) := by
  intro d
  induction d with
  | zero =>
    intro n c hd hn
    obtain ⟨n, rfl⟩ : ∃ m, n = m + 1 := ⟨n - 1, by omega⟩
    rw [fX3_countLeasesOfGuests_b4, n_sm, if_pos (by decide)]
    rfl
  | succ d ih =>
    intro n c hd hn
    obtain ⟨n, rfl⟩ : ∃ m, n = m + 1 := ⟨n - 1, by omega⟩
    have e12 : 12 - (d + 1) = 11 - d := by omega
    have e13 : 12 - d = 11 - d + 1 := by omega
    have I := fun c => ih n c (by omega) (by omega)
    rw [e13] at I
    rw [fX3_countLeasesOfGuests_b4, n_sm, e12, if_neg (fun h => by have := (nn_le (a := 12) (by omega) (by omega)).mp h; omega), if_pos (nn_in (by omega) (by omega)), nn_clamp (by omega), R (11 - d) (by omega), nn_add, x_let_n, show nn (11 - d) + (1 : Int32) = nn (11 - d + 1) from nn_add _ 1, x_let_n, I]
    congr 2
    omega
set_option maxRecDepth 16384 in
theorem u_leased {u : x_H} {w : Nat → Nat} (R : RuL u w) (Z : Wz w) : fX3_countLeasesOfGuests u = some (nn (n_cn w 2 16)) := by
  have h := u_sm R 12 400 0 (by omega) (by omega)
  rw [Nat.zero_add, n_sm_cn Z] at h
  exact h
def n_nx (w : Nat → Nat) : Nat → Nat → Nat
  | 0, least => least
  | d + 1, least => n_nx w d (if 0 < n_left w (15 - d) ∧ (least = 0 ∨ n_left w (15 - d) < least) then n_left w (15 - d) else least)
set_option maxRecDepth 16384 in
theorem n_left_le {w : Nat → Nat} (Z : Wz w) {r : Nat} (hr : r < 16) : n_left w r ≤ 200 := by
  have z := Z.2.1.1 r hr
  unfold n_left
  split <;> omega
set_option maxRecDepth 16384 in
theorem u_nx {u : x_H} {w : Nat → Nat} {B : Nat} (R : Ru u w) (F : Wf B w) : ∀ (d n c : Nat), d ≤ 16 → d < n → c ≤ 200 → fX3_leastTicksUntilFree_b4 n u (nn (w 554)) (nn c) (nn (16 - d)) = some (nn (n_nx w d c)) := by
  intro d
  induction d with
  | zero =>
    intro n c hd hn hc
    obtain ⟨n, rfl⟩ : ∃ m, n = m + 1 := ⟨n - 1, by omega⟩
    rw [fX3_leastTicksUntilFree_b4, n_nx, if_pos (by decide)]
  | succ d ih =>
    intro n c hd hn hc
    obtain ⟨n, rfl⟩ : ∃ m, n = m + 1 := ⟨n - 1, by omega⟩
    have e12 : 16 - (d + 1) = 15 - d := by omega
    have e13 : 16 - d = 15 - d + 1 := by omega
    have z := n_left_le F.1 (r := 15 - d) (by omega)
    have I := fun c hc => ih n c (by omega) (by omega) hc
    rw [e13] at I
    rw [fX3_leastTicksUntilFree_b4, n_nx, e12, if_neg (fun h => by have := (nn_le (a := 16) (by omega) (by omega)).mp h; omega), u_left R F (by omega), xb_some, show nn (15 - d) + (1 : Int32) = nn (15 - d + 1) from nn_add _ 1]
    by_cases c1 : n_left w (15 - d) = 0
    · rw [if_pos (show nn (n_left w (15 - d)) ≤ (0 : Int32) by rw [c1]; decide), if_neg (fun h => by omega), x_let_n]
      exact I c hc
    · rw [if_neg (show ¬ nn (n_left w (15 - d)) ≤ (0 : Int32) from fun h => by have := (nn_le (b := 0) (by omega) (by omega)).mp h; omega)]
      by_cases c2 : c = 0
      · rw [if_pos (show nn c = (0 : Int32) by rw [c2]; rfl), if_pos (show 0 < n_left w (15 - d) ∧ (c = 0 ∨ n_left w (15 - d) < c) from ⟨by omega, Or.inl c2⟩), x_let_n]
        exact I _ z
      · rw [if_neg (show ¬ nn c = (0 : Int32) from fun h => c2 ((nn_0 (by omega)).mp h))]
        by_cases c3 : c ≤ n_left w (15 - d)
        · rw [if_pos ((nn_le (by omega) (by omega)).mpr c3), if_neg (fun h => by omega), x_let_n]
          exact I c hc
        · rw [if_neg (fun h => c3 ((nn_le (by omega) (by omega)).mp h)), if_pos (show 0 < n_left w (15 - d) ∧ (c = 0 ∨ n_left w (15 - d) < c) from ⟨by omega, Or.inr (by omega)⟩), x_let_n]
          exact I _ z
set_option maxRecDepth 16384 in
theorem u_next {u : x_H} {w : Nat → Nat} {B : Nat} (R : Ru u w) (F : Wf B w) : fX3_leastTicksUntilFree u (nn (w 554)) = some (nn (n_nx w 16 0)) := u_nx R F 16 400 0 (by omega) (by omega) (by omega)
set_option maxRecDepth 16384 in
theorem n_nx_is {w : Nat → Nat} : ∀ (d c : Nat), d ≤ 16 → (n_nx w d c = 0 → c = 0 ∧ ∀ r, 16 - d ≤ r → r < 16 → n_left w r = 0) ∧ (n_nx w d c ≠ 0 → (n_nx w d c = c ∨ ∃ r, 16 - d ≤ r ∧ r < 16 ∧ n_left w r = n_nx w d c) ∧ (c = 0 ∨ n_nx w d c ≤ c) ∧ ∀ r, 16 - d ≤ r → r < 16 → n_left w r = 0 ∨ n_nx w d c ≤ n_left w r) := by
  intro d
  induction d with
  | zero =>
    intro c hd
    rw [n_nx]
    exact ⟨fun h => ⟨h, fun r h1 h2 => by omega⟩, fun h => ⟨Or.inl rfl, Or.inr (Nat.le_refl _), fun r h1 h2 => by omega⟩⟩
  | succ d ih =>
    intro c hd
    rw [n_nx]
    obtain ⟨q, hq⟩ : ∃ q, q = n_left w (15 - d) := ⟨_, rfl⟩
    rw [← hq]
    have I := ih (if 0 < q ∧ (c = 0 ∨ q < c) then q else c) (by omega)
    by_cases c1 : 0 < q ∧ (c = 0 ∨ q < c)
    · rw [if_pos c1] at I ⊢
      refine ⟨fun h => ?_, fun h => ?_⟩
      · have := (I.1 h).1; omega
      · obtain ⟨i1, i2, i3⟩ := I.2 h
        refine ⟨Or.inr ?_, ?_, fun r h1 h2 => ?_⟩
        · rcases i1 with i1 | ⟨r, r1, r2, r3⟩
          · exact ⟨15 - d, by omega, by omega, by rw [← hq]; exact i1.symm⟩
          · exact ⟨r, by omega, r2, r3⟩
        · rcases i2 with i2 | i2 <;> omega
        · by_cases e : r = 15 - d
          · rw [e, ← hq]; right; rcases i2 with i2 | i2 <;> omega
          · exact i3 r (by omega) h2
    · rw [if_neg c1] at I ⊢
      refine ⟨fun h => ?_, fun h => ?_⟩
      · have k := I.1 h
        refine ⟨k.1, fun r h1 h2 => ?_⟩
        by_cases e : r = 15 - d
        · rw [e, ← hq]; have := k.1; omega
        · exact k.2 r (by omega) h2
      · obtain ⟨i1, i2, i3⟩ := I.2 h
        refine ⟨?_, i2, fun r h1 h2 => ?_⟩
        · rcases i1 with i1 | ⟨r, r1, r2, r3⟩
          · exact Or.inl i1
          · exact Or.inr ⟨r, by omega, r2, r3⟩
        · by_cases e : r = 15 - d
          · rw [e, ← hq]
            by_cases e2 : q = 0
            · exact Or.inl e2
            · right
              have e3 : ¬ (c = 0 ∨ q < c) := fun h => c1 ⟨by omega, h⟩
              rcases i2 with i2 | i2
              · exact absurd (Or.inl i2) e3
              · omega
          · exact i3 r (by omega) h2

set_option maxRecDepth 16384 in
theorem f_free {u : x_H} {r : Nat} (hr : r < 16) : Ok (fX3_free u (nn r)) (fun u' => ∀ k i, i ≠ r → (k = 12 ∨ k = 14) → u' k i = u k i) := by
  have J : ∀ z0 : Int32, Ok (fX3_dropLease_j20 u z0) (fun u' => ∀ k i, k ≠ 18 → u' k i = u k i) := by
    intro z0
    rw [fX3_dropLease_j20]
    by_cases c : z0 < 0
    · rw [if_pos c]; exact Ok_some (fun k i _ => rfl)
    · rw [if_neg c]
      by_cases c2 : (12 : Int32) ≤ z0
      · rw [if_pos c2]; exact Ok_some (fun k i _ => rfl)
      · rw [if_neg c2]
        rcases nn_cases z0 with h | ⟨n, hn, rfl⟩
        · exact absurd h c
        · have h12 : n < 12 := Nat.lt_of_not_le (fun h => c2 ((nn_le (a := 12) (by omega) hn).mpr h))
          rw [if_pos (nn_in hn h12)]
          exact Ok_let (fun u6 e6 => Ok_some (fun k i hk => by rw [e6, x_hu_ne hk]))
  rw [fX3_free, u_isRoom hr, xb_some, if_neg nn_one]
  refine Ok_bind (T := fun u' => ∀ k i, k ≠ 18 → u' k i = u k i) ?_ (fun u4 h4 => ?_)
  · rw [fX3_dropLease, if_pos (nn_in (by omega) hr)]
    split
    · exact J _
    · exact J _
  · rw [if_pos (nn_in (by omega) hr), nn_clamp (by omega)]
    exact Ok_let (fun u6 e6 => Ok_let (fun u9 e9 => Ok_let (fun u11 e11 => Ok_some (fun k i hi hk => by rw [e11, x_hu_ni hi, e9, x_hu_ni hi, e6, x_hu_ni hi, h4 k i (by omega)]))))
def Fi (u : x_H) (w : Nat → Nat) (a : Nat) : Prop := ∀ r, a ≤ r → r < 16 → u 12 r = nn (w (96 + 6 * r)) ∧ (w (96 + 6 * r) ≠ 0 → u 14 r = nn (w (96 + 6 * r + 1)))
set_option maxRecDepth 16384 in
theorem f_ended {w : Nat → Nat} {B t : Nat} (F : Wf B w) (ht : t < 2147483648) : ∀ (d n : Nat) (u : x_H) (c : Nat), Fi u w (16 - d) → d ≤ 16 → d < n → Ok (fX3_freeEnded_b4 n u (nn t) (nn c) (nn (16 - d))) (fun q => ∃ e, q.1 = nn (c + e) ∧ e ≤ d ∧ ((e = 0 ∧ q.2 = u ∧ ∀ r, 16 - d ≤ r → r < 16 → w (96 + 6 * r) = 0 ∨ t < w (96 + 6 * r + 1)) ∨ (0 < e ∧ ∃ r, r < 16 ∧ w (96 + 6 * r) ≠ 0 ∧ w (96 + 6 * r + 1) ≤ t))) := by
  intro d
  induction d with
  | zero =>
    intro n u c I hd hn
    obtain ⟨n, rfl⟩ : ∃ m, n = m + 1 := ⟨n - 1, by omega⟩
    rw [fX3_freeEnded_b4, if_pos (by decide)]
    exact Ok_some ⟨0, rfl, Nat.le_refl _, Or.inl ⟨rfl, rfl, fun r h1 h2 => by omega⟩⟩
  | succ d ih =>
    intro n u c I hd hn
    obtain ⟨n, rfl⟩ : ∃ m, n = m + 1 := ⟨n - 1, by omega⟩
    obtain ⟨r, hr⟩ : ∃ r, r = 16 - (d + 1) := ⟨_, rfl⟩
    have hn1 : 16 - d = r + 1 := by omega
    have hr16 : r < 16 := by omega
    rw [← hr] at I
    have IH := fun u c I => ih n u c I (by omega) (by omega)
    rw [hn1] at IH
    obtain ⟨i1, i2⟩ := I r (Nat.le_refl _) hr16
    have z := F.1.2.1.1 r hr16
    have b0 := F.2.2.1
    have b1 := F.2.2.2 (96 + 6 * r + 1)
    have I1 : Fi u w (r + 1) := fun r' h1 h2 => I r' (by omega) h2
    rw [fX3_freeEnded_b4, ← hr, if_neg (fun h => by have := (nn_le (a := 16) (by omega) (by omega)).mp h; omega), if_pos (nn_in (by omega) hr16), nn_clamp (by omega), i1, show nn r + (1 : Int32) = nn (r + 1) from nn_add r 1]
    have K : (w (96 + 6 * r) = 0 ∨ t < w (96 + 6 * r + 1)) → Ok (fX3_freeEnded_b4 n u (nn t) (nn c) (nn (r + 1))) (fun q => ∃ e, q.1 = nn (c + e) ∧ e ≤ d + 1 ∧ ((e = 0 ∧ q.2 = u ∧ ∀ r', r ≤ r' → r' < 16 → w (96 + 6 * r') = 0 ∨ t < w (96 + 6 * r' + 1)) ∨ (0 < e ∧ ∃ r, r < 16 ∧ w (96 + 6 * r) ≠ 0 ∧ w (96 + 6 * r + 1) ≤ t))) := by
      intro hk
      refine Ok_mono (IH u c I1) (fun q hq => ?_)
      obtain ⟨e, e1, e2, e3⟩ := hq
      refine ⟨e, e1, by omega, ?_⟩
      rcases e3 with ⟨a1, a2, a3⟩ | h
      · refine Or.inl ⟨a1, a2, fun r' h1 h2 => ?_⟩
        by_cases c : r' = r
        · rw [c]; exact hk
        · exact a3 r' (by omega) h2
      · exact Or.inr h
    by_cases c1 : w (96 + 6 * r) = 0
    · rw [if_pos (show nn (w (96 + 6 * r)) = (0 : Int32) by rw [c1]; rfl), x_let_n]
      exact K (Or.inl c1)
    · rw [if_neg (show ¬ nn (w (96 + 6 * r)) = (0 : Int32) from fun h => c1 ((nn_0 (by omega)).mp h)), i2 c1]
      by_cases c2 : t < w (96 + 6 * r + 1)
      · rw [if_pos ((nn_lt ht (by omega)).mpr c2), x_let_n]
        exact K (Or.inr c2)
      · rw [if_neg (fun h => c2 ((nn_lt ht (by omega)).mp h))]
        refine Ok_bind (f_free hr16) (fun u1 h1 => ?_)
        rw [show nn c + (1 : Int32) = nn (c + 1) from nn_add c 1, x_let_n, x_let_n]
        refine Ok_mono (IH u1 (c + 1) (fun r' h2 h3 => ?_)) (fun q hq => ?_)
        · rw [h1 12 r' (by omega) (Or.inl rfl), h1 14 r' (by omega) (Or.inr rfl)]
          exact I r' (by omega) h3
        · obtain ⟨e, e1, e2, e3⟩ := hq
          exact ⟨e + 1, by rw [e1]; congr 1; omega, by omega, Or.inr ⟨by omega, r, hr16, c1, by omega⟩⟩
set_option maxRecDepth 16384 in
theorem f_freeEnded {w : Nat → Nat} {B t : Nat} {u : x_H} (F : Wf B w) (ht : t < 2147483648) (I : Fi u w 0) : Ok (fX3_freeEnded u (nn t)) (fun q => ∃ e, q.1 = nn e ∧ e ≤ 16 ∧ ((e = 0 ∧ q.2 = u ∧ ∀ r, r < 16 → w (96 + 6 * r) = 0 ∨ t < w (96 + 6 * r + 1)) ∨ (0 < e ∧ ∃ r, r < 16 ∧ w (96 + 6 * r) ≠ 0 ∧ w (96 + 6 * r + 1) ≤ t))) := by
  refine Ok_mono (f_ended F ht 16 400 u 0 I (by omega) (by omega)) (fun q hq => ?_)
  obtain ⟨e, e1, e2, e3⟩ := hq
  rw [Nat.zero_add] at e1
  refine ⟨e, e1, e2, ?_⟩
  rcases e3 with ⟨a1, a2, a3⟩ | h
  · exact Or.inl ⟨a1, a2, fun r h => a3 r (by omega) h⟩
  · exact Or.inr h
set_option maxRecDepth 16384 in
theorem n_nx_0 {w : Nat → Nat} {B : Nat} (F : Wf B w) (h : ∀ r, r < 16 → w (96 + 6 * r) = 0) : n_nx w 16 0 = 0 := by
  refine Decidable.byContradiction (fun c => ?_)
  obtain ⟨i1, -, -⟩ := (n_nx_is (w := w) 16 0 (by omega)).2 c
  rcases i1 with i1 | ⟨r, -, r2, r3⟩
  · exact c i1
  · rw [n_left, if_pos (h r r2)] at r3
    exact c r3.symm
set_option maxRecDepth 16384 in
theorem n_left_pos {w : Nat → Nat} {B : Nat} (F : Wf B w) {r : Nat} (hr : r < 16) (h : w (96 + 6 * r) ≠ 0) : n_left w r = w (96 + 6 * r + 1) - w 554 ∧ w 554 < w (96 + 6 * r + 1) := ⟨if_neg h, F.2.1.2 r hr h⟩
set_option maxRecDepth 16384 in
theorem c_b19 {w : Nat → Nat} {B : Nat} (F : Wf B w) : ∀ (d j N : Nat) (τ : x_S), j + d = 201 → 1 ≤ j → d < N → Fi (τ 1) w 0 → τ 0 0 0 = nn (w 554) → (∀ r, r < 16 → w (96 + 6 * r) = 0 ∨ j ≤ n_left w r) → Ok (fX6_tryTicksUntilFree_b19 N τ (nn j)) (fun q => q.1 = nn (n_nx w 16 0) ∧ ∀ i, i ≠ 1 → q.2 i = τ i) := by
  intro d
  induction d with
  | zero =>
    intro j N τ hj h1 hN I h0 H
    obtain ⟨N, rfl⟩ : ∃ m, N = m + 1 := ⟨N - 1, by omega⟩
    rw [fX6_tryTicksUntilFree_b19, if_pos (show (200 : Int32) < nn j from (nn_lt (a := 200) (by omega) (by omega)).mpr (by omega)), n_nx_0 F (fun r hr => ?_)]
    · exact Ok_some ⟨rfl, fun i _ => rfl⟩
    · rcases H r hr with h | h
      · exact h
      · have := n_left_le F.1 hr; omega
  | succ d ih =>
    intro j N τ hj h1 hN I h0 H
    obtain ⟨N, rfl⟩ : ∃ m, N = m + 1 := ⟨N - 1, by omega⟩
    have b0 := F.2.2.1
    have b1 := F.2.2.2 554
    rw [fX6_tryTicksUntilFree_b19, if_neg (show ¬ (200 : Int32) < nn j from fun h => by have := (nn_lt (a := 200) (by omega) (by omega)).mp h; omega), h0, nn_add]
    refine Ok_bind (f_freeEnded F (by omega) I) (fun q hq => Ok_let (fun τ6 e6 => ?_))
    obtain ⟨e, e1, e2, e3⟩ := hq
    rw [e1]
    rcases e3 with ⟨a1, a2, a3⟩ | ⟨a1, r, r1, r2, r3⟩
    · rw [if_pos (show nn e ≤ (0 : Int32) by rw [a1]; decide), show nn j + (1 : Int32) = nn (j + 1) from nn_add j 1, x_let_n]
      have t0 : ∀ i, τ6 i = τ i := fun i => by
        rw [e6]
        by_cases c : i = 1
        · rw [c, x_sh_eq, a2]
        · rw [x_sh_ne _ _ c]
      refine Ok_mono (ih (j + 1) N τ6 (by omega) (by omega) (by omega) (by rw [t0]; exact I) (by rw [t0]; exact h0) (fun r hr => ?_)) (fun q hq => ⟨hq.1, fun i hi => by rw [hq.2 i hi, t0]⟩)
      rcases a3 r hr with h | h
      · exact Or.inl h
      · by_cases c : w (96 + 6 * r) = 0
        · exact Or.inl c
        · have := n_left_pos F hr c
          right; omega
    · rw [if_neg (show ¬ nn e ≤ (0 : Int32) from fun h => by have := (nn_le (b := 0) (by omega) (by omega)).mp h; omega)]
      have n1 := n_left_pos F r1 r2
      have n2 := H r r1
      have n3 := (n_nx_is (w := w) 16 0 (by omega))
      have c : n_nx w 16 0 ≠ 0 := fun h => by
        have q := (n3.1 h).2 r (Nat.zero_le r) r1
        clear n3
        omega
      obtain ⟨i1, -, i3⟩ := n3.2 c
      have i4 := i3 r (Nat.zero_le r) r1
      clear n3 i3
      have i5 : j ≤ n_nx w 16 0 := by
        rcases i1 with i1 | ⟨r', -, q2, q3⟩
        · exact absurd i1 c
        · rcases H r' q2 with h | h
          · rw [n_left, if_pos h] at q3; omega
          · omega
      refine Ok_some ⟨?_, fun i hi => ?_⟩
      · show nn j = _
        clear i1
        congr 1
        omega
      · show τ6 i = _
        rw [e6, x_sh_ne _ _ hi]
set_option maxRecDepth 16384 in
theorem c_tryTicks {w : Nat → Nat} {B : Nat} {σ : x_S} (F : Wf B w) (R : Ru (σ 0) w) : Ok (fX6_tryTicksUntilFree σ) (fun q => q.1 = nn (n_nx w 16 0) ∧ ∀ i, i ≠ 1 → q.2 i = σ i) := by
  rw [fX6_tryTicksUntilFree]
  refine Ok_let (fun τ1 e1 => ?_)
  refine Ok_mono (c_b19 F 200 1 400 τ1 (by omega) (by omega) (by omega) (fun r h1 h2 => ?_) ?_ (fun r hr => ?_)) (fun q hq => ⟨hq.1, fun i hi => by rw [hq.2 i hi, e1, x_sh_ne _ _ hi]⟩)
  · rw [e1, x_sh_eq]
    have e : ∀ k, k = 12 ∨ k = 14 → x_ic (σ 1) (σ 0) k = σ 0 k := fun k hk => if_pos (by omega)
    rw [e 12 (by omega), e 14 (by omega)]
    exact ⟨(R.2.1 r h2).1, (R.2.1 r h2).2.2.1⟩
  · rw [e1, x_sh_ne _ _ (by omega)]; exact R.2.2.2.2.2.1.1
  · by_cases c : w (96 + 6 * r) = 0
    · exact Or.inl c
    · have := n_left_pos F hr c
      right; omega
section
variable {A n l : Nat} {σ τ : x_S} {m m' : x_H} {w w' : Nat → Nat} {S K : Nat → Nat → Nat} {t x : Nat → Nat}
set_option maxRecDepth 16384 in
theorem c_try {B : Nat} (Y : Yc σ w n S t K l x) (hn : n ≤ 6) (F : Wf B w) (h9 : B + 400000 ≤ 1000000000) : Ok (fX6_tryDeliveringAll σ) (fun r => r.1 = nn (n_each w).1 ∧ Ru (r.2 1) (n_each w).2 ∧ ∀ i, i ≠ 1 → r.2 i = σ i) := by
  rw [fX6_tryDeliveringAll]
  refine Ok_let (fun τ1 e1 => ?_)
  have e2 : τ1 1 = σ 0 := by rw [e1, x_sh_eq]
  rw [e2]
  refine Ok_bind (u_deliverEach Y.1 F h9) (fun u hu => Ok_let (fun τ5 e5 => Ok_some ⟨hu.1, ?_, fun i hi => ?_⟩))
  · show Ru (τ5 1) _
    rw [e5, x_sh_eq]; exact hu.2
  · show τ5 i = _
    rw [e5, x_sh_ne _ _ hi, e1, x_sh_ne _ _ hi]
set_option maxRecDepth 16384 in
theorem Yc_1 (Y : Yc σ w n S t K l x) (hn : n ≤ 6) (h : ∀ i, i ≠ 1 → τ i = σ i) : Yc τ w n S t K l x := Yc_of Y hn (h 0 (by omega)) (fun j j1 j2 => h j (by omega)) (fun k i _ => by rw [h 10 (by omega)])
end
set_option maxRecDepth 16384 in
theorem n_nx_le {w : Nat → Nat} {B : Nat} (F : Wf B w) : n_nx w 16 0 ≤ 200 := by
  by_cases c : n_nx w 16 0 = 0
  · omega
  · obtain ⟨i1, -, -⟩ := (n_nx_is (w := w) 16 0 (by omega)).2 c
    rcases i1 with i1 | ⟨r, -, r2, r3⟩
    · omega
    · rw [← r3]; exact n_left_le F.1 r2
