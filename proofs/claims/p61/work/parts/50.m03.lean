/-! ===== errors() ===== -/
section ER
variable {B g r n l : Nat} {σ : x_S} {w : Nat → Nat} {S K : Nat → Nat → Nat} {t x : Nat → Nat} {P : Int32 × x_S → Prop} {y1 : Int64}
set_option maxRecDepth 16384 in
theorem n_cn_all {s : Nat} : ∀ d, d ≤ 16 → n_cn w s d = d → ∀ r, 16 - d ≤ r → r < 16 → w (96 + 6 * r) = s := by
  intro d
  induction d with
  | zero => intro _ _ r h1 h2; omega
  | succ d ih =>
    intro hd h r h1 h2
    rw [n_cn] at h
    have q := n_cn_le w s d
    by_cases c : w (96 + 6 * (15 - d)) = s
    · rw [if_pos c] at h
      by_cases e : r = 15 - d
      · rw [e]; exact c
      · exact ih (by omega) (by omega) r (by omega) h2
    · rw [if_neg c] at h; omega
section EK
variable {k : x_S → Int64 → Int32 → Int32 → Option (Int32 × x_S)}
set_option maxRecDepth 16384 in
theorem er_j725 (R : Ru (σ 0) w) (F : Wf B w) (hr : r < 16) (h : Ok (k σ y1 (1 : Int32) (nn (r + 1))) P) : Ok (fL_errors_j725 k σ y1 (nn r)) P := by
  have z := F.1.2.1.1 r hr
  unfold fL_errors_j725
  by_cases c : w (96 + 6 * r + 4) = 0
  · refine o_q (s_reservedFor R hr c) ?_
    refine o_t (lgc _) ?_
    refine o_n (n1 r) ?_
    exact h
  · refine o_q (q_reservedFor R F hr c) ?_
    refine o_f (lc_neg xs_neg (by omega)) ?_
    refine o_q (s_reserve (g := 0) R F.1 (by omega) hr c) ?_
    refine o_t (lgc _) ?_
    refine o_n (n1 r) ?_
    exact h
set_option maxRecDepth 16384 in
theorem er_j696 (R : Ru (σ 0) w) (F : Wf B w) (hr : r < 16) (h : Ok (k σ y1 (1 : Int32) (nn (r + 1))) P) : Ok (fL_errors_j696 k σ y1 (nn r) (nn (w (96 + 6 * r))).toInt64) P := by
  have z := F.1.2.1.1 r hr
  unfold fL_errors_j696
  by_cases c1 : w (96 + 6 * r) = 1
  · refine o_t ((lc_lit rfl (by omega)).mpr c1) ?_
    exact er_j725 R F hr h
  · refine o_f (fun q => c1 ((lc_lit (k := 1) rfl (by omega)).mp q)) ?_
    by_cases c2 : w (96 + 6 * r) = 2
    · refine o_t ((lc_lit rfl (by omega)).mpr c2) ?_
      exact er_j725 R F hr h
    · refine o_f (fun q => c2 ((lc_lit (k := 2) rfl (by omega)).mp q)) ?_
      refine o_q (s_guestOf R F hr (show ¬ n_who w r by unfold n_who; omega)) ?_
      refine o_t (lgc _) ?_
      exact er_j725 R F hr h
set_option maxRecDepth 16384 in
theorem er_j620 (R : Ru (σ 0) w) (F : Wf B w) (hg : g < 12) (h : Ok (k σ y1 (1 : Int32) (nn (g + 1))) P) : Ok (fL_errors_j620 k σ y1 (nn g) (nn (w (8 * g))).toInt64) P := by
  have z := F.1.1 g hg
  unfold fL_errors_j620
  by_cases c : 1 < w (8 * g)
  · refine o_t ((lc_gt rfl (by omega)).mpr c) ?_
    refine o_n (n1 g) ?_
    exact h
  · refine o_f (fun q => c ((lc_gt (k := 1) rfl (by omega)).mp q)) ?_
    refine o_q (s_roomOf R hg (by omega)) ?_
    refine o_t (lgc _) ?_
    refine o_n (n1 g) ?_
    exact h
set_option maxRecDepth 16384 in
theorem er_j591 (R : Ru (σ 0) w) (F : Wf B w) (hg : g < 12) (h : Ok (k σ y1 (1 : Int32) (nn (g + 1))) P) : Ok (fL_errors_j591 k σ y1 (nn g) (nn (w (8 * g))).toInt64) P := by
  have z := F.1.1 g hg
  unfold fL_errors_j591
  by_cases c1 : w (8 * g) = 1
  · refine o_t ((lc_lit rfl (by omega)).mpr c1) ?_
    exact er_j620 R F hg h
  · refine o_f (fun q => c1 ((lc_lit (k := 1) rfl (by omega)).mp q)) ?_
    by_cases c2 : w (8 * g) = 2
    · refine o_t ((lc_lit rfl (by omega)).mpr c2) ?_
      exact er_j620 R F hg h
    · refine o_f (fun q => c2 ((lc_lit (k := 2) rfl (by omega)).mp q)) ?_
      refine o_q (s_giveUp R F.1 hg (by omega)) ?_
      refine o_t (lgc _) ?_
      exact er_j620 R F hg h
set_option maxRecDepth 16384 in
theorem er_j519 (R : Ru (σ 0) w) (F : Wf B w) (hg : g < 12) (h : Ok (k σ y1 (1 : Int32) (nn (g + 1))) P) : Ok (fL_errors_j519 k σ y1 (nn g) (nn (w (8 * g))).toInt64) P := by
  have z := F.1.1 g hg
  unfold fL_errors_j519
  by_cases c : w (8 * g) = 3
  · refine o_t ((lc_lit rfl (by omega)).mpr c) ?_
    exact er_j591 R F hg h
  · refine o_f (fun q => c ((lc_lit (k := 3) rfl (by omega)).mp q)) ?_
    refine o_q (s_leave R F.1 hg c) ?_
    refine o_t (lgc _) ?_
    refine o_q (s_renew R F.1 hg c) ?_
    refine o_t (lgc _) ?_
    refine o_q (s_ticksLeft R F hg c) ?_
    refine o_t (lgc _) ?_
    refine o_q (s_toRenewal R F hg (fun q => c q.1)) ?_
    refine o_t (lgc _) ?_
    refine o_q (q_isHaunted R F hg) ?_
    refine o_t (by rw [if_neg (fun q => c q.1)]; exact (lc_lit (k := 0) rfl (by omega)).mpr rfl) ?_
    exact er_j591 R F hg h
end EK
set_option maxRecDepth 16384 in
theorem er_b656 (R : Ru (σ 0) w) (F : Wf B w) (h : Ok (fL_errors_j765 σ y1 (1 : Int32)) P) : ∀ (d n : Nat), d ≤ 16 → d < n → Ok (fL_errors_b656 n σ y1 (1 : Int32) (nn (16 - d))) P := by
  intro d
  induction d with
  | zero =>
    intro n hd hn
    obtain ⟨n, rfl⟩ : ∃ m, n = m + 1 := ⟨n - 1, by omega⟩
    rw [fL_errors_b656]
    refine o_t (show (16 : Int32) ≤ nn 16 by decide) ?_
    exact h
  | succ d ih =>
    intro n hd hn
    obtain ⟨n, rfl⟩ : ∃ m, n = m + 1 := ⟨n - 1, by omega⟩
    have I := ih n (by omega) (by omega)
    rw [show 16 - (d + 1) = 15 - d by omega]
    obtain ⟨r, hr⟩ : ∃ r, r = 15 - d := ⟨_, rfl⟩
    rw [show 16 - d = r + 1 by omega] at I
    rw [← hr]
    have hr16 : r < 16 := by omega
    have z := F.1.2.1.1 r hr16
    rw [fL_errors_b656]
    refine o_f (nge (a := 16) (by omega) (by omega) (by omega)) ?_
    refine o_f (nn_one) ?_
    refine o_q (q_stateOf R hr16) ?_
    by_cases c : w (96 + 6 * r) = 0
    · refine o_t ((lc_lit rfl (by omega)).mpr c) ?_
      refine o_q (s_ticksOf R hr16 c) ?_
      refine o_t (lgc _) ?_
      exact er_j696 R F hr16 I
    · refine o_f (fun q => c ((lc_lit (k := 0) rfl (by omega)).mp q)) ?_
      exact er_j696 R F hr16 I
set_option maxRecDepth 16384 in
theorem er_b479 (R : Ru (σ 0) w) (F : Wf B w) (h : Ok (fL_errors_j765 σ y1 (1 : Int32)) P) : ∀ (d n : Nat), d ≤ 12 → d < n → Ok (fL_errors_b479 n σ y1 (1 : Int32) (nn (12 - d))) P := by
  intro d
  induction d with
  | zero =>
    intro n hd hn
    obtain ⟨n, rfl⟩ : ∃ m, n = m + 1 := ⟨n - 1, by omega⟩
    rw [fL_errors_b479]
    refine o_t (show (12 : Int32) ≤ nn 12 by decide) ?_
    exact er_b656 R F h 16 17 (by omega) (by omega)
  | succ d ih =>
    intro n hd hn
    obtain ⟨n, rfl⟩ : ∃ m, n = m + 1 := ⟨n - 1, by omega⟩
    have I := ih n (by omega) (by omega)
    rw [show 12 - (d + 1) = 11 - d by omega]
    obtain ⟨g, hg⟩ : ∃ g, g = 11 - d := ⟨_, rfl⟩
    rw [show 12 - d = g + 1 by omega] at I
    rw [← hg]
    have hg12 : g < 12 := by omega
    have z := F.1.1 g hg12
    rw [fL_errors_b479]
    refine o_f (nge (a := 12) (by omega) (by omega) (by omega)) ?_
    refine o_f (nn_one) ?_
    refine o_q (q_doingOf R hg12) ?_
    by_cases c : w (8 * g) = 0
    · refine o_t ((lc_lit rfl (by omega)).mpr c) ?_
      exact er_j519 R F hg12 I
    · refine o_f (fun q => c ((lc_lit (k := 0) rfl (by omega)).mp q)) ?_
      refine o_q (s_seek R F.1 hg12 c) ?_
      refine o_t (lgc _) ?_
      exact er_j519 R F hg12 I
set_option maxRecDepth 16384 in
theorem er_errors (Y : Yc σ w n S t K l x) (hn : n ≤ 6) (F : Wf B w) (h9 : B + 700000 ≤ 1000000000) (ht : ∀ s, s < 2 → t s ≤ 1) (hl : l ≤ 60) : Ok (fL_errors σ) (fun r => r.1 = (1 : Int32) ∧ ∀ i, i ≠ 1 → r.2 i = σ i) := by
  have hm := F.1.2.2.1.2
  have z1 := n_cn_le w 0 16
  unfold fL_errors
  refine Ok_bind (c_digest Y hn F h9 ht hl) (fun r1 h1 => ?_)
  obtain ⟨a1, a2⟩ := h1
  have Y1 := Yc_1 Y hn a2
  have R := Y1.1
  have pn : fX4_hasPlace (r1.2 0) (-1 : Int32) = some 0 := by rw [fX4_hasPlace, if_pos (by decide)]
  have pm : fX4_hasPlace (r1.2 0) (nn (w 552)) = some 0 := by rw [u_hasPlace R.2.2.2.2.1.1 hm (by omega), if_neg (by omega)]; rfl
  refine o_q (q_messages R) ?_
  refine o_q (x_seek (by decide)) ?_
  refine o_t (lgc _) ?_
  refine o_q (x_leave (by decide)) ?_
  refine o_t (lgc _) ?_
  refine o_q (x_giveUp (by decide)) ?_
  refine o_t (lgc _) ?_
  refine o_q (x_renew (by decide)) ?_
  refine o_t (lgc _) ?_
  refine o_q (x_reserve (by decide)) ?_
  refine o_t (lgc _) ?_
  refine o_q (x_reserve2 (g := 0) (by omega) (by decide)) ?_
  refine o_t (lgc _) ?_
  refine o_q (x_unreserve (by decide)) ?_
  refine o_t (lgc _) ?_
  refine o_q (x_turnGhost (by decide)) ?_
  refine o_t (lgc _) ?_
  refine o_q (x_changeLease (by decide)) ?_
  refine o_t (lgc _) ?_
  refine o_q (x_changeHold (by decide)) ?_
  refine o_t (lgc _) ?_
  refine o_q (x_changeShut (by decide)) ?_
  refine o_t (lgc _) ?_
  refine o_q (x_deliver pm) ?_
  refine o_t (lgc _) ?_
  refine o_q (x_deliver pn) ?_
  refine o_t (lgc _) ?_
  refine o_q (x_lose pm) ?_
  refine o_t (lgc _) ?_
  refine o_q (x_tick (by decide)) ?_
  refine o_t (lgc _) ?_
  refine o_q (x_append (by decide)) ?_
  refine o_t (lgc _) ?_
  refine o_q (x_keep (by decide)) ?_
  refine o_t (lgc _) ?_
  refine o_q (x_goBack (by decide)) ?_
  refine o_t (lgc _) ?_
  refine o_q (x_doingOf (by decide)) ?_
  refine o_t (lgc _) ?_
  refine o_q (x_roomOf (by decide)) ?_
  refine o_t (lgc _) ?_
  refine o_q (x_ticksLeft (by decide)) ?_
  refine o_t (lgc _) ?_
  refine o_q (x_toRenewal (by decide)) ?_
  refine o_t (lgc _) ?_
  refine o_q (x_isHaunted (by decide)) ?_
  refine o_t (lgc _) ?_
  refine o_q (x_staysOf (by decide)) ?_
  refine o_t (lgc _) ?_
  refine o_q (x_stateOf (by decide)) ?_
  refine o_t (lgc _) ?_
  refine o_q (x_guestOf (by decide)) ?_
  refine o_t (lgc _) ?_
  refine o_q (x_ticksOf (by decide)) ?_
  refine o_t (lgc _) ?_
  refine o_q (x_reservedFor (by decide)) ?_
  refine o_t (lgc _) ?_
  refine o_q (x_hasGhost (by decide)) ?_
  refine o_t (lgc _) ?_
  refine o_q (x_roomFor (by decide)) ?_
  refine o_t (lgc _) ?_
  refine o_q (x_kindAt pm) ?_
  refine o_t (lgc _) ?_
  refine o_q (x_guestAt pn) ?_
  refine o_t (lgc _) ?_
  refine o_q (x_roomAt pm) ?_
  refine o_t (lgc _) ?_
  refine o_q (x_sent (by decide)) ?_
  refine o_t (lgc _) ?_
  refine o_q (q_free R F) ?_
  have J : ∀ τ : x_S, (∀ i, i ≠ 1 → τ i = σ i) → Ok (fL_errors_j765 τ r1.1 (1 : Int32)) (fun r => r.1 = (1 : Int32) ∧ ∀ i, i ≠ 1 → r.2 i = σ i) := by
    intro τ h
    unfold fL_errors_j765
    refine o_f (nn_one) ?_
    refine Ok_bind (c_digest (Yc_1 Y hn h) hn F h9 ht hl) (fun r h2 => ?_)
    refine o_t (by rw [h2.1, a1]; exact lgc _) ?_
    exact Ok_some ⟨rfl, fun i hi => (h2.2 i hi).trans (h i hi)⟩
  by_cases c : n_cn w 0 16 < 16
  · refine o_t ((nn_lt (b := 16) (by omega) (by omega)).mpr c) ?_
    exact er_b479 R F (J r1.2 a2) 12 13 (by omega) (by omega)
  · refine o_f (fun q => c ((nn_lt (b := 16) (by omega) (by omega)).mp q)) ?_
    have c0 : n_nx w 16 0 = 0 := n_nx_0 F (fun r hr => n_cn_all 16 (by omega) (by omega) r (by omega) hr)
    refine o_q (s_nextR R F c0) ?_
    refine o_t (lgc _) ?_
    refine Ok_bind (q_nextT R F) (fun r8 h8 => ?_)
    obtain ⟨b1, b2⟩ := h8
    refine o_t (by rw [b1, if_pos c0]; exact lgc _) ?_
    have b3 : ∀ i, i ≠ 1 → r8.2 i = σ i := fun i hi => (b2 i hi).trans (a2 i hi)
    exact er_b479 (Yc_1 Y hn b3).1 F (J r8.2 b3) 12 13 (by omega) (by omega)
end ER
