/-! ===== kept() ===== -/
section KQ
variable {B g r p c2 c3 c4 c5 : Nat} {σ : x_S} {w : Nat → Nat} {P : Int32 × x_S → Prop} {y2 y3 y4 y7 : Int32} {y5 y8 : Int64}
set_option maxRecDepth 16384 in
theorem q_stateOf32 (R : Ru (σ 0) w) (hr : r < 16) : fL_stateOf σ (nn r).toInt64.toInt32 = some ((nn (w (96 + 6 * r))).toInt64, σ) := by rw [ll_32]; exact q_stateOf R hr
set_option maxRecDepth 16384 in
theorem q_guestOf32 (R : Ru (σ 0) w) (F : Wf B w) (hr : r < 16) (c : n_who w r) : fL_guestOf σ (nn r).toInt64.toInt32 = some ((nn (w (96 + 6 * r + 2))).toInt64, σ) := by rw [ll_32]; exact q_guestOf R F hr c
set_option maxRecDepth 16384 in
theorem q_reservedFor32 (R : Ru (σ 0) w) (F : Wf B w) (hr : r < 16) (c : w (96 + 6 * r + 4) ≠ 0) : fL_reservedFor σ (nn r).toInt64.toInt32 = some ((nn (w (96 + 6 * r + 4) - 1)).toInt64, σ) := by rw [ll_32]; exact q_reservedFor R F hr c
set_option maxRecDepth 16384 in
theorem s_reservedFor32 (R : Ru (σ 0) w) (hr : r < 16) (c : w (96 + 6 * r + 4) = 0) : fL_reservedFor σ (nn r).toInt64.toInt32 = some (XS, σ) := by rw [ll_32]; exact s_reservedFor R hr c
set_option maxRecDepth 16384 in
theorem kp_j836 (R : Ru (σ 0) w) (F : Wf B w) (H : Wk w) (h7 : B ≤ 700000000) : Ok (fL_kept_j836 σ (nn (w 552)) (nn (n_sk w)).toInt64) (fun r => r = ((1 : Int32), σ)) := by
  have b1 := F.2.2.2 558
  have b2 := F.2.2.2 559
  have b3 := F.1.2.2.1.2
  have b4 := F.2.2.2 560
  have b5 := F.2.2.2 566
  have s := H.2.1
  unfold fL_kept_j836
  refine o_q (q_lost R) ?_
  refine o_q (q_delivered R) ?_
  refine o_t (by rw [nn_add, nn_add]; exact (lc_nn (by rw [s.1]; omega) (by omega)).mpr s.1) ?_
  refine o_q (q_leases R) ?_
  refine o_q (q_sent (g := 3) R (by omega)) ?_
  refine o_t ((lc_nn (by omega) (by show w 566 < 2147483648; omega)).mpr s.2) ?_
  exact Ok_some rfl
set_option maxRecDepth 16384 in
theorem kp_j770 (R : Ru (σ 0) w) (F : Wf B w) (H : Wk w) (h7 : B ≤ 700000000) : Ok (fL_kept_j770 σ (1 : Int32) (nn (n_cn w 2 16)) (nn (n_cn w 0 16)) (nn (n_hs 12 w)) (nn (n_nx w 16 0)).toInt64 (nn (w 552)) (nn (n_sk w)).toInt64) (fun r => r = ((1 : Int32), σ)) := by
  have z1 := n_cn_le w 2 16
  have z2 := housed_le F H
  have z3 := n_nx_le F
  unfold fL_kept_j770
  refine o_f (nn_one) ?_
  refine o_q (q_leasedR R F) ?_
  refine o_t (rfl) ?_
  refine o_q (q_free R F) ?_
  refine o_t (rfl) ?_
  refine o_q (q_housed R F) ?_
  refine o_t (rfl) ?_
  refine o_f (fun h => by have := (nn_lt (by omega) (by omega)).mp h; omega) ?_
  by_cases c : n_nx w 16 0 = 0
  · refine o_t ((lc_lit rfl (by omega)).mpr c) ?_
    refine o_q (s_nextR R F c) ?_
    refine o_t (lgc _) ?_
    exact kp_j836 R F H h7
  · refine o_f (fun h => c ((lc_lit (k := 0) rfl (by omega)).mp h)) ?_
    refine o_q (q_nextR R F c) ?_
    refine o_t (lgc _) ?_
    exact kp_j836 R F H h7
set_option maxRecDepth 16384 in
theorem kp_b667 (R : Ru (σ 0) w) (F : Wf B w) : ∀ (d i n : Nat), i + d = w 552 → d < n → Ok (fL_kept_j770 σ (1 : Int32) y2 y3 y4 y5 (nn (w 552)) y8) P → Ok (fL_kept_b667 n σ (1 : Int32) y2 y3 y4 y5 (nn i) y8 (nn i)) P := by
  have hm := F.1.2.2.1.2
  intro d
  induction d with
  | zero =>
    intro i n hi hn h
    obtain ⟨n, rfl⟩ : ∃ m, n = m + 1 := ⟨n - 1, by omega⟩
    have e : i = w 552 := by omega
    rw [fL_kept_b667, e]
    refine o_q (q_messages R) ?_
    refine o_t (nle (by omega) (by omega) (Nat.le_refl _)) ?_
    exact h
  | succ d ih =>
    intro i n hi hn h
    obtain ⟨n, rfl⟩ : ∃ m, n = m + 1 := ⟨n - 1, by omega⟩
    have z := F.1.2.2.1.1 i (by omega)
    have I := ih (i + 1) n (by omega) (by omega) h
    rw [fL_kept_b667]
    refine o_q (q_messages R) ?_
    refine o_f (nge (by omega) (by omega) (by omega)) ?_
    refine o_f (nn_one) ?_
    refine o_n (n1 i) ?_
    refine o_q (q_kindAt R hm (by omega)) ?_
    refine o_q (q_in1 (lo := 0) (hi := 6) (by omega) rfl rfl (by omega)) ?_
    refine o_f (nn_one) ?_
    refine o_q (q_guestAt R hm (by omega)) ?_
    refine o_q (q_in1 (lo := 0) (hi := 11) (by omega) rfl rfl (by omega)) ?_
    refine o_f (nn_one) ?_
    refine o_q (q_kindAt R hm (by omega)) ?_
    by_cases c : w (192 + 6 * i) = 0
    · refine o_t ((lc_lit rfl (by omega)).mpr c) ?_
      refine o_q (s_roomAt R F.1 (by omega) c) ?_
      refine o_t (lgc _) ?_
      refine o_n (n1 i) ?_
      exact I
    · refine o_f (fun h => c ((lc_lit (k := 0) rfl (by omega)).mp h)) ?_
      refine o_q (q_roomAt R F.1 (by omega) c) ?_
      refine o_q (q_in1 (lo := 0) (hi := 15) (by omega) rfl rfl (by omega)) ?_
      refine o_f (nn_one) ?_
      refine o_n (n1 i) ?_
      exact I
set_option maxRecDepth 16384 in
theorem kp_k {k n s : Nat} (R : Ru (σ 0) w) (hk : k < 7) (hs : s + w (563 + k) < 2147483648) (h : Ok (fL_kept_b636 n σ (1 : Int32) y2 y3 y4 y5 y7 (nn (s + w (563 + k))).toInt64 (nn (k + 1))) P) : Ok (fL_kept_b636 (n + 1) σ (1 : Int32) y2 y3 y4 y5 y7 (nn s).toInt64 (nn k)) P := by
  rw [fL_kept_b636]
  refine o_f (nge (a := 7) (by omega) (by omega) (by omega)) ?_
  refine o_f (nn_one) ?_
  refine o_q (q_sent R hk) ?_
  refine o_L (ll_add hs) ?_
  refine o_n (n1 k) ?_
  exact h
set_option maxRecDepth 16384 in
theorem kp_b636 (R : Ru (σ 0) w) (F : Wf B w) (H : Wk w) (h7 : B ≤ 700000000) (h : Ok (fL_kept_b667 61 σ (1 : Int32) y2 y3 y4 y5 y7 (nn (n_sk w)).toInt64 (0 : Int32)) P) : Ok (fL_kept_b636 8 σ (1 : Int32) y2 y3 y4 y5 y7 (0 : Int64) (0 : Int32)) P := by
  have b1 := F.2.2.2 558
  have b2 := F.2.2.2 559
  have b3 := F.1.2.2.1.2
  have s := H.2.1.1
  have s2 : n_sk w = 0 + w (563 + 0) + w (563 + 1) + w (563 + 2) + w (563 + 3) + w (563 + 4) + w (563 + 5) + w (563 + 6) := by unfold n_sk; show w 563 + w 564 + w 565 + w 566 + w 567 + w 568 + w 569 = 0 + w 563 + w 564 + w 565 + w 566 + w 567 + w 568 + w 569; omega
  rw [← mz0]
  show Ok (fL_kept_b636 8 σ (1 : Int32) y2 y3 y4 y5 y7 (nn 0).toInt64 (nn 0)) P
  refine kp_k (k := 0) R (by omega) (by omega) (kp_k (k := 1) R (by omega) (by omega) (kp_k (k := 2) R (by omega) (by omega) (kp_k (k := 3) R (by omega) (by omega) (kp_k (k := 4) R (by omega) (by omega) (kp_k (k := 5) R (by omega) (by omega) (kp_k (k := 6) R (by omega) (by omega) ?_))))))
  rw [← s2, fL_kept_b636]
  refine o_t (show (7 : Int32) ≤ nn (6 + 1) by decide) ?_
  exact h
section KG
variable {k : x_S → Int32 → Int32 → Int32 → Int32 → Int64 → Int32 → Int32 → Option (Int32 × x_S)}
set_option maxRecDepth 16384 in
theorem kp_j578 {d : Nat} (R : Ru (σ 0) w) (F : Wf B w) (hg : g < 12) (hd : d < 16) (hc : w (96 + 6 * d) = 1 ∨ w (96 + 6 * d + 4) = 0 ∨ w (96 + 6 * d + 4) = g + 1) (h : Ok (k σ (1 : Int32) y2 y3 y4 y5 y7 (nn (g + 1))) P) : Ok (fL_kept_j578 k σ y2 y3 y4 y5 y7 (nn g) (nn d).toInt64) P := by
  have z := F.1.2.1.1 d hd
  unfold fL_kept_j578
  refine o_q (q_stateOf32 R hd) ?_
  by_cases c1 : w (96 + 6 * d) = 1
  · refine o_t ((lc_lit rfl (by omega)).mpr c1) ?_
    refine o_n (n1 g) ?_
    exact h
  · refine o_f (fun q => c1 ((lc_lit (k := 1) rfl (by omega)).mp q)) ?_
    by_cases c2 : w (96 + 6 * d + 4) = 0
    · refine o_q (s_reservedFor32 R hd c2) ?_
      refine o_t (lgc _) ?_
      refine o_n (n1 g) ?_
      exact h
    · refine o_q (q_reservedFor32 R F hd c2) ?_
      refine o_f (lc_neg xs_neg (by omega)) ?_
      refine o_q (q_reservedFor32 R F hd c2) ?_
      refine o_t ((lc_nn (by omega) (by omega)).mpr (by omega)) ?_
      refine o_n (n1 g) ?_
      exact h
set_option maxRecDepth 16384 in
theorem kp_j516 (R : Ru (σ 0) w) (F : Wf B w) (hg : g < 12) (h : Ok (k σ (1 : Int32) y2 y3 y4 y5 y7 (nn (g + 1))) P) : Ok (fL_kept_j516 k σ (1 : Int32) y2 y3 y4 y5 y7 (nn g)) P := by
  have hc := n_choice_le F.1 hg
  unfold fL_kept_j516
  by_cases c : n_choice w g = 0
  · refine o_q (s_roomFor R F hg c) ?_
    refine o_f (nn_one) ?_
    refine o_t (lgc _) ?_
    refine o_n (n1 g) ?_
    exact h
  · obtain ⟨d, hd⟩ : ∃ d, n_choice w g = d + 1 := ⟨n_choice w g - 1, by omega⟩
    have hi := choice_is hd
    have z := F.1.2.1.1 d (by omega)
    refine o_q (q_roomFor R F hg hd) ?_
    refine o_f (nn_one) ?_
    refine o_f (lc_neg xs_neg (by omega)) ?_
    refine o_q (q_stateOf32 R (by omega)) ?_
    have st : w (96 + 6 * d) ≤ 1 := by
      rcases hi with q | q
      · have := q.1; omega
      · have := q.1; omega
    refine o_q (q_in1 (lo := 0) (hi := 1) (by omega) rfl rfl (by omega)) ?_
    refine o_f (nn_one) ?_
    refine o_q (q_stateOf32 R (by omega)) ?_
    rcases hi with q | q
    · refine o_f (fun q2 => by have := (lc_lit (k := 0) rfl (by omega)).mp q2; have := q.1; omega) ?_
      refine o_q (q_guestOf32 R F (by omega) (show n_who w d by have := q.1; unfold n_who; omega)) ?_
      refine o_t ((lc_nn (by omega) (by omega)).mpr q.2) ?_
      exact kp_j578 R F hg (by omega) (Or.inl q.1) h
    · refine o_t ((lc_lit rfl (by omega)).mpr q.1) ?_
      exact kp_j578 R F hg (by omega) (Or.inr q.2) h
set_option maxRecDepth 16384 in
theorem kp_g0 (R : Ru (σ 0) w) (F : Wf B w) (hg : g < 12) (h : Ok (k σ (1 : Int32) y2 y3 (nn c4) y5 y7 (nn (g + 1))) P) : Ok (fL_kept_j367 k σ (1 : Int32) y2 y3 (nn c4) y5 y7 (nn g) (0 : Int32)) P := by
  unfold fL_kept_j367
  refine o_t (rfl) ?_
  unfold fL_kept_j381
  refine o_n (show nn c4 + (0 : Int32) = nn c4 from nn_add c4 0) ?_
  refine o_t (rfl) ?_
  exact kp_j516 R F hg h
set_option maxRecDepth 16384 in
theorem kp_g1 (R : Ru (σ 0) w) (F : Wf B w) (H : Wk w) (hg : g < 12) (c : w (8 * g) = 3) (h : Ok (k σ (1 : Int32) y2 y3 (nn (c4 + 1)) y5 y7 (nn (g + 1))) P) : Ok (fL_kept_j367 k σ (1 : Int32) y2 y3 (nn c4) y5 y7 (nn g) (1 : Int32)) P := by
  have z := F.1.1 g hg
  have b0 := F.2.2.1
  have b1 := F.2.2.2 (8 * g + 6)
  have X := F.2.1.1 g hg c
  obtain ⟨L0, L1, L2, L3, -⟩ := has_lease F H hg c
  have zr := F.1.2.1.1 _ L0
  have X2 := F.2.1.2 _ L0 (by omega)
  have hst := H.2.2 g hg c
  have ha := left_ask F hg c
  have T := kp_j516 (k := k) (P := P) (y2 := y2) (y3 := y3) (y4 := nn (c4 + 1)) (y5 := y5) (y7 := y7) R F hg h
  unfold fL_kept_j367
  refine o_f (nn_one) ?_
  unfold fL_kept_j381
  refine o_n (n1 c4) ?_
  refine o_f (nn_one) ?_
  refine o_q (q_roomOf R F hg (by omega)) ?_
  refine o_n (ll_32 _) ?_
  refine o_q (q_ticksLeft R F hg c) ?_
  refine o_f (fun q => by have := (lc_le (k := 0) rfl (by omega)).mp q; omega) ?_
  refine o_q (q_stateOf R L0) ?_
  refine o_t ((lc_lit rfl (by omega)).mpr L1) ?_
  refine o_q (q_guestOf R F L0 (show n_who w (w (8 * g + 1)) by unfold n_who; omega)) ?_
  refine o_t ((lc_nn (by omega) (by omega)).mpr L2) ?_
  refine o_q (q_ticksLeft R F hg c) ?_
  refine o_q (q_ticksOf R F L0 (by omega)) ?_
  have hl : n_left w (w (8 * g + 1)) = w (96 + 6 * w (8 * g + 1) + 1) - w 554 := if_neg (by omega)
  refine o_f (fun q => by have := (lc_gt (nn_to64 (by omega)) (by omega)).mp q; omega) ?_
  refine o_q (q_staysOf R hg) ?_
  refine o_f (fun q => by have := (lc_le (k := 0) rfl (by omega)).mp q; omega) ?_
  refine o_q (q_isHaunted R F hg) ?_
  refine o_q (q_hasGhost R L0) ?_
  have hh : (if n_hnt w g then 1 else 0) = (if w (96 + 6 * w (8 * g + 1) + 5) = 1 then 1 else 0) := by
    by_cases c1 : w (96 + 6 * w (8 * g + 1) + 5) = 1
    · rw [if_pos c1, if_pos ⟨c, c1⟩]
    · rw [if_neg c1, if_neg (fun q => c1 q.2)]
  refine o_t (by rw [hh]; exact lgc _) ?_
  by_cases c2 : n_ask w g = 0
  · refine o_q (s_toRenewal R F hg (fun q => q.2 c2)) ?_
    refine o_t (lgc _) ?_
    unfold fL_kept_j510
    unfold fL_kept_j515
    exact T
  · refine o_q (q_toRenewal R F hg ⟨c, c2⟩) ?_
    refine o_f (lc_neg xs_neg (by omega)) ?_
    refine o_q (q_toRenewal R F hg ⟨c, c2⟩) ?_
    refine o_q (q_ticksLeft R F hg c) ?_
    refine o_q (q_in1 (lo := 1) (by omega) rfl (nn_to64 (by omega)) (by omega)) ?_
    refine o_f (nn_one) ?_
    unfold fL_kept_j510
    unfold fL_kept_j515
    exact T
end KG
set_option maxRecDepth 16384 in
theorem kp_b338 (R : Ru (σ 0) w) (F : Wf B w) (H : Wk w) : ∀ (d n c4 : Nat), d ≤ 12 → d < n → Ok (fL_kept_b636 8 σ (1 : Int32) y2 y3 (nn (c4 + n_hs d w)) y5 y7 (0 : Int64) (0 : Int32)) P → Ok (fL_kept_b338 n σ (1 : Int32) y2 y3 (nn c4) y5 y7 (nn (12 - d))) P := by
  intro d
  induction d with
  | zero =>
    intro n c4 hd hn h
    obtain ⟨n, rfl⟩ : ∃ m, n = m + 1 := ⟨n - 1, by omega⟩
    rw [fL_kept_b338]
    refine o_t (show (12 : Int32) ≤ nn 12 by decide) ?_
    exact h
  | succ d ih =>
    intro n c4 hd hn h
    obtain ⟨n, rfl⟩ : ∃ m, n = m + 1 := ⟨n - 1, by omega⟩
    rw [n_hs, ← Nat.add_assoc] at h
    have I := ih n (c4 + if w (8 * (11 - d)) = 3 then 1 else 0) (by omega) (by omega) h
    have e12 : 12 - (d + 1) = 11 - d := by omega
    rw [e12]
    obtain ⟨g, hg⟩ : ∃ g, g = 11 - d := ⟨_, rfl⟩
    have e13 : 12 - d = g + 1 := by omega
    rw [e13, ← hg] at I
    rw [← hg]
    have hg12 : g < 12 := by omega
    have z := F.1.1 g hg12
    rw [fL_kept_b338]
    refine o_f (nge (a := 12) (by omega) (by omega) (by omega)) ?_
    refine o_f (nn_one) ?_
    refine o_q (q_doingOf R hg12) ?_
    by_cases c : w (8 * g) = 3
    · rw [if_pos c] at I
      refine o_t ((lc_lit rfl (by omega)).mpr c) ?_
      exact kp_g1 R F H hg12 c I
    · rw [if_neg c] at I
      refine o_f (fun q => c ((lc_lit (k := 3) rfl (by omega)).mp q)) ?_
      exact kp_g0 R F hg12 I
section KR
variable {k : x_S → Int32 → Int32 → Int32 → Int32 → Int64 → Int32 → Int32 → Option (Int32 × x_S)}
set_option maxRecDepth 16384 in
theorem kp_b277 (R : Ru (σ 0) w) (F : Wf B w) (hr : r < 16) (h : Ok (k σ (1 : Int32) y2 y3 y4 y5 y7 (nn (r + 1))) P) : ∀ (d q n : Nat), q + d = r → d < n → Ok (fL_kept_b277 k n σ (1 : Int32) y2 y3 y4 y5 y7 (nn r) (nn q)) P := by
  intro d
  induction d with
  | zero =>
    intro q n hq hn
    obtain ⟨n, rfl⟩ : ∃ m, n = m + 1 := ⟨n - 1, by omega⟩
    rw [fL_kept_b277]
    refine o_t (nle (by omega) (by omega) (by omega)) ?_
    refine o_n (n1 r) ?_
    exact h
  | succ d ih =>
    intro q n hq hn
    obtain ⟨n, rfl⟩ : ∃ m, n = m + 1 := ⟨n - 1, by omega⟩
    have I := ih (q + 1) n (by omega) (by omega)
    have z := F.1.2.1.1 r hr
    have zq := F.1.2.1.1 q (by omega)
    rw [fL_kept_b277]
    refine o_f (nge (by omega) (by omega) (by omega)) ?_
    refine o_f (nn_one) ?_
    by_cases c : w (96 + 6 * r + 4) = 0
    · refine o_q (s_reservedFor R hr c) ?_
      refine o_t (lgc _) ?_
      refine o_n (n1 q) ?_
      exact I
    · refine o_q (q_reservedFor R F hr c) ?_
      refine o_f (lc_neg xs_neg (by omega)) ?_
      refine o_q (q_reservedFor R F hr c) ?_
      by_cases c2 : w (96 + 6 * q + 4) = 0
      · refine o_q (s_reservedFor R (by omega) c2) ?_
        refine o_f (lc_neg xs_neg (by omega)) ?_
        refine o_n (n1 q) ?_
        exact I
      · refine o_q (q_reservedFor R F (by omega) c2) ?_
        refine o_f (fun e => by have e1 := (lc_nn (by omega) (by omega)).mp e; have := F.1.2.1.2.1 r q hr (by omega) c (by omega); omega) ?_
        refine o_n (n1 q) ?_
        exact I
set_option maxRecDepth 16384 in
theorem kp_j236 (R : Ru (σ 0) w) (F : Wf B w) (hr : r < 16) (h : Ok (k σ (1 : Int32) y2 y3 y4 y5 y7 (nn (r + 1))) P) : Ok (fL_kept_j236 k σ y2 y3 y4 y5 y7 (nn r) (nn (w (96 + 6 * r))).toInt64) P := by
  have z := F.1.2.1.1 r hr
  have I := kp_b277 R F hr h r 0 17 (by omega) (by omega)
  unfold fL_kept_j236
  by_cases c0 : w (96 + 6 * r) = 0
  · refine o_t ((lc_lit rfl (by omega)).mpr c0) ?_
    exact I
  · refine o_f (fun q => c0 ((lc_lit (k := 0) rfl (by omega)).mp q)) ?_
    by_cases c3 : w (96 + 6 * r) = 3
    · refine o_t ((lc_lit rfl (by omega)).mpr c3) ?_
      exact I
    · refine o_f (fun q => c3 ((lc_lit (k := 3) rfl (by omega)).mp q)) ?_
      refine o_q (q_guestOf R F hr (show n_who w r by unfold n_who; omega)) ?_
      refine o_q (q_in1 (lo := 0) (hi := 11) (by omega) rfl rfl (by omega)) ?_
      refine o_f (nn_one) ?_
      exact I
set_option maxRecDepth 16384 in
theorem kp_j204 (R : Ru (σ 0) w) (F : Wf B w) (hr : r < 16) (h : Ok (k σ (1 : Int32) y2 y3 y4 y5 y7 (nn (r + 1))) P) : Ok (fL_kept_j204 k σ y2 y3 y4 y7 (nn r) (nn (w (96 + 6 * r))).toInt64 y5) P := by
  have z := F.1.2.1.1 r hr
  unfold fL_kept_j204
  refine o_q (q_in1 (lo := 0) (hi := 3) (by omega) rfl rfl (by omega)) ?_
  refine o_f (nn_one) ?_
  by_cases c0 : w (96 + 6 * r) = 0
  · refine o_t ((lc_lit rfl (by omega)).mpr c0) ?_
    exact kp_j236 R F hr h
  · have hp := n_left_pos F hr c0
    have hl := n_left_le F.1 hr
    refine o_f (fun q => c0 ((lc_lit (k := 0) rfl (by omega)).mp q)) ?_
    refine o_q (q_ticksOf R F hr c0) ?_
    refine o_f (fun q => by have := (lc_le (k := 0) rfl (by omega)).mp q; omega) ?_
    exact kp_j236 R F hr h
set_option maxRecDepth 16384 in
theorem kp_room (R : Ru (σ 0) w) (F : Wf B w) (hr : r < 16) (hc5 : c5 ≤ 200) (h : Ok (k σ (1 : Int32) (nn (c2 + if w (96 + 6 * r) = 2 then 1 else 0)) (nn (c3 + if w (96 + 6 * r) = 0 then 1 else 0)) y4 (nn (if 0 < n_left w r ∧ (c5 = 0 ∨ n_left w r < c5) then n_left w r else c5)).toInt64 y7 (nn (r + 1))) P) : Ok (if lg_cmp (nn (w (96 + 6 * r))).toInt64 (2 : Int64) = 0 then fL_kept_j150 k σ (nn c3) y4 (nn c5).toInt64 y7 (nn r) (nn (w (96 + 6 * r))).toInt64 (1 : Int32) (nn c2) else fL_kept_j150 k σ (nn c3) y4 (nn c5).toInt64 y7 (nn r) (nn (w (96 + 6 * r))).toInt64 (0 : Int32) (nn c2)) P := by
  have z := F.1.2.1.1 r hr
  have hl := n_left_le F.1 hr
  have T : ∀ (a2 a3 : Nat) (y : Int64), y = (nn (if 0 < n_left w r ∧ (c5 = 0 ∨ n_left w r < c5) then n_left w r else c5)).toInt64 → a2 = c2 + (if w (96 + 6 * r) = 2 then 1 else 0) → a3 = c3 + (if w (96 + 6 * r) = 0 then 1 else 0) → Ok (fL_kept_j204 k σ (nn a2) (nn a3) y4 y7 (nn r) (nn (w (96 + 6 * r))).toInt64 y) P := fun a2 a3 y e1 e2 e3 => by rw [e1, e2, e3]; exact kp_j204 R F hr h
  have J : ∀ a2 a3 : Nat, a2 = c2 + (if w (96 + 6 * r) = 2 then 1 else 0) → ∀ z0 : Nat, a3 = c3 + (if w (96 + 6 * r) = 0 then 1 else 0) → a3 = c3 + z0 → Ok (fL_kept_j165 k σ (nn a2) y4 (nn c5).toInt64 y7 (nn r) (nn (w (96 + 6 * r))).toInt64 (nn z0) (nn c3)) P := by
    intro a2 a3 e2 z0 e3 e4
    unfold fL_kept_j165
    refine o_n (show nn c3 + nn z0 = nn a3 by rw [nn_add, e4]) ?_
    by_cases c0 : w (96 + 6 * r) = 0
    · have l0 : n_left w r = 0 := if_pos c0
      refine o_t ((lc_le (k := 0) rfl (by omega)).mpr (by omega)) ?_
      unfold fL_kept_j202
      exact T a2 a3 _ (by rw [if_neg (by omega)]) e2 e3
    · have hp := n_left_pos F hr c0
      refine o_f (fun q => c0 (by have := (lc_le (k := 0) rfl (by omega)).mp q; omega)) ?_
      by_cases c6 : c5 = 0
      · refine o_t ((lc_lit (k := 0) rfl (by omega)).mpr c6) ?_
        unfold fL_kept_j193
        refine o_q (q_ticksOf R F hr c0) ?_
        exact T a2 a3 _ (by rw [if_pos ⟨by omega, Or.inl c6⟩]) e2 e3
      · refine o_f (fun q => c6 ((lc_lit (k := 0) rfl (by omega)).mp q)) ?_
        refine o_q (q_ticksOf R F hr c0) ?_
        by_cases c7 : c5 ≤ n_left w r
        · refine o_t ((lc_ge (nn_to64 (by omega)) (by omega)).mpr c7) ?_
          unfold fL_kept_j202
          exact T a2 a3 _ (by rw [if_neg (by omega)]) e2 e3
        · refine o_f (fun q => c7 ((lc_ge (nn_to64 (by omega)) (by omega)).mp q)) ?_
          unfold fL_kept_j193
          refine o_q (q_ticksOf R F hr c0) ?_
          exact T a2 a3 _ (by rw [if_pos ⟨by omega, Or.inr (by omega)⟩]) e2 e3
  have J2 : ∀ a2 : Nat, a2 = c2 + (if w (96 + 6 * r) = 2 then 1 else 0) → ∀ z0 : Nat, a2 = c2 + z0 → Ok (fL_kept_j150 k σ (nn c3) y4 (nn c5).toInt64 y7 (nn r) (nn (w (96 + 6 * r))).toInt64 (nn z0) (nn c2)) P := by
    intro a2 e2 z0 e4
    unfold fL_kept_j150
    refine o_n (show nn c2 + nn z0 = nn a2 by rw [nn_add, e4]) ?_
    by_cases c0 : w (96 + 6 * r) = 0
    · refine o_t ((lc_lit (k := 0) rfl (by omega)).mpr c0) ?_
      exact J a2 (c3 + 1) e2 1 (by rw [if_pos c0]) rfl
    · refine o_f (fun q => c0 ((lc_lit (k := 0) rfl (by omega)).mp q)) ?_
      exact J a2 (c3 + 0) e2 0 (by rw [if_neg c0]) rfl
  by_cases c : w (96 + 6 * r) = 2
  · refine o_t ((lc_lit (k := 2) rfl (by omega)).mpr c) ?_
    exact J2 (c2 + 1) (by rw [if_pos c]) 1 rfl
  · refine o_f (fun q => c ((lc_lit (k := 2) rfl (by omega)).mp q)) ?_
    exact J2 (c2 + 0) (by rw [if_neg c]) 0 rfl
end KR
set_option maxRecDepth 16384 in
theorem kp_b116 (R : Ru (σ 0) w) (F : Wf B w) : ∀ (d n c2 c3 c5 : Nat), d ≤ 16 → d < n → c5 ≤ 200 → Ok (fL_kept_b338 13 σ (1 : Int32) (nn (c2 + n_cn w 2 d)) (nn (c3 + n_cn w 0 d)) y4 (nn (n_nx w d c5)).toInt64 y7 (0 : Int32)) P → Ok (fL_kept_b116 n σ (1 : Int32) (nn c2) (nn c3) y4 (nn c5).toInt64 y7 (nn (16 - d))) P := by
  intro d
  induction d with
  | zero =>
    intro n c2 c3 c5 hd hn h5 h
    obtain ⟨n, rfl⟩ : ∃ m, n = m + 1 := ⟨n - 1, by omega⟩
    rw [fL_kept_b116]
    refine o_t (show (16 : Int32) ≤ nn 16 by decide) ?_
    exact h
  | succ d ih =>
    intro n c2 c3 c5 hd hn h5 h
    obtain ⟨n, rfl⟩ : ∃ m, n = m + 1 := ⟨n - 1, by omega⟩
    rw [n_cn, n_cn, n_nx, ← Nat.add_assoc, ← Nat.add_assoc] at h
    have hl := n_left_le F.1 (r := 15 - d) (by omega)
    have I := ih n (c2 + if w (96 + 6 * (15 - d)) = 2 then 1 else 0) (c3 + if w (96 + 6 * (15 - d)) = 0 then 1 else 0) (if 0 < n_left w (15 - d) ∧ (c5 = 0 ∨ n_left w (15 - d) < c5) then n_left w (15 - d) else c5) (by omega) (by omega) (by split <;> omega) h
    have e16 : 16 - (d + 1) = 15 - d := by omega
    rw [e16]
    obtain ⟨r, hr⟩ : ∃ r, r = 15 - d := ⟨_, rfl⟩
    have e17 : 16 - d = r + 1 := by omega
    rw [e17, ← hr] at I
    rw [← hr]
    have hr16 : r < 16 := by omega
    rw [fL_kept_b116]
    refine o_f (nge (a := 16) (by omega) (by omega) (by omega)) ?_
    refine o_f (nn_one) ?_
    refine o_q (q_stateOf R hr16) ?_
    exact kp_room R F hr16 h5 I
end KQ
set_option maxRecDepth 16384 in
theorem kp_kept {B n l : Nat} {σ : x_S} {w : Nat → Nat} {S K : Nat → Nat → Nat} {t x : Nat → Nat} (Y : Yc σ w n S t K l x) (hn : n ≤ 6) (F : Wf B w) (H : Wk w) (h7 : B ≤ 700000000) : Ok (fL_kept σ) (fun r => r.1 = (1 : Int32) ∧ ∀ i, i ≠ 1 → r.2 i = σ i) := by
  have h9 : B + 700000 ≤ 1000000000 := by omega
  have hm := F.1.2.2.1.2
  have z := n_nx_le F
  have z1 := n_hs_12 (w := w) 12
  have z2 := n_hs_12 (w := (n_each w).2) 12
  have E := Wf_each F (by omega)
  have e5 := n_each_552 F h9
  unfold fL_kept
  refine o_q (q_leasedR Y.1 F) ?_
  refine o_q (q_leasedG Y.1 F) ?_
  refine o_t (rfl) ?_
  have N : ∃ v : Int64, fL_nextByRooms σ = some (v, σ) ∧ v = (if n_nx w 16 0 = 0 then XS else (nn (n_nx w 16 0)).toInt64) := by
    by_cases c : n_nx w 16 0 = 0
    · exact ⟨_, s_nextR Y.1 F c, by rw [if_pos c]⟩
    · exact ⟨_, q_nextR Y.1 F c, by rw [if_neg c]⟩
  obtain ⟨v, N1, N2⟩ := N
  refine o_q (N1) ?_
  refine Ok_bind (q_nextT Y.1 F) (fun r8 h8 => ?_)
  obtain ⟨a1, a2⟩ := h8
  refine o_t (by rw [a1, N2]; exact lgc _) ?_
  have Y8 := Yc_1 Y hn a2
  refine o_q (q_messages Y8.1) ?_
  refine o_q (q_in1 (lo := 0) (hi := 60) (by omega) rfl rfl (by omega)) ?_
  refine o_f (nn_one) ?_
  refine o_q (q_saved Y8.2.1) ?_
  refine o_q (q_in1 (lo := 0) (hi := 6) (by omega) rfl rfl (by omega)) ?_
  refine o_f (nn_one) ?_
  refine o_q (q_housed Y8.1 F) ?_
  refine o_q (q_in1 (lo := 0) (hi := 12) (by omega) rfl rfl (by omega)) ?_
  refine o_f (nn_one) ?_
  refine Ok_bind (c_wouldDeliver Y8 hn F h9) (fun r26 h26 => ?_)
  obtain ⟨b1, b2⟩ := h26
  have Y26 := Yc_1 Y8 hn b2
  refine o_q (q_messages Y26.1) ?_
  refine o_f (fun q => by rw [b1] at q; have := (nn_lt (by omega) (by omega)).mp q; omega) ?_
  refine Ok_bind (c_wouldHouse Y26 hn F h9) (fun r31 h31 => ?_)
  obtain ⟨d1, d2⟩ := h31
  have Y31 := Yc_1 Y26 hn d2
  rw [d1]
  refine o_q (q_in1 (lo := 0) (hi := 12) (by omega) rfl rfl (by omega)) ?_
  refine o_f (nn_one) ?_
  unfold fL_kept_j99
  have K := kp_b116 (P := fun r => r = ((1 : Int32), r31.2)) (y4 := (0 : Int32)) (y7 := (0 : Int32)) Y31.1 F 16 17 0 0 0 (by omega) (by omega) (by omega) (kp_b338 (σ := r31.2) (w := w) Y31.1 F H 12 13 0 (by omega) (by omega) (kp_b636 Y31.1 F H h7 (kp_b667 Y31.1 F (w 552) 0 61 (by omega) (by omega) (by
    rw [Nat.zero_add, Nat.zero_add, Nat.zero_add]
    exact kp_j770 Y31.1 F H h7))))
  rw [mz0] at K
  refine Ok_mono K (fun r hr => ?_)
  rw [hr]
  exact ⟨rfl, fun i hi => ((d2 i hi).trans (b2 i hi)).trans (a2 i hi)⟩
