def x_gap (f : Nat → Int32) (p m : Nat) : Nat → Int32 := fun k => if p ≤ k ∧ k < m - 1 then f (k + 1) else f k
set_option maxRecDepth 16384 in
theorem u_closeGap {u : x_H} {kv p m : Nat} (h3 : u 3 0 = nn m) (hp : p < m) (hm : m ≤ 60) : fX4_closeGap u kv (nn p) = some (x_hs u kv (x_gap (u kv) p m)) := by
  unfold fX4_closeGap
  rw [h3, show nn p + (1 : Int32) = nn (p + 1) from nn_add _ 1, nn_sub (by omega : p ≤ m), show nn (m - p) - (1 : Int32) = nn (m - p - 1) from nn_sub (b := 1) (by omega)]
  have c : x_cp (nn (p + 1)) (nn p) (nn (m - p - 1)) 60 60 := by
    refine ⟨fun h => (nn_neg (by omega)).mp h, fun h => (nn_neg (by omega)).mp h, fun h => (nn_neg (by omega)).mp h, ?_, ?_⟩
    · rw [nn_clamp (by omega), nn_clamp (by omega)]; omega
    · rw [nn_clamp (by omega), nn_clamp (by omega)]; omega
  rw [if_pos c, nn_clamp (by omega), nn_clamp (by omega), nn_clamp (by omega)]
  show some (x_hs u kv (va_cpy (u kv) (u kv) (p + 1) p (m - p - 1))) = _
  congr 2
  funext k
  unfold va_cpy x_gap
  by_cases c2 : p ≤ k ∧ k < p + (m - p - 1)
  · rw [if_pos c2, if_pos (by omega)]
    congr 1
    omega
  · rw [if_neg c2, if_neg (by omega)]
set_option maxRecDepth 16384 in
theorem u_hasPlace {u : x_H} {p m : Nat} (h3 : u 3 0 = nn m) (hm : m ≤ 60) (hp : p < 2147483648) : fX4_hasPlace u (nn p) = some (nn (if p < m then 1 else 0)) := by
  unfold fX4_hasPlace
  rw [if_neg (fun h => (nn_neg hp).mp h), h3]
  by_cases c : p < m
  · rw [if_neg (fun h => by have := (nn_le (by omega) hp).mp h; omega), if_neg (fun h => by have := (nn_lt (a := 60) (by omega) (by omega)).mp h; omega), if_pos c]; rfl
  · rw [if_pos ((nn_le (by omega) hp).mpr (by omega)), if_neg c]; rfl
set_option maxRecDepth 16384 in
theorem u_remove {u : x_H} {w : Nat → Nat} (R : Ru u w) (hm : w 552 ≤ 60) {p : Nat} (hp : p < w 552) : Ok (fX4_remove u (nn p)) (fun u' => Ru u' (n_take w p) ∧ ∀ k i, k = 0 → u' k i = u k i) := by
  unfold fX4_remove
  have h3 := R.2.2.2.2.1.1
  rw [u_hasPlace h3 hm (by omega), if_pos hp, xb_some, if_neg (by decide)]
  have G : ∀ (u : x_H) (kv : Nat), kv ≠ 3 → u 3 0 = nn (w 552) → Ok (fX4_closeGap u kv (nn p)) (fun u' => u' = x_hs u kv (x_gap (u kv) p (w 552)) ∧ u' 3 0 = nn (w 552)) := fun u kv hk h => ⟨_, u_closeGap h hp hm, rfl, by rw [x_hs_ne _ _ (fun h => hk h.symm)]; exact h⟩
  refine Ok_bind (G u 19 (by omega) h3) (fun u1 h1 => ?_)
  refine Ok_bind (G u1 20 (by omega) h1.2) (fun u2 h2 => ?_)
  refine Ok_bind (G u2 21 (by omega) h2.2) (fun u4 h4 => ?_)
  refine Ok_bind (G u4 22 (by omega) h4.2) (fun u5 h5 => ?_)
  refine Ok_bind (G u5 23 (by omega) h5.2) (fun u6 h6 => ?_)
  refine Ok_bind (G u6 24 (by omega) h6.2) (fun u7 h7 => ?_)
  rw [h7.2, show nn (w 552) - (1 : Int32) = nn (w 552 - 1) from nn_sub (b := 1) (by omega)]
  refine Ok_let (fun u8 e8 => Ok_some ?_)
  have D : ∀ k i, k ≠ 3 → k ≠ 19 → k ≠ 20 → k ≠ 21 → k ≠ 22 → k ≠ 23 → k ≠ 24 → u8 k i = u k i := fun k i q0 q1 q2 q3 q4 q5 q6 => by
    rw [e8, x_hu_ne q0, h7.1, x_hs_ne _ _ q6, h6.1, x_hs_ne _ _ q5, h5.1, x_hs_ne _ _ q4, h4.1, x_hs_ne _ _ q3, h2.1, x_hs_ne _ _ q2, h1.1, x_hs_ne _ _ q1]
  have T := fun i => n_take_at w p i hm
  have L : ∀ i, i < 192 → n_take w p i = w i := fun i hi => by rw [T, if_neg (by omega), if_neg (by omega)]
  have H : ∀ i, 552 < i → n_take w p i = w i := fun i hi => by rw [T, if_neg (by omega), if_neg (by omega)]
  refine ⟨⟨RuG_of R.1 (fun k i hk => D k i (by omega) (by omega) (by omega) (by omega) (by omega) (by omega) (by omega)) (fun i hi => L i (by omega)), RuI_of R.2.1 (fun k i hk => D k i (by omega) (by omega) (by omega) (by omega) (by omega) (by omega) (by omega)) (fun i hi hi2 => L i hi2), RuL_of R.2.2.1 (fun i => D 18 i (by omega) (by omega) (by omega) (by omega) (by omega) (by omega) (by omega)) (fun i hi hi2 => L i hi2), RuH_of R.2.2.2.1 (D 2 0 (by omega) (by omega) (by omega) (by omega) (by omega) (by omega) (by omega)) (fun r hr => L _ (by omega)), ⟨?_, fun q hq => ?_⟩, RuN_of R.2.2.2.2.2 (fun k i hk => D k i (by omega) (by omega) (by omega) (by omega) (by omega) (by omega) (by omega)) (fun i hi => H i (by omega))⟩, fun k i hk => D k i (by omega) (by omega) (by omega) (by omega) (by omega) (by omega) (by omega)⟩
  · rw [e8, x_hu_eq rfl rfl, T, if_pos rfl]
  · rw [T 552, if_pos rfl] at hq
    have E : ∀ kv, 19 ≤ kv → kv ≤ 24 → u8 kv q = x_gap (u kv) p (w 552) q := by
      intro kv k1 k2
      rw [e8, x_hu_ne (by omega)]
      rcases (show kv = 19 ∨ kv = 20 ∨ kv = 21 ∨ kv = 22 ∨ kv = 23 ∨ kv = 24 by omega) with rfl | rfl | rfl | rfl | rfl | rfl
      · rw [h7.1, x_hs_ne _ _ (by omega), h6.1, x_hs_ne _ _ (by omega), h5.1, x_hs_ne _ _ (by omega), h4.1, x_hs_ne _ _ (by omega), h2.1, x_hs_ne _ _ (by omega), h1.1, x_hs_eq]
      · rw [h7.1, x_hs_ne _ _ (by omega), h6.1, x_hs_ne _ _ (by omega), h5.1, x_hs_ne _ _ (by omega), h4.1, x_hs_ne _ _ (by omega), h2.1, x_hs_eq, h1.1, x_hs_ne _ _ (by omega)]
      · rw [h7.1, x_hs_ne _ _ (by omega), h6.1, x_hs_ne _ _ (by omega), h5.1, x_hs_ne _ _ (by omega), h4.1, x_hs_eq, h2.1, x_hs_ne _ _ (by omega), h1.1, x_hs_ne _ _ (by omega)]
      · rw [h7.1, x_hs_ne _ _ (by omega), h6.1, x_hs_ne _ _ (by omega), h5.1, x_hs_eq, h4.1, x_hs_ne _ _ (by omega), h2.1, x_hs_ne _ _ (by omega), h1.1, x_hs_ne _ _ (by omega)]
      · rw [h7.1, x_hs_ne _ _ (by omega), h6.1, x_hs_eq, h5.1, x_hs_ne _ _ (by omega), h4.1, x_hs_ne _ _ (by omega), h2.1, x_hs_ne _ _ (by omega), h1.1, x_hs_ne _ _ (by omega)]
      · rw [h7.1, x_hs_eq, h6.1, x_hs_ne _ _ (by omega), h5.1, x_hs_ne _ _ (by omega), h4.1, x_hs_ne _ _ (by omega), h2.1, x_hs_ne _ _ (by omega), h1.1, x_hs_ne _ _ (by omega)]
    have K : ∀ j, j < 6 → n_take w p (192 + 6 * q + j) = w (192 + 6 * (if p ≤ q then q + 1 else q) + j) := by
      intro j hj
      rw [T, if_neg (by omega)]
      by_cases c : p ≤ q
      · rw [if_pos (by omega), if_pos c]
        congr 1
        omega
      · rw [if_neg (by omega), if_neg c]
    have K0 : n_take w p (192 + 6 * q) = w (192 + 6 * (if p ≤ q then q + 1 else q)) := K 0 (by omega)
    have X : ∀ kv, x_gap (u kv) p (w 552) q = u kv (if p ≤ q then q + 1 else q) := by
      intro kv
      unfold x_gap
      by_cases c : p ≤ q
      · rw [if_pos ⟨c, by omega⟩, if_pos c]
      · rw [if_neg (fun h => c h.1), if_neg c]
    rw [E 19 (by omega) (by omega), E 20 (by omega) (by omega), E 21 (by omega) (by omega), E 22 (by omega) (by omega), E 23 (by omega) (by omega), E 24 (by omega) (by omega), X, X, X, X, X, X, K0, K 1 (by omega), K 2 (by omega), K 3 (by omega), K 4 (by omega), K 5 (by omega)]
    exact R.2.2.2.2.1.2 _ (by split <;> omega)
set_option maxRecDepth 16384 in
theorem u_deliverAt {u : x_H} {w : Nat → Nat} {B : Nat} (R : Ru u w) (F : Wf B w) (h9 : B + 1001 ≤ 1000000000) {p : Nat} (hp : p < w 552) : Ok (fX2_deliverAt u (nn p)) (fun q => q.1 = nn (w (192 + 6 * p)) ∧ Ru q.2 (n_handle w p)) := by
  unfold fX2_deliverAt
  obtain ⟨Z, X, hB⟩ := id F
  have hm := Z.2.2.1.2
  have h3 := R.2.2.2.2.1.1
  obtain ⟨p0, p1, p2, p3, p4, p5⟩ := Z.2.2.1.1 p hp
  obtain ⟨m0, m1, m2, m3, m4, m5⟩ := R.2.2.2.2.1.2 p hp
  have b0 := hB.1
  have b3 := hB.2 (192 + 6 * p + 3)
  have b4 := hB.2 (192 + 6 * p + 4)
  rw [u_hasPlace h3 hm (by omega), if_pos hp, xb_some, if_neg (by decide), if_pos (nn_in (by omega) (by omega)), nn_clamp (by omega : p < 2147483648), m0, m1, m2, m3, m4, m5, x_let_n, x_let_n, x_let_m, x_let_m, x_let_m, x_let_n]
  refine Ok_bind (u_remove R hm hp) (fun u1 h1 => ?_)
  obtain ⟨R1, k0⟩ := h1
  have T9 : n_take w p 559 = w 559 := by rw [n_take_at w p _ hm, if_neg (by omega), if_neg (by omega)]
  have T2 : n_take w p 552 ≤ 60 := by rw [n_take_at w p _ hm, if_pos rfl]; omega
  have e3 : u1 0 3 = nn (w 559) := by rw [R1.2.2.2.2.2.1.2.2.2.1, T9]
  rw [e3, show nn (w 559) + (1 : Int32) = nn (w 559 + 1) from nn_add _ 1]
  refine Ok_let (fun u2 e2 => ?_)
  have R2 : Ru u2 (nu (n_take w p) 559 (w 559 + 1)) := by rw [e2]; exact Ru_c R1 T2 (by omega)
  have F2 : Wf (B + 1) (nu (n_take w p) 559 (w 559 + 1)) := ⟨Wz_gone Z hp, Wx_lo X (fun i hi => n_gone hm (by omega)) (n_gone hm (by omega)), Wb_gone hB hm (by omega)⟩
  have e53 : nu (n_take w p) 559 (w 559 + 1) 553 = w 553 := n_gone hm (by omega)
  obtain ⟨w2, hw2⟩ : ∃ z, z = nu (n_take w p) 559 (w 559 + 1) := ⟨_, rfl⟩
  unfold n_handle
  rw [← hw2] at R2 F2 e53 ⊢
  generalize w (192 + 6 * p + 1) = g at p1 ⊢
  generalize w (192 + 6 * p + 2) = r at p2 ⊢
  generalize w (192 + 6 * p + 3) = m at p3 b3 ⊢
  generalize w (192 + 6 * p + 4) = a at p4 b4 ⊢
  generalize w (192 + 6 * p + 5) = t at p5 ⊢
  generalize w (192 + 6 * p) = k at p0 ⊢
  have g3 := (F2.1.1 g p1).1
  rcases (show k = 0 ∨ k = 1 ∨ k = 2 ∨ k = 3 ∨ k = 4 ∨ k = 5 ∨ k = 6 by omega) with rfl | rfl | rfl | rfl | rfl | rfl | rfl
  · rw [if_pos (by decide)]
    exact Ok_bind (u_answerSeek R2 F2.1 F2.2.2 (by omega) p1) (fun u3 h3 => Ok_some ⟨rfl, h3⟩)
  · rw [if_neg (by decide), if_pos (by decide), if_neg (by omega), mm_succ]
    exact Ok_bind (u_hearOffer R2 F2.2.2 (by omega) F2.1.2.2.1.2 p1 p2 g3) (fun u3 h3 => Ok_some ⟨rfl, h3⟩)
  · rw [if_neg (by decide), if_neg (by decide), if_pos (by decide), if_neg (by omega), mm_succ]
    exact Ok_bind (u_answerWant R2 F2.1 F2.2.2 (by omega) p1 p2 (by omega)) (fun u3 h3 => Ok_some ⟨rfl, h3⟩)
  · rw [if_neg (by decide), if_neg (by decide), if_neg (by decide), if_pos (by decide), if_neg (by omega), mm_succ]
    exact Ok_bind (u_hearYes R2 F2.1 F2.2.2 p1 p2 (by omega) p5) (fun u3 h3 => Ok_some ⟨rfl, h3⟩)
  · rw [if_neg (by decide), if_neg (by decide), if_neg (by decide), if_neg (by decide), if_pos (by decide), if_neg (by omega), mm_succ]
    exact Ok_bind (u_hearNo R2 F2.1 F2.2.2 p1 p2 (by omega)) (fun u3 h3 => Ok_some ⟨rfl, h3⟩)
  · rw [if_neg (by decide), if_neg (by decide), if_neg (by decide), if_neg (by decide), if_neg (by decide), if_pos (by decide), if_neg (by omega), mm_succ]
    exact Ok_bind (u_hearRefusal R2 F2.1 F2.2.2 p1 p2 (by omega)) (fun u3 h3 => Ok_some ⟨rfl, h3⟩)
  · rw [if_neg (by decide), if_neg (by decide), if_neg (by decide), if_neg (by decide), if_neg (by decide), if_neg (by decide), if_neg (by omega), mm_succ]
    exact Ok_bind (u_hearLeaving R2 F2.1 F2.2.2 p1 p2 (by omega)) (fun u3 h3 => Ok_some ⟨rfl, h3⟩)
def n_lose (w : Nat → Nat) (p : Nat) : Nat → Nat := nu (n_take w p) 558 (w 558 + 1)
set_option maxRecDepth 16384 in
theorem u_loseAt {u : x_H} {w : Nat → Nat} (R : Ru u w) (Z : Wz w) {p : Nat} (hp : p < w 552) : Ok (fX2_loseAt u (nn p)) (fun q => q.1 = nn (w (192 + 6 * p)) ∧ Ru q.2 (n_lose w p)) := by
  unfold fX2_loseAt n_lose
  have hm := Z.2.2.1.2
  have h3 := R.2.2.2.2.1.1
  obtain ⟨m0, -⟩ := R.2.2.2.2.1.2 p hp
  rw [u_hasPlace h3 hm (by omega), if_pos hp, xb_some, if_neg (by decide), if_pos (nn_in (by omega) (by omega)), nn_clamp (by omega : p < 2147483648), m0, x_let_n]
  refine Ok_bind (u_remove R hm hp) (fun u1 h1 => ?_)
  obtain ⟨R1, k0⟩ := h1
  have T9 : n_take w p 558 = w 558 := by rw [n_take_at w p _ hm, if_neg (by omega), if_neg (by omega)]
  have T2 : n_take w p 552 ≤ 60 := by rw [n_take_at w p _ hm, if_pos rfl]; omega
  have e3 : u1 0 2 = nn (w 558) := by rw [R1.2.2.2.2.2.1.2.2.1, T9]
  rw [e3, show nn (w 558) + (1 : Int32) = nn (w 558 + 1) from nn_add _ 1]
  refine Ok_let (fun u2 e2 => Ok_some ⟨rfl, ?_⟩)
  rw [e2]
  exact Ru_c R1 T2 (by omega)
set_option maxRecDepth 16384 in
theorem u_each : ∀ (d n B : Nat) (u : x_H) (w : Nat → Nat) (c : Nat), Ru u w → Wf B w → n_ptot w ≤ d → d < n → B + d * 1001 + 1001 ≤ 1000000000 → c + d ≤ 300 → Ok (fX2_deliverEach_b2 n u (nn c)) (fun q => q.1 = nn (c + (n_all d w).1) ∧ Ru q.2 (n_all d w).2) := by
  intro d
  induction d with
  | zero =>
    intro n B u w c R F hp hn h9 hc
    obtain ⟨n, rfl⟩ : ∃ m, n = m + 1 := ⟨n - 1, by omega⟩
    have h0 : w 552 = 0 := by
      have := (n_pot_le w (w 552)).1
      unfold n_ptot at hp
      omega
    rw [fX2_deliverEach_b2, n_all, R.2.2.2.2.1.1, h0, if_pos (by decide)]
    exact Ok_some ⟨rfl, R⟩
  | succ d ih =>
    intro n B u w c R F hp hn h9 hc
    obtain ⟨n, rfl⟩ : ∃ m, n = m + 1 := ⟨n - 1, by omega⟩
    have hm := F.1.2.2.1.2
    rw [fX2_deliverEach_b2, n_all, R.2.2.2.2.1.1]
    by_cases h0 : w 552 = 0
    · rw [if_pos h0, if_pos (show nn (w 552) ≤ (0 : Int32) from (nn_le (b := 0) (by omega) (by omega)).mpr (by omega))]
      exact Ok_some ⟨rfl, R⟩
    · rw [if_neg h0, if_neg (show ¬ nn (w 552) ≤ (0 : Int32) from fun h => by have := (nn_le (b := 0) (by omega) (by omega)).mp h; omega), if_neg (show ¬ (300 : Int32) ≤ nn c from fun h => by have := (nn_le (a := 300) (by omega) (by omega)).mp h; omega)]
      have hp2 := n_ptot_handle F.1 (by omega : 0 < w 552)
      have F1 := Wf_handle F (by omega : 0 < w 552) (by omega)
      obtain ⟨q, hq, hq1, R1⟩ := u_deliverAt R F (by omega) (by omega : 0 < w 552)
      have hq' : fX2_deliverAt u (0 : Int32) = some q := hq
      have I := ih n (B + 1001) q.2 (n_handle w 0) (c + 1) R1 F1 (by omega) (by omega) (by omega) (by omega)
      rw [hq', xb_some, show nn c + (1 : Int32) = nn (c + 1) from nn_add c 1, x_let_n]
      refine Ok_mono I (fun q' hq' => ⟨?_, hq'.2⟩)
      rw [hq'.1]
      congr 1
      omega
set_option maxRecDepth 16384 in
theorem u_deliverEach {B : Nat} {u : x_H} {w : Nat → Nat} (R : Ru u w) (F : Wf B w) (h9 : B + 400000 ≤ 1000000000) : Ok (fX2_deliverEach u) (fun q => q.1 = nn (n_each w).1 ∧ Ru q.2 (n_each w).2) := by
  have h := u_each 300 400 B u w 0 R F (n_ptot_le F.1.2.2.1.2) (by omega) (by omega) (by omega)
  unfold n_each
  refine Ok_mono h (fun q hq => ⟨?_, hq.2⟩)
  rw [hq.1, Nat.zero_add]

set_option maxRecDepth 16384 in
theorem nn_subInt {a c : Nat} (ha : a < 1073741824) (hc : c < 1073741824) : (nn a - nn c).toInt = (a : Int) - c := by
  rw [Int32.toInt_sub, nn_toInt (by omega), nn_toInt (by omega), Int.bmod_eq_of_le (by omega) (by omega)]
set_option maxRecDepth 16384 in
theorem nn_max0 {a c : Nat} (ha : a < 1073741824) (hc : c < 1073741824) : (if (0 : Int32) < nn a - nn c then nn a - nn c else 0) = nn (a - c) := by
  by_cases h : c < a
  · rw [if_pos (by rw [Int32.lt_iff_toInt_lt, nn_subInt ha hc, show (0 : Int32).toInt = 0 from rfl]; omega), nn_sub (by omega)]
  · rw [if_neg (by rw [Int32.lt_iff_toInt_lt, nn_subInt ha hc, show (0 : Int32).toInt = 0 from rfl]; omega), show a - c = 0 by omega]
    rfl
def n_rm (t : Nat) : Nat → (Nat → Nat) → Nat × (Nat → Nat)
  | 0, w => (0, w)
  | d + 1, w => if w (96 + 6 * (15 - d)) ≠ 0 ∧ w (96 + 6 * (15 - d) + 1) ≤ t then ((n_rm t d (nu w (96 + 6 * (15 - d)) 0)).1 + 1, (n_rm t d (nu w (96 + 6 * (15 - d)) 0)).2) else n_rm t d w
set_option maxRecDepth 16384 in
theorem n_rm_rooms {t : Nat} : ∀ (d : Nat) (w : Nat → Nat), w 554 = t → d ≤ 16 → (n_rm t d w).2 = n_rooms d w := by
  intro d
  induction d with
  | zero => intro w h hd; rfl
  | succ d ih =>
    intro w h hd
    rw [n_rm, n_rooms, h]
    split
    · exact ih _ (by rw [nu_ne1 (by omega)]; exact h) (by omega)
    · exact ih _ h (by omega)
set_option maxRecDepth 16384 in
theorem u_rm {t B : Nat} (ht : t < 2147483648) : ∀ (d n : Nat) (u : x_H) (w : Nat → Nat) (c : Nat), Ru u w → Wm B w → d ≤ 16 → d < n → Ok (fX3_freeEnded_b4 n u (nn t) (nn c) (nn (16 - d))) (fun q => q.1 = nn (c + (n_rm t d w).1) ∧ Ru q.2 (n_rm t d w).2) := by
  intro d
  induction d with
  | zero =>
    intro n u w c R F hd hn
    obtain ⟨n, rfl⟩ : ∃ m, n = m + 1 := ⟨n - 1, by omega⟩
    rw [fX3_freeEnded_b4, n_rm, if_pos (by decide)]
    exact Ok_some ⟨rfl, R⟩
  | succ d ih =>
    intro n u w c R F hd hn
    obtain ⟨n, rfl⟩ : ∃ m, n = m + 1 := ⟨n - 1, by omega⟩
    have e16 : 16 - (d + 1) = 15 - d := by omega
    obtain ⟨r, hr⟩ : ∃ r, r = 15 - d := ⟨_, rfl⟩
    have hn1 : 16 - d = r + 1 := by omega
    have hr16 : r < 16 := by omega
    have I := fun u' w' c' R' F' => ih n u' w' c' R' F' (by omega) (by omega)
    rw [hn1] at I
    obtain ⟨a1, a2, a3, -⟩ := R.2.1 r hr16
    have zr := F.1.2.1.1 r hr16
    have b1 := F.2.2 (96 + 6 * r + 1)
    have b0 := F.2.1
    rw [fX3_freeEnded_b4, e16, n_rm, ← hr, if_neg (fun h => by have := (nn_le (a := 16) (by omega) (by omega)).mp h; omega), if_pos (nn_in (by omega) hr16), nn_clamp (by omega), a1, show nn r + (1 : Int32) = nn (r + 1) from nn_add r 1]
    by_cases c1 : w (96 + 6 * r) = 0
    · rw [if_neg (show ¬ (w (96 + 6 * r) ≠ 0 ∧ w (96 + 6 * r + 1) ≤ t) from fun h => h.1 c1), if_pos (show nn (w (96 + 6 * r)) = (0 : Int32) by rw [c1]; rfl), x_let_n]
      exact I u w c R F
    · rw [if_neg (show ¬ nn (w (96 + 6 * r)) = (0 : Int32) from fun h => c1 ((nn_inj (b := 0) (by omega) (by omega)).mp h)), a3 c1]
      by_cases c2 : w (96 + 6 * r + 1) ≤ t
      · rw [if_pos (show w (96 + 6 * r) ≠ 0 ∧ w (96 + 6 * r + 1) ≤ t from ⟨c1, c2⟩), if_neg (fun h => by have := (nn_lt ht (by omega)).mp h; omega)]
        refine Ok_bind (u_free R F.1 hr16) (fun u1 h1 => ?_)
        have R1 : Ru u1 (nu w (96 + 6 * r) 0) := h1 _ (nu_eq1 rfl) (fun i q1 q2 => nu_ne1 q1)
        rw [show nn c + (1 : Int32) = nn (c + 1) from nn_add c 1, x_let_n, x_let_n]
        refine Ok_mono (I u1 _ (c + 1) R1 (Wm_room F hr16)) (fun q hq => ⟨?_, hq.2⟩)
        rw [hq.1]
        congr 1
        omega
      · rw [if_neg (show ¬ (w (96 + 6 * r) ≠ 0 ∧ w (96 + 6 * r + 1) ≤ t) from fun h => c2 h.2), if_pos ((nn_lt ht (by omega)).mpr (by omega)), x_let_n]
        exact I u w c R F
set_option maxRecDepth 16384 in
theorem u_freeEnded {t B : Nat} {u : x_H} {w : Nat → Nat} (ht : t < 2147483648) (R : Ru u w) (F : Wm B w) : Ok (fX3_freeEnded u (nn t)) (fun q => q.1 = nn (n_rm t 16 w).1 ∧ Ru q.2 (n_rm t 16 w).2) := by
  have h := u_rm ht 16 400 u w 0 R F (by omega) (by omega)
  rw [Nat.zero_add] at h
  exact h
set_option maxRecDepth 16384 in
theorem u_ticksUntilEnd {B : Nat} {u : x_H} {w : Nat → Nat} (R : Ru u w) (F : Wm B w) {g : Nat} (hg : g < 12) : fX1_ticksUntilEnd u (nn g) (nn (w 554)) = some (nn (if w (8 * g) = 3 then w (8 * g + 2) + w (8 * g + 3) - w 554 else 0)) := by
  unfold fX1_ticksUntilEnd
  obtain ⟨a1, a2, a3, a4, a5, a6, a7, -⟩ := R.1 g hg
  have zg := F.1.1 g hg
  have b0 := F.2.1
  have b4 := F.2.2 554
  rw [u_isGuest hg, xb_some, if_neg nn_one, if_pos (nn_in (by omega) hg), nn_clamp (by omega), a1, a5, a6, nn_add]
  by_cases c : w (8 * g) = 3
  · rw [if_pos (show nn (w (8 * g)) = (3 : Int32) by rw [c]; rfl), if_pos c, nn_max0 (by omega) (by omega)]
  · rw [if_neg (show ¬ nn (w (8 * g)) = (3 : Int32) from fun h => c ((nn_inj (b := 3) (by omega) (by omega)).mp h)), if_neg c]
    rfl
set_option maxRecDepth 16384 in
theorem u_early {B : Nat} {u : x_H} {w : Nat → Nat} (R : Ru u w) (F : Wm B w) {g : Nat} (hg : g < 12) : fX1_earlyAsking u (nn g) = some (nn (w (8 * g + 3) / 2)) := by
  unfold fX1_earlyAsking
  obtain ⟨a1, a2, a3, a4, a5, a6, a7, -⟩ := R.1 g hg
  have zg := F.1.1 g hg
  rw [if_pos (nn_in (by omega) hg), nn_clamp (by omega), a6, show nn (w (8 * g + 3)) / (2 : Int32) = nn (w (8 * g + 3) / 2) from nn_div (by omega) (b := 2) (by omega) (by omega)]
set_option maxRecDepth 16384 in
theorem u_late {B : Nat} {u : x_H} {w : Nat → Nat} (R : Ru u w) (F : Wm B w) {g : Nat} (hg : g < 12) : fX1_lateAsking u (nn g) = some (nn (7 * w (8 * g + 3) / 8)) := by
  unfold fX1_lateAsking
  obtain ⟨a1, a2, a3, a4, a5, a6, a7, -⟩ := R.1 g hg
  have zg := F.1.1 g hg
  rw [if_pos (nn_in (by omega) hg), nn_clamp (by omega), a6, show nn (w (8 * g + 3)) * (7 : Int32) = nn (7 * w (8 * g + 3)) by rw [show (7 : Int32) = nn 7 from rfl, nn_mul, Nat.mul_comm], show nn (7 * w (8 * g + 3)) / (8 : Int32) = nn (7 * w (8 * g + 3) / 8) from nn_div (by omega) (b := 8) (by omega) (by omega)]
set_option maxRecDepth 16384 in
theorem u_asksAt {B : Nat} {u : x_H} {w : Nat → Nat} (R : Ru u w) (F : Wm B w) {g : Nat} (hg : g < 12) : fX1_asksAt u (nn g) (nn (w 554)) = some (nn (if w (8 * g) = 3 ∧ (w 554 = w (8 * g + 2) + w (8 * g + 3) / 2 ∨ w 554 = w (8 * g + 2) + 7 * w (8 * g + 3) / 8) then 1 else 0)) := by
  unfold fX1_asksAt
  obtain ⟨a1, a2, a3, a4, a5, a6, a7, -⟩ := R.1 g hg
  have zg := F.1.1 g hg
  have b0 := F.2.1
  have b4 := F.2.2 554
  rw [u_isGuest hg, xb_some, if_neg nn_one, if_pos (nn_in (by omega) hg), nn_clamp (by omega), a1, a5, nn_sub zg.2.2.1, x_let_n, u_early R F hg, xb_some, u_late R F hg, xb_some]
  by_cases c : w (8 * g) = 3
  · rw [if_pos (show nn (w (8 * g)) = (3 : Int32) by rw [c]; rfl)]
    by_cases c2 : w 554 = w (8 * g + 2) + w (8 * g + 3) / 2
    · rw [if_pos ((nn_inj (by omega) (by omega)).mpr (by omega)), if_pos ⟨c, Or.inl c2⟩]; rfl
    · rw [if_neg (fun h => by have := (nn_inj (by omega) (by omega)).mp h; omega)]
      by_cases c3 : w 554 = w (8 * g + 2) + 7 * w (8 * g + 3) / 8
      · rw [if_pos ((nn_inj (by omega) (by omega)).mpr (by omega)), if_pos ⟨c, Or.inr c3⟩]; rfl
      · rw [if_neg (fun h => by have := (nn_inj (by omega) (by omega)).mp h; omega), if_neg (fun h => h.2.elim c2 c3)]; rfl
  · rw [if_neg (show ¬ nn (w (8 * g)) = (3 : Int32) from fun h => c ((nn_inj (b := 3) (by omega) (by omega)).mp h)), if_neg (fun h => c h.1)]; rfl
set_option maxRecDepth 16384 in
theorem u_guests : ∀ (d n B : Nat) (u : x_H) (w : Nat → Nat) (c : Nat), Ru u w → Wm B w → d ≤ 12 → d < n → B + d * 500 + 500 ≤ 1000000000 → Ok (fX2_tickGuests_b4 n u (nn c) (nn (12 - d))) (fun q => q.1 = nn (c + (n_guests d w).1) ∧ Ru q.2 (n_guests d w).2) := by
  intro d
  induction d with
  | zero =>
    intro n B u w c R F hd hn h9
    obtain ⟨n, rfl⟩ : ∃ m, n = m + 1 := ⟨n - 1, by omega⟩
    rw [fX2_tickGuests_b4, n_guests, if_pos (by decide)]
    exact Ok_some ⟨rfl, R⟩
  | succ d ih =>
    intro n B u w c R F hd hn h9
    obtain ⟨n, rfl⟩ : ∃ m, n = m + 1 := ⟨n - 1, by omega⟩
    have e12 : 12 - (d + 1) = 11 - d := by omega
    obtain ⟨g, hg⟩ : ∃ g, g = 11 - d := ⟨_, rfl⟩
    have hn1 : 12 - d = g + 1 := by omega
    have hg12 : g < 12 := by omega
    have I := fun B' u' w' c' R' F' h9' => ih n B' u' w' c' R' F' (by omega) (by omega) h9'
    rw [hn1] at I
    obtain ⟨a1, -⟩ := R.1 g hg12
    have zg := F.1.1 g hg12
    have hm := F.1.2.2.1.2
    have b0 := F.2.1
    have b4 := F.2.2 554
    have b2 := F.2.2 (8 * g + 2)
    rw [fX2_tickGuests_b4, e12, n_guests, ← hg, if_neg (fun h => by have := (nn_le (a := 12) (by omega) (by omega)).mp h; omega), if_pos (nn_in (by omega) hg12), nn_clamp (by omega), a1, R.2.2.2.2.2.1.1, u_ticksUntilEnd R F hg12, u_asksAt R F hg12, show nn g + (1 : Int32) = nn (g + 1) from nn_add g 1]
    simp only [x_let_n, xb_some]
    by_cases c1 : w (8 * g) = 3
    · rw [if_pos (show nn (w (8 * g)) = (3 : Int32) by rw [c1]; rfl), if_pos c1]
      by_cases c2 : w (8 * g + 2) + w (8 * g + 3) ≤ w 554
      · rw [if_pos (show w (8 * g) = 3 ∧ w (8 * g + 2) + w (8 * g + 3) ≤ w 554 from ⟨c1, c2⟩), if_pos (show nn (w (8 * g + 2) + w (8 * g + 3) - w 554) = (0 : Int32) by rw [show w (8 * g + 2) + w (8 * g + 3) - w 554 = 0 by omega]; rfl)]
        refine Ok_bind (u_rest R hm hg12) (fun u1 R1 => ?_)
        have e5 : u1 0 5 = nn (w 561) := by rw [R1.2.2.2.2.2.1.2.2.2.2.2.1, nu_ne1 (by omega)]
        rw [e5, show nn (w 561) + (1 : Int32) = nn (w 561 + 1) from nn_add _ 1]
        refine Ok_let (fun u2 e2 => ?_)
        rw [show nn c + (1 : Int32) = nn (c + 1) from nn_add c 1, x_let_n]
        have R2 : Ru u2 (nu (nu w (8 * g) 0) 561 (w 561 + 1)) := by rw [e2]; exact Ru_c R1 (by rw [nu_ne1 (by omega)]; exact hm) (by omega)
        refine Ok_mono (I (B + 500) u2 _ (c + 1) R2 (Wm_out F hg12 (by omega)) (by omega)) (fun q hq => ⟨?_, hq.2⟩)
        rw [hq.1]
        congr 1
        omega
      · rw [if_neg (show ¬ (w (8 * g) = 3 ∧ w (8 * g + 2) + w (8 * g + 3) ≤ w 554) from fun h => c2 h.2), if_neg (fun h => by have := (nn_inj (b := 0) (by omega) (by omega)).mp h; omega)]
        by_cases c3 : w (8 * g) = 3 ∧ (w 554 = w (8 * g + 2) + w (8 * g + 3) / 2 ∨ w 554 = w (8 * g + 2) + 7 * w (8 * g + 3) / 8)
        · rw [if_pos c3, if_pos c3, if_neg (by decide)]
          refine Ok_bind (u_sendWant R F.2 hm hg12 (by omega)) (fun u1 R1 => ?_)
          exact I (B + 500) u1 _ c R1 (Wm_want F hg12 (by omega)) (by omega)
        · rw [if_neg c3, if_neg c3, if_pos (by decide)]
          exact I B u w c R F (by omega)
    · rw [if_neg (show ¬ nn (w (8 * g)) = (3 : Int32) from fun h => c1 ((nn_inj (b := 3) (by omega) (by omega)).mp h)), if_neg (show ¬ (w (8 * g) = 3 ∧ w (8 * g + 2) + w (8 * g + 3) ≤ w 554) from fun h => c1 h.1), if_neg (show ¬ (w (8 * g) = 3 ∧ (w 554 = w (8 * g + 2) + w (8 * g + 3) / 2 ∨ w 554 = w (8 * g + 2) + 7 * w (8 * g + 3) / 8)) from fun h => c1 h.1), if_neg (show ¬ (w (8 * g) = 3 ∧ (w 554 = w (8 * g + 2) + w (8 * g + 3) / 2 ∨ w 554 = w (8 * g + 2) + 7 * w (8 * g + 3) / 8)) from fun h => c1 h.1), if_pos (by decide)]
      exact I B u w c R F (by omega)
set_option maxRecDepth 16384 in
theorem u_letTicks : ∀ (d n B : Nat) (u : x_H) (w : Nat → Nat) (c t k : Nat), Ru u w → Wf B w → k + d = t → t ≤ 100 → d < n → B + d * 6001 + 7000 ≤ 1000000000 → Ok (fX2_letTicksGo_b4 n u (nn t) (nn c) (nn k)) (fun q => q.1 = nn (c + (n_go d w).1) ∧ Ru q.2 (n_go d w).2) := by
  intro d
  induction d with
  | zero =>
    intro n B u w c t k R F hk ht hn h9
    obtain ⟨n, rfl⟩ : ∃ m, n = m + 1 := ⟨n - 1, by omega⟩
    rw [fX2_letTicksGo_b4, n_go, if_pos ((nn_le (by omega) (by omega)).mpr (by omega))]
    exact Ok_some ⟨rfl, R⟩
  | succ d ih =>
    intro n B u w c t k R F hk ht hn h9
    obtain ⟨n, rfl⟩ : ∃ m, n = m + 1 := ⟨n - 1, by omega⟩
    have b0 := F.2.2.1
    have b4 := F.2.2.2 554
    have hm := F.1.2.2.1.2
    rw [fX2_letTicksGo_b4, n_go, if_neg (fun h => by have := (nn_le (by omega) (by omega)).mp h; omega), if_neg (show ¬ (100 : Int32) ≤ nn k from fun h => by have := (nn_le (a := 100) (by omega) (by omega)).mp h; omega), R.2.2.2.2.2.1.1, show nn (w 554) + (1 : Int32) = nn (w 554 + 1) from nn_add _ 1]
    refine Ok_let (fun u1 e1 => ?_)
    have R1 : Ru u1 (nu w 554 (w 554 + 1)) := by
      rw [e1]
      obtain ⟨RG, RI, RL, RH, RM, ⟨⟨n0, n1, n2, n3, n4, n5, n6⟩, RN2, RN3⟩⟩ := R
      refine ⟨RuG_of RG (fun k' i' hk => x_hu_ne (by omega)) (fun i' hi => nu_ne1 (by omega)), RuI_of RI (fun k' i' hk => x_hu_ne (by omega)) (fun i' hi hi2 => nu_ne1 (by omega)), RuL_of RL (fun i' => x_hu_ne (by omega)) (fun i' hi hi2 => nu_ne1 (by omega)), RuH_of RH (x_hu_ne (by omega)) (fun r hr => nu_ne1 (by omega)), RuM_of RM (fun k' i' hk => x_hu_ne (by omega)) (fun i' hi hi2 => nu_ne1 (by omega)) hm, ?_, ?_, ?_⟩
      · refine ⟨?_, ?_, ?_, ?_, ?_, ?_, ?_⟩ <;> first | (rw [x_hu_eq rfl rfl, nu_eq1 rfl]) | (rw [x_hu_ni (by omega), nu_ne1 (by omega)]; assumption)
      · rw [x_hu_ne (by omega), x_hu_ne (by omega), x_hu_ne (by omega), nu_ne1 (by omega), nu_ne1 (by omega), nu_ne1 (by omega)]; exact RN2
      · intro k' hk'
        rw [x_hu_ne (by omega), nu_ne1 (by omega)]; exact RN3 k' hk'
    have e0 : u1 0 0 = nn (w 554 + 1) := by rw [e1, x_hu_eq rfl rfl]
    have F1 := Wm_time (B := B) ⟨F.1, F.2.2⟩ (by omega)
    have F2 := n_rooms_in 16 (B + 1) _ F1 (by omega) (fun r hr => by omega)
    rw [e0]
    refine Ok_bind (u_freeEnded (by omega) R1 F1) (fun q hq => ?_)
    obtain ⟨q1, R2⟩ := hq
    rw [n_rm_rooms 16 _ (nu_eq1 rfl) (by omega)] at R2
    have G := u_guests 12 400 (B + 1) q.2 _ 0 R2 F2.1 (by omega) (by omega) (by omega)
    have G' : Ok (fX2_tickGuests q.2) (fun q => q.1 = nn (n_tick w).1 ∧ Ru q.2 (n_tick w).2) := by
      refine Ok_mono G (fun q hq => ?_)
      rw [Nat.zero_add] at hq
      exact hq
    refine Ok_bind G' (fun q2 hq2 => ?_)
    obtain ⟨q21, R3⟩ := hq2
    rw [q21, nn_add, x_let_n, show nn k + (1 : Int32) = nn (k + 1) from nn_add k 1, x_let_n]
    have F3 := Wf_tick F (by omega)
    refine Ok_mono (ih n (B + 6001) q2.2 _ (c + (n_tick w).1) t (k + 1) R3 F3.1 (by omega) ht (by omega) (by omega)) (fun q hq => ⟨?_, hq.2⟩)
    rw [hq.1, Nat.add_assoc]
set_option maxRecDepth 16384 in
theorem u_letTicksGo {B : Nat} {u : x_H} {w : Nat → Nat} (R : Ru u w) (F : Wf B w) {t : Nat} (ht : t ≤ 100) (h9 : B + 700000 ≤ 1000000000) : Ok (fX2_letTicksGo u (nn t)) (fun q => q.1 = nn (n_go t w).1 ∧ Ru q.2 (n_go t w).2) := by
  have h := u_letTicks t 400 B u w 0 t 0 R F (by omega) ht (by omega) (by omega)
  refine Ok_mono h (fun q hq => ⟨?_, hq.2⟩)
  rw [hq.1, Nat.zero_add]

