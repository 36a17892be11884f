/-! ===== lengths, messages, ticks, the buffer ===== -/
section
variable {A n l : Nat} {σ τ : x_S} {m m' : x_H} {w w' : Nat → Nat} {S K : Nat → Nat → Nat} {t x : Nat → Nat}
set_option maxRecDepth 16384 in
theorem Ru_n {u : x_H} (R : Ru u w) (hm : w 552 ≤ 60) {i k y : Nat} (h : (i = 1 ∧ k = 555) ∨ (i = 2 ∧ k = 556) ∨ (i = 3 ∧ k = 557)) : Ru (x_hu u 2 i (nn y)) (nu w k y) := by
  obtain ⟨RG, RI, RL, RH, RM, RN1, RN2, RN3⟩ := R
  have E : ∀ i, i ≠ k → nu w k y i = w i := fun i h => nu_ne1 h
  refine ⟨RuG_of RG (fun k i hk => x_hu_ne (by omega)) (fun i hi => E i (by omega)), RuI_of RI (fun k i hk => x_hu_ne (by omega)) (fun i h1 h2 => E i (by omega)), RuL_of RL (fun i => x_hu_ne (by omega)) (fun i h1 h2 => E i (by omega)), RuH_of RH (x_hu_ni (by omega)) (fun r hr => E _ (by omega)), RuM_of RM (fun k i hk => x_hu_ne (by omega)) (fun i h1 h2 => E i (by omega)) hm, ?_, ?_, fun j hj => ?_⟩
  · rw [x_hu_ne (by omega), x_hu_ne (by omega), x_hu_ne (by omega), x_hu_ne (by omega), x_hu_ne (by omega), x_hu_ne (by omega), x_hu_ne (by omega), E _ (by omega), E _ (by omega), E _ (by omega), E _ (by omega), E _ (by omega), E _ (by omega), E _ (by omega)]
    exact RN1
  · obtain ⟨q1, q2, q3⟩ := RN2
    rcases h with ⟨rfl, rfl⟩ | ⟨rfl, rfl⟩ | ⟨rfl, rfl⟩
    · rw [x_hu_eq rfl rfl, x_hu_ni (by omega), x_hu_ni (by omega), nu_eq1 rfl, nu_ne1 (by omega), nu_ne1 (by omega)]; exact ⟨rfl, q2, q3⟩
    · rw [x_hu_ni (by omega), x_hu_eq rfl rfl, x_hu_ni (by omega), nu_ne1 (by omega), nu_eq1 rfl, nu_ne1 (by omega)]; exact ⟨q1, rfl, q3⟩
    · rw [x_hu_ni (by omega), x_hu_ni (by omega), x_hu_eq rfl rfl, nu_ne1 (by omega), nu_ne1 (by omega), nu_eq1 rfl]; exact ⟨q1, q2, rfl⟩
  · rw [x_hu_ne (by omega), E _ (by omega)]; exact RN3 j hj
set_option maxRecDepth 16384 in
theorem m_chg {k g : Nat} (hk : 555 ≤ k ∧ k ≤ 557) (M : Ym m w n S t K l x) (hn : n ≤ 6) : Ok (fX7_change_j19 m (nn k) (nn g) (0 : Int32)) (fun q => q.1 = nn (w k) ∧ q.2 40 0 = nn 0 ∧ Ym q.2 (nu w k g) (n_sn n) (n_sS w n S) t K l x) := by
  rw [fX7_change_j19, rf0, xb_some, if_pos rfl]
  refine Ok_bind (m_save (Ym_rf M (0 : Int32)) hn) (fun m1 h1 => ?_)
  obtain ⟨M1, r1, r42⟩ := h1
  have r1 : m1 40 0 = nn 0 := r1.trans (rfz (m) (0 : Int32))
  rw [if_pos (nn_in (by omega) (by omega)), nn_clamp (by omega)]
  refine Ok_let (fun x10 e10 => Ok_let (fun u1 e1 => Ok_some ⟨?_, ?_, ?_⟩))
  · show x10 = _
    rw [e10]; exact M1.1 k (by omega)
  · show u1 40 0 = _
    rw [e1, x_hu_ne (by omega), r1]
  · show Ym u1 _ _ _ _ _ _ _
    rw [e1]; exact Ym_now M1 (Rv_up M1.1 _ _)
set_option maxRecDepth 16384 in
theorem m_chg_no {k a : Int32} : fX7_change_j19 m k a (1 : Int32) = some ((0 : Int32), x_hu m 40 0 (1 : Int32)) := by
  rw [fX7_change_j19, rf1, xb_some, if_neg nn_one]
set_option maxRecDepth 16384 in
theorem c_chg {i k g : Nat} (h : (i = 1 ∧ k = 555) ∨ (i = 2 ∧ k = 556) ∨ (i = 3 ∧ k = 557)) (Y : Yc σ w n S t K l x) (hn : n ≤ 6) (hm : w 552 ≤ 60) : Ok (Option.bind (fX5_push σ) fun r3 => x_let (r3 0 2 i) fun x5 => x_let (x_sh r3 0 (x_hu (r3 0) 2 i (nn g))) fun τ7 => some (x5, τ7)) (fun r => r.1 = nn (w k) ∧ Yc r.2 (nu w k g) (n_sn n) (n_sS w n S) t K l x ∧ r.2 11 = σ 11) := by
  refine Ok_bind (c_push Y hn) (fun τ hτ => ?_)
  obtain ⟨Y1, t11, t12⟩ := hτ
  refine Ok_let (fun x5 e5 => Ok_let (fun τ2 e2 => Ok_some ⟨?_, ?_, ?_⟩))
  · show x5 = _
    obtain ⟨q1, q2, q3⟩ := Y1.1.2.2.2.2.2.2.1
    rcases h with ⟨rfl, rfl⟩ | ⟨rfl, rfl⟩ | ⟨rfl, rfl⟩
    · rw [e5]; exact q1
    · rw [e5]; exact q2
    · rw [e5]; exact q3
  · show Yc τ2 _ _ _ _ _ _ _
    rw [e2]; exact Yc_now Y1 (n_sn_le hn) (Ru_n Y1.1 hm h)
  · show τ2 11 = _
    rw [e2, x_sh_ne _ _ (by omega), t11]
set_option maxRecDepth 16384 in
theorem Wf_chg {B : Nat} (F : Wf B w) {k y : Nat} (hk : 555 ≤ k ∧ k ≤ 557) (hy : (k = 555 → 8 ≤ y ∧ y ≤ 200) ∧ (k = 556 → 1 ≤ y ∧ y ≤ 50) ∧ (k = 557 → 1 ≤ y ∧ y ≤ 200)) (h9 : B + 1000 ≤ 1000000000) : Wf (B + 1000) (nu w k y) := by
  obtain ⟨Z, X, hB⟩ := F
  have hz := Z.2.2.2
  refine ⟨Wz_n Z hk ?_, Wx_o X (Or.inr (by omega)), Wb_nu (Wb_up hB (by omega) h9) (by omega)⟩
  unfold WzN at hz ⊢
  unfold nu
  by_cases c5 : k = 555
  · subst c5
    simp only [if_true, show ¬ (556 : Nat) = 555 by omega, show ¬ (557 : Nat) = 555 by omega, if_false]
    omega
  · by_cases c6 : k = 556
    · subst c6
      simp only [if_true, show ¬ (555 : Nat) = 556 by omega, show ¬ (557 : Nat) = 556 by omega, if_false]
      omega
    · have c7 : k = 557 := by omega
      subst c7
      simp only [if_true, show ¬ (555 : Nat) = 557 by omega, show ¬ (556 : Nat) = 557 by omega, if_false]
      omega
end
set_option maxRecDepth 16384 in
theorem i8 : (nn 8).toInt64 = (8 : Int32).toInt64 := rfl
set_option maxRecDepth 16384 in
theorem s_7 {A : Nat} {σ : x_S} (Y : Sy A σ) (hA : A + 1300000 ≤ 700000000) (a a2 : Int32) : Ok (gL_7 σ a a2) (Sy (A + 1300000)) := by
  obtain ⟨w, n, S, t, K, l, x, Y, M, N⟩ := Y
  obtain ⟨B, F, ⟨hn, hS⟩, hK, hx, b1, b2, b3⟩ := id N
  have hm := F.1.2.2.1.2
  have NA := Yn_up N (show A ≤ A + 1300000 by omega) hA
  have NS := Yn_save N
  show Ok (gI (fL_changeLease σ a) (fun m => fX7_changeLease m a)) _
  unfold fL_changeLease
  rcases a_range (p := 8) (m := 200) (by omega) (by omega) a with ⟨h1, h2⟩ | ⟨g, g1, g2, rfl, h1, h2, h3⟩
  · have h1 : eX6_requireRange a (8 : Int32) (200 : Int32) = some 1 := h1
    have h2 : fX7_in a.toInt64 (8 : Int32).toInt64 (200 : Int32).toInt64 = some 0 := h2
    refine gI_exc (1, σ) 1 ?_ rfl (by omega) (by omega) Y NA ?_
    · rw [eX6_changeLease, h1]; rfl
    · show Ok (fX7_changeLease (σ 11) a) _
      rw [fX7_changeLease, fX7_change, h2, xb_some, if_pos rfl, m_chg_no, xb_some]
      exact Ok_some ⟨rfz (σ 11) (1 : Int32), Ym_rf M _⟩
  · have h1 : eX6_requireRange (nn g) (8 : Int32) (200 : Int32) = none := h1
    have h2 : fX6_requireRange (nn g) (8 : Int32) (200 : Int32) = some () := h2
    have h3 : fX7_in (nn g).toInt64 (8 : Int32).toInt64 (200 : Int32).toInt64 = some 1 := h3
    refine gI_val (σ := σ) (w := nu w 555 g) (nn (w 555)) ?_ ?_ (Yn_now 1000 NS (fun B F h => Wf_chg F (by omega) (by omega) (by omega)) (by omega) hA) ?_
    · rw [eX6_changeLease, h1, xo_none, h2, xb_some]
    · rw [fX6_changeLease, h2, xb_some]
      exact c_chg (Or.inl ⟨rfl, rfl⟩) Y hn hm
    · show Ok (fX7_changeLease (σ 11) (nn g)) _
      rw [fX7_changeLease, fX7_change, h3, xb_some, if_neg nn_one]
      exact Ok_bind (m_chg (k := 555) (by omega) M hn) (fun q hq => Ok_some hq)
set_option maxRecDepth 16384 in
theorem s_8 {A : Nat} {σ : x_S} (Y : Sy A σ) (hA : A + 1300000 ≤ 700000000) (a a2 : Int32) : Ok (gL_8 σ a a2) (Sy (A + 1300000)) := by
  obtain ⟨w, n, S, t, K, l, x, Y, M, N⟩ := Y
  obtain ⟨B, F, ⟨hn, hS⟩, hK, hx, b1, b2, b3⟩ := id N
  have hm := F.1.2.2.1.2
  have NA := Yn_up N (show A ≤ A + 1300000 by omega) hA
  have NS := Yn_save N
  show Ok (gI (fL_changeHold σ a) (fun m => fX7_changeHold m a)) _
  unfold fL_changeHold
  rcases a_range (p := 1) (m := 50) (by omega) (by omega) a with ⟨h1, h2⟩ | ⟨g, g1, g2, rfl, h1, h2, h3⟩
  · have h1 : eX6_requireRange a (1 : Int32) (50 : Int32) = some 1 := h1
    have h2 : fX7_in a.toInt64 (1 : Int32).toInt64 (50 : Int32).toInt64 = some 0 := h2
    refine gI_exc (1, σ) 1 ?_ rfl (by omega) (by omega) Y NA ?_
    · rw [eX6_changeHold, h1]; rfl
    · show Ok (fX7_changeHold (σ 11) a) _
      rw [fX7_changeHold, fX7_change, h2, xb_some, if_pos rfl, m_chg_no, xb_some]
      exact Ok_some ⟨rfz (σ 11) (1 : Int32), Ym_rf M _⟩
  · have h1 : eX6_requireRange (nn g) (1 : Int32) (50 : Int32) = none := h1
    have h2 : fX6_requireRange (nn g) (1 : Int32) (50 : Int32) = some () := h2
    have h3 : fX7_in (nn g).toInt64 (1 : Int32).toInt64 (50 : Int32).toInt64 = some 1 := h3
    refine gI_val (σ := σ) (w := nu w 556 g) (nn (w 556)) ?_ ?_ (Yn_now 1000 NS (fun B F h => Wf_chg F (by omega) (by omega) (by omega)) (by omega) hA) ?_
    · rw [eX6_changeHold, h1, xo_none, h2, xb_some]
    · rw [fX6_changeHold, h2, xb_some]
      exact c_chg (Or.inr (Or.inl ⟨rfl, rfl⟩)) Y hn hm
    · show Ok (fX7_changeHold (σ 11) (nn g)) _
      rw [fX7_changeHold, fX7_change, h3, xb_some, if_neg nn_one]
      exact Ok_bind (m_chg (k := 556) (by omega) M hn) (fun q hq => Ok_some hq)
set_option maxRecDepth 16384 in
theorem s_9 {A : Nat} {σ : x_S} (Y : Sy A σ) (hA : A + 1300000 ≤ 700000000) (a a2 : Int32) : Ok (gL_9 σ a a2) (Sy (A + 1300000)) := by
  obtain ⟨w, n, S, t, K, l, x, Y, M, N⟩ := Y
  obtain ⟨B, F, ⟨hn, hS⟩, hK, hx, b1, b2, b3⟩ := id N
  have hm := F.1.2.2.1.2
  have NA := Yn_up N (show A ≤ A + 1300000 by omega) hA
  have NS := Yn_save N
  show Ok (gI (fL_changeShut σ a) (fun m => fX7_changeShut m a)) _
  unfold fL_changeShut
  rcases a_range (p := 1) (m := 200) (by omega) (by omega) a with ⟨h1, h2⟩ | ⟨g, g1, g2, rfl, h1, h2, h3⟩
  · have h1 : eX6_requireRange a (1 : Int32) (200 : Int32) = some 1 := h1
    have h2 : fX7_in a.toInt64 (1 : Int32).toInt64 (200 : Int32).toInt64 = some 0 := h2
    refine gI_exc (1, σ) 1 ?_ rfl (by omega) (by omega) Y NA ?_
    · rw [eX6_changeShut, h1]; rfl
    · show Ok (fX7_changeShut (σ 11) a) _
      rw [fX7_changeShut, fX7_change, h2, xb_some, if_pos rfl, m_chg_no, xb_some]
      exact Ok_some ⟨rfz (σ 11) (1 : Int32), Ym_rf M _⟩
  · have h1 : eX6_requireRange (nn g) (1 : Int32) (200 : Int32) = none := h1
    have h2 : fX6_requireRange (nn g) (1 : Int32) (200 : Int32) = some () := h2
    have h3 : fX7_in (nn g).toInt64 (1 : Int32).toInt64 (200 : Int32).toInt64 = some 1 := h3
    refine gI_val (σ := σ) (w := nu w 557 g) (nn (w 557)) ?_ ?_ (Yn_now 1000 NS (fun B F h => Wf_chg F (by omega) (by omega) (by omega)) (by omega) hA) ?_
    · rw [eX6_changeShut, h1, xo_none, h2, xb_some]
    · rw [fX6_changeShut, h2, xb_some]
      exact c_chg (Or.inr (Or.inr ⟨rfl, rfl⟩)) Y hn hm
    · show Ok (fX7_changeShut (σ 11) (nn g)) _
      rw [fX7_changeShut, fX7_change, h3, xb_some, if_neg nn_one]
      exact Ok_bind (m_chg (k := 557) (by omega) M hn) (fun q hq => Ok_some hq)
set_option maxRecDepth 16384 in
theorem s_10 {A : Nat} {σ : x_S} (Y : Sy A σ) (hA : A + 1300000 ≤ 700000000) (a a2 : Int32) : Ok (gL_10 σ a a2) (Sy (A + 1300000)) := by
  obtain ⟨w, n, S, t, K, l, x, Y, M, N⟩ := Y
  obtain ⟨B, F, ⟨hn, hS⟩, hK, hx, b1, b2, b3⟩ := id N
  have hm := F.1.2.2.1.2
  have NA := Yn_up N (show A ≤ A + 1300000 by omega) hA
  have NS := Yn_save N
  show Ok (gI (fL_deliver σ a) (fun m => fX7_deliver m a)) _
  unfold fL_deliver
  have e552 := M.1 552 (by omega)
  rcases a_place (u := σ 0) Y.1.2.2.2.2.1.1 hm a with ⟨h1, h2⟩ | ⟨p, hp, rfl, h1, h2⟩
  · rw [← e552] at h2
    refine gI_exc (0, σ) 1 ?_ rfl (by omega) (by omega) Y NA ?_
    · rw [eX6_deliver, ep_no h1]; rfl
    · show Ok (fX7_deliver (σ 11) a) _
      rw [fX7_deliver, mp_no h2, xb_some, if_neg nn_one]
      exact Ok_some ⟨rfz (σ 11) (1 : Int32), Ym_rf M _⟩
  · rw [← e552] at h2
    refine gI_val (σ := σ) (w := n_handle w p) (nn (w (192 + 6 * p))) ?_ ?_ (Yn_now 1001 NS (fun B F h => Wf_handle F hp (by omega)) (by omega) hA) ?_
    · rw [eX6_deliver, ep_ok h1, xo_none, fp_ok h1, xb_some]
    · rw [fX6_deliver, fp_ok h1, xb_some]
      refine Ok_bind (c_push Y hn) (fun τ hτ => ?_)
      obtain ⟨Y1, t11, t12⟩ := hτ
      refine Ok_bind (u_deliverAt Y1.1 F (by omega) hp) (fun u hu => Ok_let (fun τ2 e2 => Ok_some ⟨hu.1, ?_, ?_⟩))
      · show Yc τ2 _ _ _ _ _ _ _
        rw [e2]; exact Yc_now Y1 (n_sn_le hn) hu.2
      · show τ2 11 = _
        rw [e2, x_sh_ne _ _ (by omega), t11]
    · show Ok (fX7_deliver (σ 11) (nn p)) _
      rw [fX7_deliver, mp_ok h2, xb_some, if_pos rfl]
      refine Ok_bind (m_save (Ym_rf M (0 : Int32)) hn) (fun m1 h1 => ?_)
      obtain ⟨M1, r1, r42⟩ := h1
      have r1 : m1 40 0 = nn 0 := r1.trans (rfz (σ 11) (0 : Int32))
      refine Ok_bind (v_handle M1.1 F.1 F.2.2 (by omega) hp) (fun q hq => Ok_let (fun u1 e1 => Ok_some ⟨hq.1, ?_, ?_⟩))
      · show u1 40 0 = _
        rw [e1, x_hs_ne _ _ (by omega), r1]
      · show Ym u1 _ _ _ _ _ _ _
        rw [e1]; exact Ym_now M1 hq.2
set_option maxRecDepth 16384 in
theorem n_take_lose {w : Nat → Nat} {p y : Nat} (hp : p < w 552) (hm : w 552 ≤ 60) (i : Nat) : n_take (nu w 558 y) p i = nu (n_take w p) 558 y i := by
  have e : nu w 558 y 552 = w 552 := nu_ne1 (by omega)
  rw [n_take_at _ p i (by rw [e]; exact hm), e]
  by_cases c : i = 558
  · rw [if_neg (by omega), if_neg (by omega), nu_eq1 c, nu_eq1 c]
  · rw [nu_ne1 (w := n_take w p) c, n_take_at w p i hm, nu_ne1 (w := w) c]
    by_cases c2 : i = 552
    · rw [if_pos c2, if_pos c2]
    · rw [if_neg c2, if_neg c2]
      by_cases c3 : 192 + 6 * p ≤ i ∧ i < 192 + 6 * p + 6 * (w 552 - 1 - p)
      · rw [if_pos c3, if_pos c3, nu_ne1 (by omega)]
      · rw [if_neg c3, if_neg c3]
set_option maxRecDepth 16384 in
theorem v_lose {v : x_V} {w : Nat → Nat} (R : Rv v (nu w 558 (w 558 + 1))) {p : Nat} (hp : p < w 552) (hm : w 552 ≤ 60) : Ok (fX7_take v (nn p)) (fun q => q.1 = nn (w (192 + 6 * p)) ∧ Rv q.2 (n_lose w p)) := by
  have e : nu w 558 (w 558 + 1) 552 = w 552 := nu_ne1 (by omega)
  refine Ok_mono (v_take R (p := p) (by rw [e]; exact hp) (by rw [e]; exact hm)) (fun q hq => ⟨by rw [hq.1, nu_ne1 (by omega)], fun i hi => ?_⟩)
  rw [hq.2 i hi, n_take_lose hp hm]
  rfl
set_option maxRecDepth 16384 in
theorem s_11 {A : Nat} {σ : x_S} (Y : Sy A σ) (hA : A + 1300000 ≤ 700000000) (a a2 : Int32) : Ok (gL_11 σ a a2) (Sy (A + 1300000)) := by
  obtain ⟨w, n, S, t, K, l, x, Y, M, N⟩ := Y
  obtain ⟨B, F, ⟨hn, hS⟩, hK, hx, b1, b2, b3⟩ := id N
  have hm := F.1.2.2.1.2
  have NA := Yn_up N (show A ≤ A + 1300000 by omega) hA
  have NS := Yn_save N
  show Ok (gI (fL_lose σ a) (fun m => fX7_lose m a)) _
  unfold fL_lose
  have e552 := M.1 552 (by omega)
  rcases a_place (u := σ 0) Y.1.2.2.2.2.1.1 hm a with ⟨h1, h2⟩ | ⟨p, hp, rfl, h1, h2⟩
  · rw [← e552] at h2
    refine gI_exc (0, σ) 1 ?_ rfl (by omega) (by omega) Y NA ?_
    · rw [eX6_lose, ep_no h1]; rfl
    · show Ok (fX7_lose (σ 11) a) _
      rw [fX7_lose, mp_no h2, xb_some, if_neg nn_one]
      exact Ok_some ⟨rfz (σ 11) (1 : Int32), Ym_rf M _⟩
  · rw [← e552] at h2
    refine gI_val (σ := σ) (w := n_lose w p) (nn (w (192 + 6 * p))) ?_ ?_ (Yn_now 1000 NS (fun B F h => Wf_lose F hp (by omega)) (by omega) hA) ?_
    · rw [eX6_lose, ep_ok h1, xo_none, fp_ok h1, xb_some]
    · rw [fX6_lose, fp_ok h1, xb_some]
      refine Ok_bind (c_push Y hn) (fun τ hτ => ?_)
      obtain ⟨Y1, t11, t12⟩ := hτ
      refine Ok_bind (u_loseAt Y1.1 F.1 hp) (fun u hu => Ok_let (fun τ2 e2 => Ok_some ⟨hu.1, ?_, ?_⟩))
      · show Yc τ2 _ _ _ _ _ _ _
        rw [e2]; exact Yc_now Y1 (n_sn_le hn) hu.2
      · show τ2 11 = _
        rw [e2, x_sh_ne _ _ (by omega), t11]
    · show Ok (fX7_lose (σ 11) (nn p)) _
      rw [fX7_lose, mp_ok h2, xb_some, if_pos rfl]
      refine Ok_bind (m_save (Ym_rf M (0 : Int32)) hn) (fun m1 h1 => ?_)
      obtain ⟨M1, r1, r42⟩ := h1
      have r1 : m1 40 0 = nn 0 := r1.trans (rfz (σ 11) (0 : Int32))
      have e58 : m1 41 (Int32.toNatClampNeg (558 : Int32)) + (1 : Int32) = nn (w 558 + 1) := by rw [show m1 41 (Int32.toNatClampNeg (558 : Int32)) = nn (w 558) from M1.1 558 (by omega)]; exact nn_add _ 1
      rw [e58, show Int32.toNatClampNeg (558 : Int32) = 558 from rfl]
      refine Ok_let (fun u6 e6 => ?_)
      have R6 : Rv (u6 41) (nu w 558 (w 558 + 1)) := by rw [e6]; show Rv (x_hs m1 41 _ 41) _; rw [x_hs_eq]; exact Rv_up M1.1 _ _
      have M6 : Ym u6 (nu w 558 (w 558 + 1)) (n_sn n) (n_sS w n S) t K l x := by rw [e6]; exact Ym_now M1 (Rv_up M1.1 _ _)
      refine Ok_bind (v_lose R6 hp hm) (fun q hq => Ok_let (fun u1 e1 => Ok_some ⟨hq.1, ?_, ?_⟩))
      · show u1 40 0 = _
        rw [e1, x_hs_ne _ _ (by omega), e6, x_hu_ne (by omega), r1]
      · show Ym u1 _ _ _ _ _ _ _
        rw [e1]; exact Ym_now M6 hq.2
set_option maxRecDepth 16384 in
theorem s_12 {A : Nat} {σ : x_S} (Y : Sy A σ) (hA : A + 1300000 ≤ 700000000) (a a2 : Int32) : Ok (gL_12 σ a a2) (Sy (A + 1300000)) := by
  obtain ⟨w, n, S, t, K, l, x, Y, M, N⟩ := Y
  obtain ⟨B, F, ⟨hn, hS⟩, hK, hx, b1, b2, b3⟩ := id N
  have hm := F.1.2.2.1.2
  have NA := Yn_up N (show A ≤ A + 1300000 by omega) hA
  have NS := Yn_save N
  show Ok (gC (fX6_deliverAll σ) (fun m => fX7_deliverAll m)) _
  refine gC_val (σ := σ) (w := (n_each w).2) (nn (n_each w).1) ?_ (Yn_now 301000 NS (fun B F h => (v_each M.1 F (by omega)).2.1) (by omega) hA) ?_
  · rw [fX6_deliverAll]
    refine Ok_bind (c_push Y hn) (fun τ hτ => ?_)
    obtain ⟨Y1, t11, t12⟩ := hτ
    refine Ok_bind (u_deliverEach Y1.1 F (by omega)) (fun u hu => Ok_let (fun τ2 e2 => Ok_some ⟨hu.1, ?_, ?_⟩))
    · show Yc τ2 _ _ _ _ _ _ _
      rw [e2]; exact Yc_now Y1 (n_sn_le hn) hu.2
    · show τ2 11 = _
      rw [e2, x_sh_ne _ _ (by omega), t11]
  · show Ok (fX7_deliverAll (σ 11)) _
    rw [fX7_deliverAll]
    refine Ok_let (fun u0 e0 => ?_)
    rw [e0]
    refine Ok_bind (m_save (Ym_rf M (0 : Int32)) hn) (fun m1 h1 => ?_)
    obtain ⟨M1, r1, r42⟩ := h1
    have r1 : m1 40 0 = nn 0 := r1.trans (rfz (σ 11) (0 : Int32))
    refine Ok_bind (v_each M1.1 F (by omega)).1 (fun q hq => Ok_let (fun u1 e1 => Ok_some ⟨hq.1, ?_⟩))
    show Ym u1 _ _ _ _ _ _ _
    rw [e1]; exact Ym_now M1 hq.2
set_option maxRecDepth 16384 in
theorem s_13 {A : Nat} {σ : x_S} (Y : Sy A σ) (hA : A + 1300000 ≤ 700000000) (a a2 : Int32) : Ok (gL_13 σ a a2) (Sy (A + 1300000)) := by
  obtain ⟨w, n, S, t, K, l, x, Y, M, N⟩ := Y
  obtain ⟨B, F, ⟨hn, hS⟩, hK, hx, b1, b2, b3⟩ := id N
  have hm := F.1.2.2.1.2
  have NA := Yn_up N (show A ≤ A + 1300000 by omega) hA
  have NS := Yn_save N
  show Ok (gI (fL_tick σ a) (fun m => fX7_tick m a)) _
  unfold fL_tick
  have q1 : (nn 1).toInt64 = (1 : Int64) := by decide
  have q2 : (nn 100).toInt64 = (100 : Int64) := by decide
  rcases a_range (p := 1) (m := 100) (by omega) (by omega) a with ⟨h1, h2⟩ | ⟨g, g1, g2, rfl, h1, h2, h3⟩
  · have h1 : eX6_requireRange a (1 : Int32) (100 : Int32) = some 1 := h1
    rw [q1, q2] at h2
    refine gI_exc (1, σ) 1 ?_ rfl (by omega) (by omega) Y NA ?_
    · rw [eX6_tick, h1]; rfl
    · show Ok (fX7_tick (σ 11) a) _
      rw [fX7_tick, h2, xb_some, if_pos rfl, rf1, xb_some, if_neg nn_one]
      exact Ok_some ⟨rfz (σ 11) (1 : Int32), Ym_rf M _⟩
  · have h1 : eX6_requireRange (nn g) (1 : Int32) (100 : Int32) = none := h1
    have h2 : fX6_requireRange (nn g) (1 : Int32) (100 : Int32) = some () := h2
    rw [q1, q2] at h3
    refine gI_val (σ := σ) (w := (n_go g w).2) (nn (n_go g w).1) ?_ ?_ (Yn_now 600100 NS (fun B F h => (v_goTicks M.1 F g2 (by omega)).2.1) (by omega) hA) ?_
    · rw [eX6_tick, h1, xo_none, h2, xb_some]
    · rw [fX6_tick, h2, xb_some]
      refine Ok_bind (c_push Y hn) (fun τ hτ => ?_)
      obtain ⟨Y1, t11, t12⟩ := hτ
      refine Ok_bind (u_letTicksGo Y1.1 F g2 (by omega)) (fun u hu => Ok_let (fun τ2 e2 => Ok_some ⟨hu.1, ?_, ?_⟩))
      · show Yc τ2 _ _ _ _ _ _ _
        rw [e2]; exact Yc_now Y1 (n_sn_le hn) hu.2
      · show τ2 11 = _
        rw [e2, x_sh_ne _ _ (by omega), t11]
    · show Ok (fX7_tick (σ 11) (nn g)) _
      rw [fX7_tick, h3, xb_some, if_neg nn_one, rf0, xb_some, if_pos rfl]
      refine Ok_bind (m_save (Ym_rf M (0 : Int32)) hn) (fun m1 h1 => ?_)
      obtain ⟨M1, r1, r42⟩ := h1
      have r1 : m1 40 0 = nn 0 := r1.trans (rfz (σ 11) (0 : Int32))
      refine Ok_bind (v_goTicks M1.1 F g2 (by omega)).1 (fun q hq => Ok_let (fun u1 e1 => Ok_some ⟨hq.1, ?_, ?_⟩))
      · show u1 40 0 = _
        rw [e1, x_hs_ne _ _ (by omega), r1]
      · show Ym u1 _ _ _ _ _ _ _
        rw [e1]; exact Ym_now M1 hq.2
set_option maxRecDepth 16384 in
theorem ch_get : ∀ g, g < 127 → ((nn g).toUInt32 % 65536).toInt32 = nn g := by decide
set_option maxRecDepth 16384 in
theorem ch_nar : ∀ g, g < 127 → vp_nar .char (nn g) = nn g := by decide
section
variable {A n l l' : Nat} {σ τ : x_S} {m m' : x_H} {w w' : Nat → Nat} {S K : Nat → Nat → Nat} {t x x' : Nat → Nat}
set_option maxRecDepth 16384 in
theorem Yc_x (Y : Yc σ w n S t K l x) (hn : n ≤ 6) {u : x_H} (h : ∀ k i, k ≠ 37 → k ≠ 38 → u k i = σ 10 k i) (h37 : u 37 0 = nn l') (h38 : ∀ i, i < l' → u 38 i = nn (x' i)) : Yc (x_sh σ 10 u) w n S t K l' x' := by
  obtain ⟨Y1, ⟨Y2, g, Y3, Y4, Y5⟩, Y6, Y7, Y8⟩ := Y
  have e10 : x_sh σ 10 u 10 = u := x_sh_eq _ _ _
  refine ⟨by rw [x_sh_ne _ _ (by omega)]; exact Y1, ⟨by rw [e10, h 33 0 (by omega) (by omega)]; exact Y2, g, fun i hi => by rw [e10, h 34 i (by omega) (by omega)]; exact Y3 i hi, Y4, fun i hi => ?_⟩, fun s hs => ?_, by rw [e10]; exact h37, fun i hi => by rw [e10]; exact h38 i hi⟩
  · have q := Y3 i (by omega)
    rw [x_sh_ne _ _ (by omega)]
    exact Y5 i hi
  · obtain ⟨a, b, c⟩ := Y6 s hs
    exact ⟨by rw [e10, h 35 s (by omega) (by omega)]; exact a, by rw [e10, h 36 s (by omega) (by omega)]; exact b, fun e => by rw [x_sh_ne _ _ (by omega)]; exact c e⟩
set_option maxRecDepth 16384 in
theorem Ym_x (Y : Ym m w n S t K l x) (h : ∀ k i, 41 ≤ k → k ≤ 45 → k ≠ 42 → m' k i = m k i) (h1 : m' 40 1 = m 40 1) (h2 : m' 40 2 = nn l') (h3 : ∀ i, i < l' → m' 46 i = nn (x' i)) : Ym m' w n S t K l' x' := by
  obtain ⟨Y1, ⟨Y2, Y3⟩, Y4, Y5, Y6⟩ := Y
  exact ⟨fun i hi => by rw [h 41 i (by omega) (by omega) (by omega)]; exact Y1 i hi, ⟨by rw [h1]; exact Y2, fun i k hi hk => by rw [h 43 _ (by omega) (by omega) (by omega)]; exact Y3 i k hi hk⟩, fun s hs => ⟨by rw [h 45 s (by omega) (by omega) (by omega)]; exact (Y4 s hs).1, fun e k hk => by rw [h 44 _ (by omega) (by omega) (by omega)]; exact (Y4 s hs).2 e k hk⟩, h2, h3⟩
end
set_option maxRecDepth 16384 in
theorem bud {B l A : Nat} (h : B + 600200 * l ≤ A) : B + 600200 * (l + 1) ≤ A + 1300000 := by
  have q : 600200 * (l + 1) = 600200 * l + 600200 := Nat.mul_succ 600200 l
  exact Nat.le_trans (Nat.le_of_eq (show B + 600200 * (l + 1) = (B + 600200 * l) + 600200 by rw [q, Nat.add_assoc])) (Nat.add_le_add h (Nat.le_of_ble_eq_true rfl))
set_option maxRecDepth 16384 in
theorem s_14 {A : Nat} {σ : x_S} (Y : Sy A σ) (hA : A + 1300000 ≤ 700000000) (a a2 : Int32) : Ok (gL_14 σ a a2) (Sy (A + 1300000)) := by
  obtain ⟨w, n, S, t, K, l, x, Y, M, N⟩ := Y
  obtain ⟨B, F, ⟨hn, hS⟩, hK, hx, b1, b2, b3⟩ := id N
  have hm := F.1.2.2.1.2
  have NA := Yn_up N (show A ≤ A + 1300000 by omega) hA
  have NS := Yn_save N
  show Ok (gI (fL_append σ a) (fun m => fX7_append m a)) _
  unfold fL_append
  have q1 : (nn 33).toInt64 = (33 : Int64) := by decide
  have q2 : (nn 126).toInt64 = (126 : Int64) := by decide
  rcases a_range (p := 33) (m := 126) (by omega) (by omega) a with ⟨h1, h2⟩ | ⟨g, g1, g2, rfl, h1, h2, h3⟩
  · have h1 : eX6_requireRange a (33 : Int32) (126 : Int32) = some 1 := h1
    rw [q1, q2] at h2
    refine gI_exc (1, σ) 1 ?_ rfl (by omega) (by omega) Y NA ?_
    · rw [eX6_append, h1]; rfl
    · show Ok (fX7_append (σ 11) a) _
      rw [fX7_append, h2, xb_some, if_pos rfl, fX7_append_j33, rf1, xb_some, if_neg nn_one]
      exact Ok_some ⟨rfz (σ 11) (1 : Int32), Ym_rf M _⟩
  · have h1 : eX6_requireRange (nn g) (33 : Int32) (126 : Int32) = none := h1
    have h2 : fX6_requireRange (nn g) (33 : Int32) (126 : Int32) = some () := h2
    rw [q1, q2] at h3
    have hl : l ≤ 60 := hx.1
    have e37 : σ 10 37 0 = nn l := Y.2.2.2.1
    have e40 : σ 11 40 2 = nn l := M.2.2.2.1
    by_cases c : l = 60
    · refine gI_exc (2, σ) 2 ?_ rfl (by omega) (by omega) Y NA ?_
      · rw [eX6_append, h1, xo_none, h2, xb_some, e37, if_pos (show (60 : Int32) ≤ nn l from (nn_le (a := 60) (by omega) (by omega)).mpr (by omega)), er0, xo_some]
      · show Ok (fX7_append (σ 11) (nn g)) _
        rw [fX7_append, h3, xb_some, if_neg nn_one, e40, if_pos (show nn l = (60 : Int32) by rw [c]; rfl), fX7_append_j33, rf2, xb_some, if_neg nn_one]
        exact Ok_some ⟨rfz (σ 11) (2 : Int32), Ym_rf M _⟩
    · have c2 : ¬ (60 : Int32) ≤ nn l := fun h => by have := (nn_le (a := 60) (by omega) (by omega)).mp h; omega
      have hN : Yn (A + 1300000) w n S t K (l + 1) (nu x l g) := by
        have e1 := bud b2
        refine ⟨B, F, ⟨hn, hS⟩, hK, ⟨by omega, fun i hi => ?_⟩, b1, e1, hA⟩
        by_cases c3 : i = l
        · rw [nu_eq1 c3]; omega
        · rw [nu_ne1 c3]; exact hx.2 i (by omega)
      refine gI_val (σ := σ) (l := l + 1) (x := nu x l g) (nn (l + 1)) ?_ ?_ hN ?_
      · rw [eX6_append, h1, xo_none, h2, xb_some, e37, if_neg c2, er1, xo_none, fr1, xb_some]
      · rw [fX6_append, h2, xb_some, e37, if_neg c2, fr1, xb_some, ch_get g (by omega), fX0_add, e37, if_neg (fun h => (nn_neg (by omega)).mp h), if_neg c2, if_pos (nn_in (by omega) (by omega)), nn_clamp (by omega), ch_nar g (by omega)]
        refine Ok_bind (T := fun u => (∀ k i, k ≠ 37 → k ≠ 38 → u k i = σ 10 k i) ∧ u 37 0 = nn (l + 1) ∧ ∀ i, i < l + 1 → u 38 i = nn (nu x l g i)) (Ok_let (fun u3 e3 => Ok_let (fun u6 e6 => Ok_some ⟨fun k i k1 k2 => ?_, ?_, fun i hi => ?_⟩))) (fun u hu => Ok_let (fun τ2 e2 => Ok_some ⟨?_, ?_, ?_⟩))
        · rw [e6, x_hu_ne k1, e3, x_hu_ne k2]
        · rw [e6, x_hu_eq rfl rfl, e3, x_hu_ne (by omega), e37]; exact nn_add l 1
        · rw [e6, x_hu_ne (by omega), e3]
          by_cases c3 : i = l
          · rw [x_hu_eq rfl c3, nu_eq1 c3]
          · rw [x_hu_ni c3, nu_ne1 c3]; exact Y.2.2.2.2 i (by omega)
        · show τ2 10 37 0 = _
          rw [e2, x_sh_eq]; exact hu.2.1
        · show Yc τ2 _ _ _ _ _ _ _
          rw [e2]; exact Yc_x Y hn hu.1 hu.2.1 hu.2.2
        · show τ2 11 = _
          rw [e2, x_sh_ne _ _ (by omega)]
      · show Ok (fX7_append (σ 11) (nn g)) _
        have J : ∀ m0 : x_H, m0 40 2 = nn l → m0 40 0 = nn 0 → Ym m0 w n S t K l x → Ok (if x_in (m0 40 2) 60 then x_let (x_hu m0 46 (Int32.toNatClampNeg (m0 40 2)) (nn g)) fun u8 => x_let (x_hu u8 40 2 ((u8 40 2) + (1 : Int32))) fun u11 => some ((u11 40 2), u11) else none) (fun r => r.1 = nn (l + 1) ∧ r.2 40 0 = nn 0 ∧ Ym r.2 w n S t K (l + 1) (nu x l g)) := by
          intro m0 e41 r0 M0
          rw [e41, if_pos (nn_in (by omega) (by omega)), nn_clamp (by omega)]
          refine Ok_let (fun u8 e8 => ?_)
          have e9 : u8 40 2 + (1 : Int32) = nn (l + 1) := by rw [e8, x_hu_ne (by omega), e41]; exact nn_add l 1
          rw [e9]
          refine Ok_let (fun u1 e1 => Ok_some ⟨?_, ?_, ?_⟩)
          · show u1 40 2 = _
            rw [e1, x_hu_eq rfl rfl]
          · show u1 40 0 = _
            rw [e1, x_hu_ni (by omega), e8, x_hu_ne (by omega), r0]
          · show Ym u1 _ _ _ _ _ _ _
            refine Ym_x M0 (fun k i k1 k2 k3 => ?_) ?_ ?_ (fun i hi => ?_)
            · rw [e1, x_hu_ne (by omega), e8, x_hu_ne (by omega)]
            · rw [e1, x_hu_ni (by omega), e8, x_hu_ne (by omega)]
            · rw [e1, x_hu_eq rfl rfl]
            · rw [e1, x_hu_ne (by omega), e8]
              by_cases c3 : i = l
              · rw [x_hu_eq rfl c3, nu_eq1 c3]
              · rw [x_hu_ni c3, nu_ne1 c3]; exact M0.2.2.2.2 i (by omega)
        rw [fX7_append, h3, xb_some, if_neg nn_one, e40, if_neg (show ¬ nn l = (60 : Int32) from fun h => c ((nn_inj (b := 60) (by omega) (by omega)).mp h)), fX7_append_j33, rf0, xb_some, if_pos rfl]
        exact J (x_hu (σ 11) 40 0 (0 : Int32)) ((x_hu_ni (by omega)).trans e40) (rfz (σ 11) (0 : Int32)) (Ym_rf M (0 : Int32))
set_option maxRecDepth 16384 in
theorem s_15 {A : Nat} {σ : x_S} (Y : Sy A σ) (hA : A + 1300000 ≤ 700000000) (a a2 : Int32) : Ok (gL_15 σ a a2) (Sy (A + 1300000)) := by
  obtain ⟨w, n, S, t, K, l, x, Y, M, N⟩ := Y
  obtain ⟨B, F, ⟨hn, hS⟩, hK, hx, b1, b2, b3⟩ := id N
  have hm := F.1.2.2.1.2
  have NA := Yn_up N (show A ≤ A + 1300000 by omega) hA
  have NS := Yn_save N
  show Ok (gC (fX6_clearBuffer σ) (fun m => fX7_clearBuffer m)) _
  have e37 : σ 10 37 0 = nn l := Y.2.2.2.1
  have e40 : σ 11 40 2 = nn l := M.2.2.2.1
  have hN : Yn (A + 1300000) w n S t K 0 x := ⟨B, F, ⟨hn, hS⟩, hK, ⟨by omega, fun i hi => absurd hi (by omega)⟩, b1, by omega, hA⟩
  refine gC_val (σ := σ) (l := 0) (x := x) (nn l) ?_ hN ?_
  · rw [fX6_clearBuffer]
    refine Ok_let (fun x1 e1 => Ok_let (fun τ2 e2 => Ok_some ⟨?_, ?_, ?_⟩))
    · show x1 = _
      rw [e1, e37]
    · show Yc τ2 _ _ _ _ _ _ _
      rw [e2]
      exact Yc_x Y hn (fun k i k1 k2 => x_hu_ne k1) (x_hu_eq rfl rfl) (fun i hi => absurd hi (by omega))
    · show τ2 11 = _
      rw [e2, x_sh_ne _ _ (by omega)]
  · show Ok (fX7_clearBuffer (σ 11)) _
    rw [fX7_clearBuffer]
    refine Ok_let (fun u0 e0 => Ok_let (fun x3 e3 => Ok_let (fun u1 e1 => Ok_some ⟨?_, ?_⟩)))
    · show x3 = _
      rw [e3, e0, x_hu_ni (by omega), e40]
    · show Ym u1 _ _ _ _ _ _ _
      refine Ym_x M (fun k i k1 k2 k3 => ?_) ?_ ?_ (fun i hi => absurd hi (by omega))
      · rw [e1, x_hu_ne (by omega), e0, x_hu_ne (by omega)]
      · rw [e1, x_hu_ni (by omega), e0, x_hu_ni (by omega)]
      · rw [e1, x_hu_eq rfl rfl]; rfl
