/-! ===== follows(): what would be is so when it is done, and what is undone is as it was ===== -/
def Fs (w : Nat → Nat) (t : Nat → Nat) (K : Nat → Nat → Nat) (l : Nat) (x : Nat → Nat) (σ : x_S) : Prop := ∃ n S, Yc σ w n S t K l x ∧ n ≤ 6
abbrev FP (w : Nat → Nat) (t : Nat → Nat) (K : Nat → Nat → Nat) (l : Nat) (x : Nat → Nat) : Int32 × x_S → Prop := fun r => r.1 = (1 : Int32) ∧ Fs w t K l x r.2
set_option maxRecDepth 16384 in
theorem rg {p m g : Nat} (h1 : p ≤ g) (h2 : g ≤ m) (hm : m < 1000) : eX6_requireRange (nn g) (nn p) (nn m) = none ∧ fX6_requireRange (nn g) (nn p) (nn m) = some () := by
  refine ⟨?_, ?_⟩
  · rw [eX6_requireRange, if_neg (fun h => by have := (nn_lt (a := g) (b := p) (by omega) (by omega)).mp h; omega), if_pos ((nn_le (a := g) (b := m) (by omega) (by omega)).mpr h2)]
  · rw [fX6_requireRange, if_neg (fun h => by have := (nn_lt (a := g) (b := p) (by omega) (by omega)).mp h; omega), if_pos ((nn_le (a := g) (b := m) (by omega) (by omega)).mpr h2)]
set_option maxRecDepth 16384 in
theorem nmod {a b : Nat} (ha : a < 2147483648) (hb : b < 2147483648) (h0 : 0 < b) : nn a - nn a / nn b * nn b = nn (a % b) := by
  rw [nn_div ha hb h0, nn_mul, nn_sub (Nat.div_mul_le_self a b), Nat.mod_def, Nat.mul_comm]
section ST
variable {w : Nat → Nat} {n : Nat} {S : Nat → Nat → Nat}
set_option maxRecDepth 16384 in
theorem n_sn_0 : n_sn n ≠ 0 := by unfold n_sn; split <;> omega
set_option maxRecDepth 16384 in
theorem n_sn_1 : 1 ≤ n_sn n := by unfold n_sn; split <;> omega
set_option maxRecDepth 16384 in
theorem n_sn_2 (h : 1 ≤ n) : 2 ≤ n_sn n := by unfold n_sn; split <;> omega
set_option maxRecDepth 16384 in
theorem n_sS_top : n_sS w n S (n_sn n - 1) = w := by
  unfold n_sS n_sn
  by_cases c : n = 6
  · rw [if_pos c, if_pos c, if_neg (by omega)]
  · rw [if_neg c, if_neg c, if_pos (by omega)]
set_option maxRecDepth 16384 in
theorem n_sS_2 (h : 1 ≤ n) : n_sS w n S (n_sn n - 1 - 1) = S (n - 1) := by
  unfold n_sS n_sn
  by_cases c : n = 6
  · rw [if_pos c, if_pos c, if_pos (by omega)]
    congr 1
    omega
  · rw [if_neg c, if_neg c, if_neg (by omega)]
    congr 1
set_option maxRecDepth 16384 in
theorem n_sS_3 (h : 2 ≤ n) : n_sS w n S (n_sn n - 1 - 1 - 1) = S (n - 1 - 1) := by
  unfold n_sS n_sn
  by_cases c : n = 6
  · rw [if_pos c, if_pos c, if_pos (by omega)]
    congr 1
    omega
  · rw [if_neg c, if_neg c, if_neg (by omega)]
    congr 1
end ST
section FO
variable {B g r a n l : Nat} {σ : x_S} {w w1 : Nat → Nat} {S K : Nat → Nat → Nat} {t x : Nat → Nat} {y1 : Int32}
set_option maxRecDepth 16384 in
theorem un1 (Y : Yc σ w1 (n_sn n) (n_sS w n S) t K l x) (hn : n ≤ 6) : Ok (fL_undo σ) (fun r => r.1 = (0 : Int64) ∧ Fs w t K l x r.2) := by
  refine Ok_mono (c_undo Y (n_sn_le hn) n_sn_0) (fun r hr => ⟨hr.1, ?_⟩)
  have q := hr.2
  rw [n_sS_top] at q
  have := n_sn_le hn
  exact ⟨_, _, q, by omega⟩
set_option maxRecDepth 16384 in
theorem fo_j872 (F : Wf B w) (ht : t 1 = 1) (hK : K 1 = w) (h : Fs w t K l x σ) : Ok (fL_follows_j872 σ (nn (w 554)) (nn (w 552)) (nn (n_hs 12 w)) (1 : Int32)) (FP w t K l x) := by
  obtain ⟨n, S, Y, hn⟩ := h
  unfold fL_follows_j872
  refine o_f (nn_one) ?_
  refine o_q (q_time Y.1) ?_
  refine o_t (rfl) ?_
  refine o_q (q_housed Y.1 F) ?_
  refine o_t (rfl) ?_
  refine Ok_bind (c_goBack (s := 1) Y hn (by omega) ht (rg (p := 0) (m := 1) (by omega) (by omega) (by omega)).1 (rg (p := 0) (m := 1) (by omega) (by omega) (by omega)).2) (fun r hr => ?_)
  obtain ⟨v, Y1⟩ := hr
  rw [hK] at Y1
  refine o_t (by rw [v]; exact lgc _) ?_
  refine o_q (q_time Y1.1) ?_
  refine o_t (rfl) ?_
  refine o_q (q_messages Y1.1) ?_
  refine o_t (rfl) ?_
  refine Ok_bind (un1 Y1 hn) (fun r2 hr2 => ?_)
  refine o_t (by rw [hr2.1]; exact lgc _) ?_
  exact Ok_some ⟨rfl, hr2.2⟩
set_option maxRecDepth 16384 in
theorem n_lose_552 (hm : w 552 ≤ 60) {p : Nat} : n_lose w p 552 = w 552 - 1 := by unfold n_lose; rw [nu_ne1 (by omega), n_take_at w p _ hm, if_pos rfl]
set_option maxRecDepth 16384 in
theorem n_lose_558 {p : Nat} : n_lose w p 558 = w 558 + 1 := by unfold n_lose; rw [nu_eq1 rfl]
set_option maxRecDepth 16384 in
theorem fo_j778 (F : Wf B w) (h9 : B + 2000000 ≤ 1000000000) (ht : t 1 = 1) (hK : K 1 = w) (ha : a < 2147483648) (h : Fs w t K l x σ) : Ok (fL_follows_j778 σ (nn a) (nn (w 554)) (nn (w 552)) (nn (n_hs 12 w)) (1 : Int32)) (FP w t K l x) := by
  have hm := F.1.2.2.1.2
  have b8 := F.2.2.2 558
  unfold fL_follows_j778
  refine o_f (nn_one) ?_
  by_cases c : w 552 = 0
  · refine o_t ((nn_le (b := 0) (by omega) (by omega)).mpr (by omega)) ?_
    exact fo_j872 F ht hK h
  · refine o_f (fun q => by have := (nn_le (b := 0) (by omega) (by omega)).mp q; omega) ?_
    refine o_t (fun q => c ((nn_inj (b := 0) (by omega) (by omega)).mp q)) ?_
    refine o_n (nmod ha (by omega) (by omega)) ?_
    have hp : a % w 552 < w 552 := Nat.mod_lt _ (by omega)
    obtain ⟨n, S, Y, hn⟩ := id h
    have z := F.1.2.2.1.1 _ hp
    refine o_q (q_lost Y.1) ?_
    refine o_q (q_kindAt Y.1 hm hp) ?_
    refine Ok_bind (c_lose Y F hn hp) (fun r hr => ?_)
    obtain ⟨v, Y1⟩ := hr
    refine o_t (by rw [v]; exact lgc _) ?_
    refine o_q (q_messages Y1.1) ?_
    refine o_t (by rw [n_lose_552 hm]; exact (nn_sub (b := 1) (by omega)).symm) ?_
    refine o_q (q_lost Y1.1) ?_
    refine o_t (by rw [n_lose_558]; exact (n1 _).symm) ?_
    refine Ok_bind (un1 Y1 hn) (fun r2 hr2 => ?_)
    refine o_t (by rw [hr2.1]; exact lgc _) ?_
    obtain ⟨n2, S2, Y2, hn2⟩ := id hr2.2
    refine o_q (q_kindAt Y2.1 hm hp) ?_
    refine o_t (lgc _) ?_
    unfold fL_follows_j870
    exact fo_j872 F ht hK hr2.2
set_option maxRecDepth 16384 in
theorem fo_j719 (F : Wf B w) (h9 : B + 2000000 ≤ 1000000000) (ht : t 1 = 1) (hK : K 1 = w) (ha : a < 2147483648) (h : Fs w t K l x σ) : Ok (fL_follows_j719 σ (nn a) (nn (w 554)) (nn (w 552)) (nn (n_hs 12 w)) (1 : Int32)) (FP w t K l x) := by
  have hp : a % 16 < 16 := Nat.mod_lt _ (by omega)
  obtain ⟨n, S, Y, hn⟩ := id h
  have z := F.1.2.1.1 _ hp
  unfold fL_follows_j719
  refine o_n (nmod (b := 16) ha (by omega) (by omega)) ?_
  refine o_q (q_hasGhost Y.1 hp) ?_
  refine o_f (nn_one) ?_
  refine Ok_bind (c_turnGhost Y F hn hp) (fun r hr => ?_)
  obtain ⟨v, Y1⟩ := hr
  have e : (if n_tog w (a % 16) (96 + 6 * (a % 16) + 5) = 1 then 1 else 0) = 1 - (if w (96 + 6 * (a % 16) + 5) = 1 then 1 else 0) := by
    unfold n_tog
    rw [nu_eq1 rfl]
    by_cases c : w (96 + 6 * (a % 16) + 5) = 1
    · rw [c]; rfl
    · rw [show w (96 + 6 * (a % 16) + 5) = 0 by omega]; rfl
  have e2 : (if w (96 + 6 * (a % 16) + 5) = 1 then 1 else 0) ≤ 1 := by split <;> omega
  refine o_t (by rw [v, ← mz1, ll_sub e2 (by omega), e]; exact lgc _) ?_
  refine Ok_bind (un1 Y1 hn) (fun r2 hr2 => ?_)
  refine o_t (by rw [hr2.1]; exact lgc _) ?_
  obtain ⟨n2, S2, Y2, hn2⟩ := id hr2.2
  refine o_q (q_hasGhost Y2.1 hp) ?_
  refine o_t (lgc _) ?_
  exact fo_j778 F h9 ht hK ha hr2.2
section FK
variable {k : x_S → Int32 → Int32 → Int32 → Int32 → Int32 → Int32 → Option (Int32 × x_S)} {P : Int32 × x_S → Prop} {y6 y9 : Int32}
set_option maxRecDepth 16384 in
theorem fo_j680 (F : Wf B w) (hg : g < 12) (hk : ∀ σ, Fs w t K l x σ → Ok (k σ y1 y6 (nn (w 552)) y9 (1 : Int32) (nn (g + 1))) P) (h : Fs w t K l x σ) : Ok (fL_follows_j680 k σ y1 y6 (nn (w 552)) y9 (1 : Int32) (nn g) (nn (w (8 * g))).toInt64) P := by
  obtain ⟨n, S, Y, hn⟩ := id h
  unfold fL_follows_j680
  refine o_f (nn_one) ?_
  refine o_q (q_doingOf Y.1 hg) ?_
  refine o_t (lgc _) ?_
  refine o_q (q_messages Y.1) ?_
  refine o_t (rfl) ?_
  refine o_n (n1 g) ?_
  exact hk σ h
set_option maxRecDepth 16384 in
theorem fo_j604 {y22 : Int64} (F : Wf B w) (h9 : B + 2000000 ≤ 1000000000) (hg : g < 12) (c3 : w (8 * g) = 3) (hy : (n_ask w g = 0 ∧ y22 = XS) ∨ (n_ask w g ≠ 0 ∧ y22 = (nn (n_ask w g)).toInt64)) (hk : ∀ σ, Fs w t K l x σ → Ok (k σ y1 y6 (nn (w 552)) y9 (1 : Int32) (nn (g + 1))) P) (h : Fs w t K l x σ) : Ok (fL_follows_j604 k σ y1 y6 (nn (w 552)) y9 (1 : Int32) (nn g) (nn (w (8 * g))).toInt64 y22) P := by
  have hm := F.1.2.2.1.2
  have z := F.1.1 g hg
  have X := F.2.1.1 g hg c3
  have hq : n_ask w g ≤ 1000 := by unfold n_ask; split <;> omega
  obtain ⟨n, S, Y, hn⟩ := id h
  unfold fL_follows_j604
  refine o_f (nn_one) ?_
  rcases hy with ⟨c0, e⟩ | ⟨c0, e⟩
  · refine o_t (by rw [e]; exact lgc _) ?_
    exact fo_j680 F hg hk h
  · rw [e]
    refine o_f (lc_neg xs_neg (by omega)) ?_
    by_cases c1 : 100 < n_ask w g
    · refine o_t ((lc_gt rfl (by omega)).mpr c1) ?_
      exact fo_j680 F hg hk h
    · refine o_f (fun q => c1 ((lc_gt (k := 100) rfl (by omega)).mp q)) ?_
      by_cases c2 : 20 ≤ w 552
      · refine o_t (nle (a := 20) (by omega) (by omega) c2) ?_
        exact fo_j680 F hg hk h
      · refine o_f (nge (a := 20) (by omega) (by omega) (by omega)) ?_
        have R1 := rg (p := 1) (m := 100) (g := n_ask w g) (by omega) (by omega) (by omega)
        have G := n_go_o (n_ask w g) B w F (by omega)
        have F2 := Wf_go F (t := n_ask w g) (by omega) (by omega)
        have b5 := F2.1.2.2.2 565
        have hs : w 565 < (n_go (n_ask w g) w).2 565 := G.2.2.2.2 g hg c3 (by omega) (by unfold n_ask at c0 ⊢; split <;> omega) (by
          unfold n_ask at c0 ⊢
          by_cases c4 : w 554 - w (8 * g + 2) < w (8 * g + 3) / 2
          · rw [if_pos c4]; left; omega
          · rw [if_neg c4] at c0 ⊢; right; omega)
        refine o_q (q_sent (g := 2) Y.1 (by omega)) ?_
        rw [ll_32]
        refine Ok_bind (c_tick Y F hn (by omega) (by omega) R1.1 R1.2) (fun r hr => ?_)
        obtain ⟨v, Y1⟩ := hr
        refine o_f (by rw [v]; exact fun q => by have := (lc_lt (k := 0) rfl (by have := F2.2; omega)).mp q; omega) ?_
        refine o_q (q_sent (g := 2) Y1.1 (by omega)) ?_
        refine o_f (fun q => by have := (lc_le (nn_to64 (n := w (563 + 2)) (by show w 565 < 2147483648; omega)) (by show (n_go (n_ask w g) w).2 565 < 2147483648; omega)).mp q; have h2 : (n_go (n_ask w g) w).2 565 ≤ w 565 := this; omega) ?_
        refine Ok_bind (un1 Y1 hn) (fun r2 hr2 => ?_)
        refine o_t (by rw [hr2.1]; exact lgc _) ?_
        unfold fL_follows_j678
        exact fo_j680 F hg hk hr2.2
set_option maxRecDepth 16384 in
theorem fo_j537 {y22 : Int64} (F : Wf B w) (h9 : B + 2000000 ≤ 1000000000) (hg : g < 12) (c3 : w (8 * g) = 3) (hy : (n_ask w g = 0 ∧ y22 = XS) ∨ (n_ask w g ≠ 0 ∧ y22 = (nn (n_ask w g)).toInt64)) (hk : ∀ σ, Fs w t K l x σ → Ok (k σ y1 y6 (nn (w 552)) y9 (1 : Int32) (nn (g + 1))) P) (h : Fs w t K l x σ) : Ok (fL_follows_j537 k σ y1 y6 (nn (w 552)) y9 (nn g) (nn (w (8 * g))).toInt64 (nn (w (8 * g + 2) + w (8 * g + 3) - w 554)).toInt64 y22 (1 : Int32)) P := by
  have z := F.1.1 g hg
  have X := F.2.1.1 g hg c3
  obtain ⟨n, S, Y, hn⟩ := id h
  unfold fL_follows_j537
  refine o_f (nn_one) ?_
  obtain ⟨b, hb⟩ : ∃ b, b = w (8 * g + 2) + w (8 * g + 3) - w 554 := ⟨_, rfl⟩
  have eb := hb
  rw [← hb]
  by_cases c1 : 100 < b
  · refine o_t ((lc_gt rfl (by omega)).mpr c1) ?_
    exact fo_j604 F h9 hg c3 hy hk h
  · refine o_f (fun q => c1 ((lc_gt (k := 100) rfl (by omega)).mp q)) ?_
    have R1 := rg (p := 1) (m := 100) (g := b) (by omega) (by omega) (by omega)
    have G := n_go_o b B w F (by omega)
    have F2 := Wf_go F (t := b) (by omega) (by omega)
    obtain ⟨g0, g1⟩ := G.2.2.2.1 g hg c3 (by omega)
    rw [ll_32]
    refine Ok_bind (c_tick Y F hn (by omega) (by omega) R1.1 R1.2) (fun r hr => ?_)
    obtain ⟨v, Y1⟩ := hr
    refine o_f (by rw [v]; exact fun q => by have := (lc_le (k := 0) rfl (by have := F2.2; omega)).mp q; omega) ?_
    refine o_q (q_doingOf Y1.1 hg) ?_
    refine o_t (by rw [g0]; exact (lc_lit (k := 0) rfl (by omega)).mpr rfl) ?_
    refine Ok_bind (un1 Y1 hn) (fun r2 hr2 => ?_)
    refine o_t (by rw [hr2.1]; exact lgc _) ?_
    obtain ⟨n2, S2, Y2, hn2⟩ := id hr2.2
    refine o_q (q_ticksLeft Y2.1 F hg c3) ?_
    refine o_t (by rw [← eb]; exact lgc _) ?_
    unfold fL_follows_j602
    exact fo_j604 F h9 hg c3 hy hk hr2.2
set_option maxRecDepth 16384 in
theorem n_leave_0 (hm : w 552 ≤ 60) (hg : g < 12) : n_leave w g (8 * g) = 0 := by unfold n_leave; rw [nu_eq1 rfl]
set_option maxRecDepth 16384 in
theorem fo_j454 (F : Wf B w) (h9 : B + 2000000 ≤ 1000000000) (hg : g < 12) (hk : ∀ σ, Fs w t K l x σ → Ok (k σ y1 y6 (nn (w 552)) y9 (1 : Int32) (nn (g + 1))) P) (h : Fs w t K l x σ) : Ok (fL_follows_j454 k σ y1 y6 (nn (w 552)) y9 (1 : Int32) (nn g) (nn (w (8 * g))).toInt64) P := by
  have hm := F.1.2.2.1.2
  have z := F.1.1 g hg
  obtain ⟨n, S, Y, hn⟩ := id h
  unfold fL_follows_j454
  by_cases c3 : w (8 * g) = 3
  · refine o_t ((lc_lit rfl (by omega)).mpr c3) ?_
    refine o_q (q_ticksLeft Y.1 F hg c3) ?_
    refine o_q (q_roomOf Y.1 F hg (by omega)) ?_
    have A : ∃ v : Int64, fL_toRenewal σ (nn g) = some (v, σ) ∧ ((n_ask w g = 0 ∧ v = XS) ∨ (n_ask w g ≠ 0 ∧ v = (nn (n_ask w g)).toInt64)) := by
      by_cases c : n_ask w g = 0
      · exact ⟨_, s_toRenewal Y.1 F hg (fun q => q.2 c), Or.inl ⟨c, rfl⟩⟩
      · exact ⟨_, q_toRenewal Y.1 F hg ⟨c3, c⟩, Or.inr ⟨c, rfl⟩⟩
    obtain ⟨v, A1, A2⟩ := A
    refine o_q (A1) ?_
    refine Ok_bind (c_leave Y F hn hg c3) (fun r hr => ?_)
    obtain ⟨v1, Y1⟩ := hr
    refine o_t (by rw [v1]; exact lgc _) ?_
    refine o_q (q_doingOf Y1.1 hg) ?_
    refine o_t (by rw [n_leave_0 hm hg]; exact (lc_lit (k := 0) rfl (by omega)).mpr rfl) ?_
    refine Ok_bind (un1 Y1 hn) (fun r2 hr2 => ?_)
    refine o_t (by rw [hr2.1]; exact lgc _) ?_
    obtain ⟨n2, S2, Y2, hn2⟩ := id hr2.2
    refine o_q (q_doingOf Y2.1 hg) ?_
    refine o_t ((lc_lit rfl (by omega)).mpr c3) ?_
    exact fo_j537 F h9 hg c3 A2 hk hr2.2
  · refine o_f (fun q => c3 ((lc_lit (k := 3) rfl (by omega)).mp q)) ?_
    exact fo_j680 F hg hk h
/- three calls are undone -/
set_option maxRecDepth 16384 in
theorem fo_j406 {v : Nat → Nat} {B2 : Nat} (F : Wf B w) (F2 : Wf B2 v) (h2 : 2 ≤ n) (hn : n ≤ 6) (hg : g < 12) (hv : v (8 * g) = 1) (hS1 : S (n - 1) = w1) (hS2 : S (n - 1 - 1) = w) (Y : Yc σ v n S t K l x) (hk : ∀ σ, Fs w t K l x σ → Ok (k σ y1 y6 (nn (w 552)) y9 (1 : Int32) (nn (g + 1))) P) : Ok (fL_follows_j406 k σ y1 y6 (nn (w 552)) y9 (nn g) (nn (w (8 * g))).toInt64) P := by
  have h6 := n_sn_le hn
  have h3 := n_sn_2 (n := n) (by omega)
  unfold fL_follows_j406
  refine Ok_bind (c_giveUp Y F2 hn hg (by omega)) (fun r hr => ?_)
  obtain ⟨v1, Y1⟩ := hr
  refine o_t (by rw [v1, hv]; exact (lc_lit (k := 1) rfl (by omega)).mpr rfl) ?_
  refine Ok_bind (c_undo Y1 h6 n_sn_0) (fun r2 hr2 => ?_)
  obtain ⟨v2, Y2⟩ := hr2
  refine o_t (by rw [v2]; exact lgc _) ?_
  refine Ok_bind (c_undo Y2 (by omega) (by omega)) (fun r3 hr3 => ?_)
  obtain ⟨v3, Y3⟩ := hr3
  refine o_t (by rw [v3]; exact lgc _) ?_
  have h4 : n_sn n - 1 - 1 ≠ 0 := by unfold n_sn; split <;> omega
  refine Ok_bind (c_undo Y3 (by omega) h4) (fun r4 hr4 => ?_)
  obtain ⟨v4, Y4⟩ := hr4
  refine o_t (by rw [v4]; exact lgc _) ?_
  rw [n_sS_3 h2, hS2] at Y4
  unfold fL_follows_j449
  exact fo_j680 F hg hk ⟨_, _, Y4, by omega⟩
end FK
set_option maxRecDepth 16384 in
theorem fo_b252 (F : Wf B w) (h9 : B + 2000000 ≤ 1000000000) (ht : t 1 = 1) (hK : K 1 = w) (ha : a < 2147483648) : ∀ (d n : Nat) (σ : x_S), d ≤ 12 → d < n → Fs w t K l x σ → Ok (fL_follows_b252 n σ (nn a) (nn (w 554)) (nn (w 552)) (nn (n_hs 12 w)) (1 : Int32) (nn (12 - d))) (FP w t K l x) := by
  intro d
  induction d with
  | zero =>
    intro n σ hd hn h
    obtain ⟨n, rfl⟩ : ∃ m, n = m + 1 := ⟨n - 1, by omega⟩
    rw [fL_follows_b252]
    refine o_t (show (12 : Int32) ≤ nn 12 by decide) ?_
    exact fo_j719 F h9 ht hK ha h
  | succ d ih =>
    intro n σ hd hn h
    obtain ⟨n, rfl⟩ : ∃ m, n = m + 1 := ⟨n - 1, by omega⟩
    have I := fun σ' => ih n σ' (by omega) (by omega)
    rw [show 12 - (d + 1) = 11 - d by omega]
    obtain ⟨g, hgd⟩ : ∃ g, g = 11 - d := ⟨_, rfl⟩
    rw [show 12 - d = g + 1 by omega] at I
    rw [← hgd]
    have hg : g < 12 := by omega
    have z := F.1.1 g hg
    have hm := F.1.2.2.1.2
    have hle := n_choice_le F.1 hg
    obtain ⟨n0, S0, Y, hn0⟩ := id h
    have b6 := F.1.2.2.2
    unfold WzN at b6
    rw [fL_follows_b252]
    refine o_f (nge (a := 12) (by omega) (by omega) (by omega)) ?_
    refine o_f (nn_one) ?_
    refine o_q (q_doingOf Y.1 hg) ?_
    have A : ∃ v : Int64, fL_roomFor σ (nn g) = some (v, σ) ∧ ((n_choice w g = 0 ∧ v = XS) ∨ ∃ d, n_choice w g = d + 1 ∧ v = (nn d).toInt64) := by
      by_cases c : n_choice w g = 0
      · exact ⟨_, s_roomFor Y.1 F hg c, Or.inl ⟨c, rfl⟩⟩
      · obtain ⟨d, hd⟩ : ∃ d, n_choice w g = d + 1 := ⟨n_choice w g - 1, by omega⟩
        exact ⟨_, q_roomFor Y.1 F hg hd, Or.inr ⟨d, hd, rfl⟩⟩
    obtain ⟨v, A1, A2⟩ := A
    refine o_q (A1) ?_
    by_cases c0 : w (8 * g) = 0
    · refine o_t ((lc_lit rfl (by omega)).mpr c0) ?_
      by_cases c1 : w 552 = 0
      · refine o_t (show nn (w 552) = 0 by rw [c1]; rfl) ?_
        obtain ⟨s2, s0, sg, sh, sno, syes⟩ := seek_now F c1 hg c0 (by omega)
        have F1 := Wf_seek F hg (by omega)
        have F2 := Wf_handle F1 (p := 0) (by omega) (by omega)
        refine Ok_bind (c_seek Y F hn0 (by omega) (by have := pos_B F; omega) hg c0) (fun r hr => ?_)
        obtain ⟨v1, Y1⟩ := hr
        refine o_t (by rw [v1, s2]; exact (lc_lit (k := 1) rfl (by omega)).mpr rfl) ?_
        refine o_q (q_doingOf Y1.1 hg) ?_
        refine o_t (by rw [sg]; exact (lc_lit (k := 1) rfl (by omega)).mpr rfl) ?_
        refine Ok_bind (c_deliver (p := 0) Y1 F1 (n_sn_le hn0) (by omega) (by omega)) (fun r2 hr2 => ?_)
        obtain ⟨v2, Y2⟩ := hr2
        refine o_t (by rw [v2, show n_seek w g (192 + 6 * 0) = 0 from s0]; exact (lc_lit (k := 0) rfl (by omega)).mpr rfl) ?_
        have J := fo_j406 (k := fL_follows_b252 n) (P := FP w t K l x) (y1 := nn a) (y6 := nn (w 554)) (y9 := nn (n_hs 12 w)) (σ := r2.2) F F2 (n_sn_2 n_sn_1) (n_sn_le (n_sn_le hn0)) hg sh n_sS_top ((n_sS_2 n_sn_1).trans n_sS_top) Y2 I
        rcases A2 with ⟨a0, a1⟩ | ⟨d', a0, a1⟩
        · refine o_t (by rw [a1]; exact lgc _) ?_
          refine o_q (q_messages Y2.1) ?_
          refine o_t (by rw [sno a0]; rfl) ?_
          exact J
        · obtain ⟨e1, e2, e3, e4, e5, e6, e7⟩ := syes d' a0
          have hd' : d' < 16 := by omega
          have m4 := F2.1.2.2.1.2
          rw [a1]
          refine o_f (lc_neg xs_neg (by omega)) ?_
          refine o_q (q_stateOf32 Y2.1 hd') ?_
          refine o_t (by rw [e1]; exact (lc_lit (k := 1) rfl (by omega)).mpr rfl) ?_
          refine o_q (q_guestOf32 Y2.1 F2 hd' (show n_who _ d' by unfold n_who; omega)) ?_
          refine o_t (by rw [e2]; exact lgc _) ?_
          rw [ll_32]
          refine o_q (q_ticksOf Y2.1 F2 hd' (by omega)) ?_
          refine o_q (q_hold Y2.1) ?_
          refine o_t (by rw [e3, e7]; exact lgc _) ?_
          refine o_q (q_kindAt (p := 0) Y2.1 m4 (by omega)) ?_
          refine o_t (by rw [show n_handle (n_seek w g) 0 (192 + 6 * 0) = 1 from e5]; exact (lc_lit (k := 1) rfl (by omega)).mpr rfl) ?_
          refine o_q (q_roomAt (p := 0) Y2.1 F2.1 (by omega) (by rw [show n_handle (n_seek w g) 0 (192 + 6 * 0) = 1 from e5]; omega)) ?_
          refine o_t (by rw [show n_handle (n_seek w g) 0 (192 + 6 * 0 + 2) = d' from e6]; exact lgc _) ?_
          exact J
      · refine o_f (fun q => c1 ((nn_inj (b := 0) (by omega) (by omega)).mp q)) ?_
        exact fo_j454 F h9 hg I h
    · refine o_f (fun q => c0 ((lc_lit (k := 0) rfl (by omega)).mp q)) ?_
      exact fo_j454 F h9 hg I h
set_option maxRecDepth 16384 in
theorem fo_j121 (F : Wf B w) (h9 : B + 2000000 ≤ 1000000000) (ht : t 1 = 1) (hK : K 1 = w) (ha : a < 2147483648) (h : Fs w t K l x σ) : Ok (fL_follows_j121 σ (nn a) (nn (w 554)) (nn (w 552)) (nn (n_hs 12 w)) (1 : Int32)) (FP w t K l x) := by
  have z := n_nx_le F
  have b4 := F.2.2.2 554
  have z1 := n_cn_le w 0 16
  obtain ⟨n, S, Y, hn⟩ := id h
  have T := fun σ' h' => fo_b252 (t := t) (K := K) (l := l) (x := x) F h9 ht hK ha 12 13 σ' (by omega) (by omega) h'
  unfold fL_follows_j121
  by_cases c : n_nx w 16 0 = 0
  · refine o_q (s_nextR Y.1 F c) ?_
    refine o_f (nn_one) ?_
    refine o_t (lgc _) ?_
    exact T σ h
  · refine o_q (q_nextR Y.1 F c) ?_
    refine o_f (nn_one) ?_
    refine o_f (lc_neg xs_neg (by omega)) ?_
    by_cases c1 : 100 < n_nx w 16 0
    · refine o_t ((lc_gt rfl (by omega)).mpr c1) ?_
      exact T σ h
    · refine o_f (fun q => c1 ((lc_gt (k := 100) rfl (by omega)).mp q)) ?_
      have R1 := rg (p := 1) (m := 100) (g := n_nx w 16 0) (by omega) (by omega) (by omega)
      have G := n_go_o (n_nx w 16 0) B w F (by omega)
      have F2 := Wf_go F (t := n_nx w 16 0) (by omega) (by omega)
      have fm := free_more F (by omega) c (by omega)
      have z2 := n_cn_le (n_go (n_nx w 16 0) w).2 0 16
      refine o_q (q_free Y.1 F) ?_
      rw [ll_32]
      refine Ok_bind (c_tick Y F hn (by omega) (by omega) R1.1 R1.2) (fun r hr => ?_)
      obtain ⟨v, Y1⟩ := hr
      refine o_f (by rw [v]; exact fun q => by have := (lc_lt (k := 0) rfl (by have := F2.2; omega)).mp q; omega) ?_
      refine o_q (q_free Y1.1 F2.1) ?_
      refine o_f (fun q => by have := (nn_le (by omega) (by omega)).mp q; omega) ?_
      refine o_q (q_time Y1.1) ?_
      refine o_t (by rw [G.2.1, ll_add (by omega)]; exact lgc _) ?_
      refine Ok_bind (un1 Y1 hn) (fun r2 hr2 => ?_)
      refine o_t (by rw [hr2.1]; exact lgc _) ?_
      by_cases c2 : n_nx w 16 0 = 1
      · refine o_t ((lc_lit rfl (by omega)).mpr c2) ?_
        exact T _ hr2.2
      · refine o_f (fun q => c2 ((lc_lit (k := 1) rfl (by omega)).mp q)) ?_
        obtain ⟨b, hb⟩ : ∃ b, b + 1 = n_nx w 16 0 := ⟨n_nx w 16 0 - 1, by omega⟩
        have eb : nn (n_nx w 16 0) - (1 : Int32) = nn b := by rw [← hb]; exact nn_sub (a := b + 1) (b := 1) (by omega)
        rw [eb]
        have R2 := rg (p := 1) (m := 100) (g := b) (by omega) (by omega) (by omega)
        have F3 := Wf_go F (t := b) (by omega) (by omega)
        have fs := free_same F (by omega) hb (by omega)
        obtain ⟨n2, S2, Y2, hn2⟩ := id hr2.2
        refine Ok_bind (c_tick Y2 F hn2 (by omega) (by omega) R2.1 R2.2) (fun r3 hr3 => ?_)
        obtain ⟨v3, Y3⟩ := hr3
        refine o_f (by rw [v3]; exact fun q => by have := (lc_lt (k := 0) rfl (by have := F3.2; omega)).mp q; omega) ?_
        refine o_q (q_free Y3.1 F3.1) ?_
        refine o_t (by rw [fs]) ?_
        refine Ok_bind (un1 Y3 hn2) (fun r4 hr4 => ?_)
        refine o_t (by rw [hr4.1]; exact lgc _) ?_
        exact T _ hr4.2
set_option maxRecDepth 16384 in
theorem fo_follows (Y : Yc σ w n S t K l x) (hn : n ≤ 6) (F : Wf B w) (h9 : B + 2000000 ≤ 1000000000) (ha : a < 2147483648) : Ok (fL_follows σ (nn a)) (fun r => r.1 = (1 : Int32) ∧ Fs w (nu t 1 1) (fun i => if i = 1 then w else K i) l x r.2) := by
  have hm := F.1.2.2.1.2
  have E := Wf_each F (by omega)
  have z1 := n_hs_12 (w := (n_each w).2) 12
  have b9 := F.2.2.2 559
  have e9 : (n_each w).2 559 = w 559 + (n_each w).1 := n_all_559 300 B w F (by omega)
  unfold fL_follows
  refine Ok_bind (c_wouldDeliver Y hn F (by omega)) (fun r1 h1 => ?_)
  obtain ⟨a1, a2⟩ := h1
  have Y1 := Yc_1 Y hn a2
  rw [a1]
  refine o_l ?_
  refine Ok_bind (c_wouldHouse Y1 hn F (by omega)) (fun r5 h5 => ?_)
  obtain ⟨b1, b2⟩ := h5
  have Y5 := Yc_1 Y1 hn b2
  rw [b1]
  refine o_l ?_
  refine o_q (q_time Y5.1) ?_
  refine o_q (q_messages Y5.1) ?_
  refine o_q (q_delivered Y5.1) ?_
  refine o_q (q_housed Y5.1 F) ?_
  have R1 := rg (p := 0) (m := 1) (g := 1) (by omega) (by omega) (by omega)
  refine Ok_bind (c_keep (s := 1) Y5 hn (by omega) R1.1 R1.2) (fun r17 h17 => ?_)
  obtain ⟨d1, Y17⟩ := h17
  refine o_t (by rw [d1]; exact lgc _) ?_
  refine Ok_bind (c_deliverAll Y17 F hn (by omega)) (fun r20 h20 => ?_)
  obtain ⟨f1, Y20⟩ := h20
  refine o_t (by rw [f1]; exact lgc _) ?_
  refine o_q (q_housed Y20.1 E.1) ?_
  refine o_t (lgc _) ?_
  refine o_q (q_messages Y20.1) ?_
  refine o_t (by rw [E.2.1]; rfl) ?_
  refine o_q (q_delivered Y20.1) ?_
  refine o_t (by rw [e9, ll_add (by omega)]; exact lgc _) ?_
  refine Ok_bind (un1 Y20 hn) (fun r32 h32 => ?_)
  refine o_t (by rw [h32.1]; exact lgc _) ?_
  obtain ⟨n2, S2, Y2, hn2⟩ := id h32.2
  refine o_q (q_messages Y2.1) ?_
  refine o_t (rfl) ?_
  refine o_q (q_housed Y2.1 F) ?_
  refine o_t (rfl) ?_
  exact fo_j121 F h9 (nu_eq1 rfl) (if_pos rfl) ha h32.2
end FO
