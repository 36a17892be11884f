/-! ===== the start ===== -/
def w0 : Nat → Nat := fun i => if i = 155 then 1 else if i = 555 then 60 else if i = 556 then 10 else if i = 557 then 50 else 0
set_option maxRecDepth 16384 in
theorem w0_z {i : Nat} (h : i ≠ 155) (h1 : i < 555 ∨ 557 < i) : w0 i = 0 := by
  unfold w0
  rw [if_neg h, if_neg (by omega), if_neg (by omega), if_neg (by omega)]
set_option maxRecDepth 16384 in
theorem w0_1 {i : Nat} (h1 : i < 555) : w0 i ≤ 1 := by
  unfold w0
  split
  · omega
  · rw [if_neg (by omega), if_neg (by omega), if_neg (by omega)]; omega
set_option maxRecDepth 16384 in
theorem w0_n : w0 555 = 60 ∧ w0 556 = 10 ∧ w0 557 = 50 := ⟨rfl, rfl, rfl⟩
set_option maxRecDepth 16384 in
theorem Wz_0 : Wz w0 := by
  refine ⟨fun g hg => ?_, ⟨fun r hr => ?_, fun r r' hr hr' h => ?_, fun r r' hr hr' h => ?_⟩, ⟨fun p hp => ?_, ?_⟩, ?_⟩
  · rw [w0_z (i := 8 * g) (by omega) (by omega), w0_z (i := 8 * g + 1) (by omega) (by omega), w0_z (i := 8 * g + 2) (by omega) (by omega), w0_z (i := 8 * g + 3) (by omega) (by omega), w0_z (i := 8 * g + 4) (by omega) (by omega), w0_z (i := 8 * g + 5) (by omega) (by omega), w0_z (i := 8 * g + 7) (by omega) (by omega)]
    omega
  · have h5 := w0_1 (i := 96 + 6 * r + 5) (by omega)
    rw [w0_z (i := 96 + 6 * r) (by omega) (by omega), w0_z (i := 96 + 6 * r + 1) (by omega) (by omega), w0_z (i := 96 + 6 * r + 2) (by omega) (by omega), w0_z (i := 96 + 6 * r + 3) (by omega) (by omega), w0_z (i := 96 + 6 * r + 4) (by omega) (by omega)]
    omega
  · exact absurd (w0_z (i := 96 + 6 * r + 4) (by omega) (by omega)) h
  · rw [w0_z (i := 96 + 6 * r) (by omega) (by omega)] at h
    omega
  · rw [w0_z (i := 552) (by omega) (by omega)] at hp
    omega
  · rw [w0_z (i := 552) (by omega) (by omega)]; omega
  · obtain ⟨a, b, c⟩ := w0_n
    unfold WzN
    rw [a, b, c]
    omega
set_option maxRecDepth 16384 in
theorem Wf_0 : Wf 1000 w0 := by
  refine ⟨Wz_0, ⟨fun g hg h => ?_, fun r hr h => ?_⟩, ⟨by omega, fun i => ?_⟩⟩
  · rw [w0_z (i := 8 * g) (by omega) (by omega)] at h
    omega
  · exact absurd (w0_z (i := 96 + 6 * r) (by omega) (by omega)) h
  · unfold w0
    split
    · omega
    · split
      · omega
      · split
        · omega
        · split <;> omega
set_option maxRecDepth 16384 in
theorem n_ls_0 (g : Nat) : ∀ d, d ≤ 16 → n_ls w0 g d = 0 := by
  intro d
  induction d with
  | zero => intro _; rfl
  | succ d ih =>
    intro hd
    rw [n_ls, ih (by omega), w0_z (i := 96 + 6 * d) (by omega) (by omega), if_neg (fun h => absurd h.1 (by decide))]
set_option maxRecDepth 16384 in
theorem fill_at {n i : Nat} (h : i < n) : x_fill n (-1) i = mm 0 := by rw [x_fill_at, if_pos h]; rfl
set_option maxRecDepth 16384 in
theorem Ru_0 : Ru x_h0 w0 := by
  refine ⟨fun g hg => ?_, fun r hr => ?_, fun g hg => ?_, fun r hr => ?_, ⟨?_, fun p hp => ?_⟩, ⟨?_, ?_, fun k hk => ?_⟩⟩
  · rw [w0_z (i := 8 * g) (by omega) (by omega), w0_z (i := 8 * g + 1) (by omega) (by omega), w0_z (i := 8 * g + 2) (by omega) (by omega), w0_z (i := 8 * g + 3) (by omega) (by omega), w0_z (i := 8 * g + 4) (by omega) (by omega), w0_z (i := 8 * g + 5) (by omega) (by omega), w0_z (i := 8 * g + 6) (by omega) (by omega), w0_z (i := 8 * g + 7) (by omega) (by omega), if_neg (by omega)]
    exact ⟨rfl, fill_at hg, fill_at hg, rfl, rfl, rfl, rfl, fill_at hg⟩
  · rw [w0_z (i := 96 + 6 * r) (by omega) (by omega), w0_z (i := 96 + 6 * r + 4) (by omega) (by omega), if_neg (by omega)]
    exact ⟨rfl, fill_at hr, fun h => absurd rfl h, fun h => absurd h (by decide), fill_at hr⟩
  · rw [n_ls_0 g 16 (by omega)]; rfl
  · have h : ∀ r, r < 16 → (x_h0 2 0).toBitVec.getLsbD r = decide (w0 (96 + 6 * r + 5) = 1) := by decide
    exact h r hr
  · rfl
  · rw [w0_z (i := 552) (by omega) (by omega)] at hp
    omega
  · exact ⟨rfl, rfl, rfl, rfl, rfl, rfl, rfl⟩
  · exact ⟨rfl, rfl, rfl⟩
  · rw [w0_z (i := 563 + k) (by omega) (by omega)]; rfl
set_option maxRecDepth 16384 in
theorem Wk_0 : Wk w0 := by
  refine ⟨⟨fun g hg h => ?_, fun p hp h => ?_⟩, ⟨?_, ?_⟩, fun g hg h => ?_⟩
  · rw [w0_z (i := 8 * g) (by omega) (by omega)] at h
    omega
  · rw [w0_z (i := 552) (by omega) (by omega)] at hp
    omega
  · unfold n_sk
    rw [w0_z (i := 563) (by omega) (by omega), w0_z (i := 564) (by omega) (by omega), w0_z (i := 565) (by omega) (by omega), w0_z (i := 566) (by omega) (by omega), w0_z (i := 567) (by omega) (by omega), w0_z (i := 568) (by omega) (by omega), w0_z (i := 569) (by omega) (by omega), w0_z (i := 558) (by omega) (by omega), w0_z (i := 559) (by omega) (by omega), w0_z (i := 552) (by omega) (by omega)]
  · rw [w0_z (i := 560) (by omega) (by omega), w0_z (i := 566) (by omega) (by omega)]
  · rw [w0_z (i := 8 * g) (by omega) (by omega)] at h
    omega
def s0 : Ys := Ym w0 0 (fun _ => w0) (fun _ => 0) (fun _ => w0) 0 (fun _ => 0)
set_option maxRecDepth 16384 in
theorem Yd_0 : Yd x_s0 s0 := by
  refine ⟨Ru_0, ⟨rfl, fun i => i + 2, fun i hi => ⟨rfl, show 2 ≤ i + 2 by omega, show i + 2 < 8 by omega⟩, fun i i' _ _ h => ?_, fun i hi => absurd hi (Nat.not_lt_zero i)⟩, fun s hs => ⟨?_, rfl, fun h => absurd (show (0 : Nat) = 1 from h) (by decide)⟩, ⟨rfl, fun i hi => absurd hi (Nat.not_lt_zero i)⟩⟩
  · have h : i + 2 = i' + 2 := h
    omega
  · show Int32.ofNat (s + 8) = nn (8 + s)
    rw [Nat.add_comm s 8]; rfl
set_option maxRecDepth 16384 in
theorem Yi_0 : Yi 1000 s0 := ⟨⟨Wf_0, Wk_0⟩, ⟨by show (0 : Nat) ≤ 6; omega, fun i hi => absurd hi (Nat.not_lt_zero i)⟩, fun i _ => ⟨by show (0 : Nat) ≤ 1; omega, fun h => absurd (show (0 : Nat) = 1 from h) (by decide)⟩, by show (0 : Nat) ≤ 60; omega, fun i hi => absurd hi (Nat.not_lt_zero i)⟩
/-! ===== what is drawn ===== -/
set_option maxRecDepth 16384 in
theorem dr_pos (v : Int32) : ∃ a, a < 2147483648 ∧ v &&& (2147483647 : Int32) = nn a := by
  rcases nn_cases (v &&& (2147483647 : Int32)) with h | h
  · exfalso
    have h1 : (v &&& (2147483647 : Int32)).toInt < 0 := by
      have := Int32.lt_iff_toInt_lt.mp h
      exact this
    have h2 : (v &&& (2147483647 : Int32)).toBitVec.msb = true := by
      rw [BitVec.msb_eq_toInt]
      exact decide_eq_true h1
    rw [Int32.toBitVec_and, BitVec.msb_and] at h2
    have h3 : (2147483647 : Int32).toBitVec.msb = false := by decide
    rw [h3, Bool.and_false] at h2
    cases h2
  · exact h
set_option maxRecDepth 16384 in
theorem dr_ok {xs : Nat → Int32} {L j : Nat} (hL : L ≤ 260) (hj : j ≤ 80) : Ok (fL_draw xs L (nn j)) (fun r => ∃ a, a < 2147483648 ∧ r = nn a) := by
  unfold fL_draw
  refine Ok_ite (fun _ => Ok_some (dr_pos _)) (fun h => ?_)
  have hlt : j < L := Decidable.byContradiction (fun h2 => h ((nn_le (a := L) (b := j) (by omega) (by omega)).mpr (by omega)))
  rw [if_pos (nn_in (by omega) hlt)]
  exact Ok_some (dr_pos _)
/-! ===== the law's run over the numbers ===== -/
section LW
variable {B : Nat} {σ τ : x_S} {s : Ys}
set_option maxRecDepth 16384 in
theorem Yd_1 (Y : Yd σ s) (hn : s.n ≤ 6) {σ' : x_S} (h : ∀ i, i ≠ 1 → σ' i = σ i) : Yd σ' s := Yc_1 Y hn h
set_option maxRecDepth 16384 in
theorem al_ok (Y : Yd σ s) (Y2 : Yd τ s) (I : Yi B s) (h9 : B ≤ 600000000) : Ok (fL_alike σ τ) (fun r => r.1 = (1 : Int32) ∧ Yd r.2.1 s ∧ Yd r.2.2 s) := by
  have hn := I.2.1.1
  have hl := I.2.2.2.1
  have ht : ∀ i, i < 2 → s.t i ≤ 1 := fun i hi => (I.2.2.1 i hi).1
  unfold fL_alike
  refine Ok_bind (c_digest Y hn I.1.1 (by omega) ht hl) (fun r1 h1 => ?_)
  refine Ok_bind (c_digest Y2 hn I.1.1 (by omega) ht hl) (fun r2 h2 => ?_)
  refine o_t (by rw [h1.1, h2.1]; exact (lg_eq0 _ _).mpr rfl) ?_
  refine Ok_bind (c_firstError (Yd_1 Y hn h1.2) hn I.1.1 I.2.2.2 (by omega)) (fun r3 h3 => ?_)
  refine Ok_bind (c_firstError (Yd_1 Y2 hn h2.2) hn I.1.1 I.2.2.2 (by omega)) (fun r4 h4 => ?_)
  refine o_t (by rw [h3.1, h4.1]) ?_
  exact Ok_some ⟨rfl, h3.2, h4.2⟩
set_option maxRecDepth 16384 in
theorem er_ok2 (Y : Yd σ s) (I : Yi B s) (h9 : B ≤ 600000000) : Ok (fL_errors σ) (fun r => r.1 = (1 : Int32) ∧ Yd r.2 s) := Ok_mono (er_errors Y I.2.1.1 I.1.1 (by omega) (fun i hi => (I.2.2.1 i hi).1) I.2.2.2.1) (fun r h => ⟨h.1, Yd_1 Y I.2.1.1 h.2⟩)
set_option maxRecDepth 16384 in
theorem kp_ok2 (Y : Yd σ s) (I : Yi B s) (h9 : B ≤ 600000000) : Ok (fL_kept σ) (fun r => r.1 = (1 : Int32) ∧ Yd r.2 s) := Ok_mono (kp_kept Y I.2.1.1 I.1.1 I.1.2 (by omega)) (fun r h => ⟨h.1, Yd_1 Y I.2.1.1 h.2⟩)
/- of the saved states the newest j (or all) are this one -/
def Gs (j : Nat) (w : Nat → Nat) (t : Nat → Nat) (K : Nat → Nat → Nat) (l : Nat) (x : Nat → Nat) (σ : x_S) : Prop := ∃ n S, Yc σ w n S t K l x ∧ n ≤ 6 ∧ j ≤ n ∧ ∀ i, i < n → n ≤ i + j → S i = w
set_option maxRecDepth 16384 in
theorem gb_ok {j l : Nat} {w t x : Nat → Nat} {K : Nat → Nat → Nat} (h : Gs j w t K l x σ) (hj : j < 6) (ht : t 1 = 1) (hK : K 1 = w) : Ok (fL_goBack σ (1 : Int32)) (fun r => r.1 = (0 : Int64) ∧ Gs (j + 1) w t K l x r.2) := by
  obtain ⟨n, S, Y, hn, hjn, hS⟩ := h
  have q := c_goBack (s := 1) Y hn (by omega) ht (rg (p := 0) (m := 1) (by omega) (by omega) (by omega)).1 (rg (p := 0) (m := 1) (by omega) (by omega) (by omega)).2
  refine Ok_mono q (fun r hr => ⟨hr.1, ?_⟩)
  have Y1 := hr.2
  rw [hK] at Y1
  refine ⟨_, _, Y1, n_sn_le hn, ?_, fun i hi h2 => ?_⟩
  · unfold n_sn; split <;> omega
  · unfold n_sn at hi h2
    unfold n_sS
    by_cases c : n = 6
    · rw [if_pos c] at hi h2 ⊢
      by_cases c2 : i < 5
      · rw [if_pos c2]; exact hS _ (by omega) (by omega)
      · rw [if_neg c2]
    · rw [if_neg c] at hi h2 ⊢
      by_cases c2 : i = n
      · rw [if_pos c2]
      · rw [if_neg c2]; exact hS _ (by omega) (by omega)
set_option maxRecDepth 16384 in
theorem Gs_6 {l : Nat} {w t x : Nat → Nat} {K : Nat → Nat → Nat} (h : Gs 6 w t K l x σ) : Yc σ w 6 (fun _ => w) t K l x := by
  obtain ⟨n, S, Y, hn, hjn, hS⟩ := h
  have e : n = 6 := by omega
  subst e
  obtain ⟨Y1, ⟨Y2, g, Y3, Y4, Y5⟩, Y6, Y7⟩ := Y
  exact ⟨Y1, ⟨Y2, g, Y3, Y4, fun i hi => by have := Y5 i hi; rw [hS i hi (by omega)] at this; exact this⟩, Y6, Y7⟩
variable {xs : Nat → Int32} {L : Nat} {k47 : x_S → x_S → Int32 → Int32 → Option Int32} {k a : Nat}
abbrev P1 : Int32 → Prop := fun r => r = (1 : Int32)
set_option maxRecDepth 16384 in
theorem one_ne : ¬ (1 : Int32) = 0 := by decide
/- what comes behind, out of equal states -/
def KK (k47 : x_S → x_S → Int32 → Int32 → Option Int32) (k B : Nat) : Prop := ∀ (σ τ : x_S) (s : Ys), Yd σ s → Yd τ s → Yi B s → Ok (k47 σ τ (1 : Int32) (nn (k + 1))) P1
set_option maxRecDepth 16384 in
theorem lw_j218 (hk : KK k47 k B) (Y : Yd σ s) (Y2 : Yd τ s) (I : Yi B s) (h9 : B ≤ 600000000) : Ok (fL_law_j218 xs L k47 σ τ (1 : Int32) (nn k)) P1 := by
  have e : nn k + (1 : Int32) = nn (k + 1) := nn_add k 1
  unfold fL_law_j218
  unfold x_let
  rw [e]
  refine o_f one_ne ?_
  refine Ok_ite (fun _ => hk σ τ s Y Y2 I) (fun _ => ?_)
  refine Ok_bind (al_ok Y Y2 I h9) (fun r hr => ?_)
  refine o_f (by rw [hr.1]; exact one_ne) ?_
  exact hk _ _ s hr.2.1 hr.2.2 I
set_option maxRecDepth 16384 in
theorem lw_b181 (hk : KK k47 k B) {l : Nat} {w t x : Nat → Nat} {K : Nat → Nat → Nat} (h9 : B ≤ 600000000) (I : Yi B (Ym w 6 (fun _ => w) t K l x)) (ht : t 1 = 1) (hK : K 1 = w) : ∀ m j, m + j = 7 → j ≤ 6 → ∀ σ τ, Gs j w t K l x σ → Gs j w t K l x τ → Ok (fL_law_b181 xs L k47 m σ τ (1 : Int32) (nn k) (nn j)) P1 := by
  intro m
  induction m with
  | zero => intro j h1 h2; omega
  | succ m ih =>
    intro j h1 h2 σ τ G1 G2
    have e : nn j + (1 : Int32) = nn (j + 1) := nn_add j 1
    rw [fL_law_b181]
    unfold x_let
    rw [e]
    by_cases c : j = 6
    · refine o_t ((nn_le (a := 6) (b := j) (by omega) (by omega)).mpr (by omega)) ?_
      rw [c] at G1 G2
      exact lw_j218 (s := Ym w 6 (fun _ => w) t K l x) hk (Gs_6 G1) (Gs_6 G2) I h9
    · refine o_f (fun h => by have := (nn_le (a := 6) (b := j) (by omega) (by omega)).mp h; omega) ?_
      refine o_f one_ne ?_
      refine Ok_bind (gb_ok G1 (by omega) ht hK) (fun r1 q1 => ?_)
      refine Ok_bind (gb_ok G2 (by omega) ht hK) (fun r2 q2 => ?_)
      refine o_t (by rw [q1.1, q2.1]; exact (lg_eq0 _ _).mpr rfl) ?_
      exact ih (j + 1) (by omega) (by omega) _ _ q1.2 q2.2
set_option maxRecDepth 16384 in
theorem lw_j139 (hk : KK k47 k B) (Y : Yd σ s) (Y2 : Yd τ s) (I : Yi B s) (h9 : B ≤ 600000000) (ha : a < 2147483648) : Ok (fL_law_j139 xs L k47 σ τ (1 : Int32) (nn k) (nn a)) P1 := by
  have hn := I.2.1.1
  unfold fL_law_j139
  refine Ok_ite (fun _ => ?_) (fun _ => lw_j218 hk Y Y2 I h9)
  refine o_f one_ne ?_
  refine Ok_bind (fo_follows Y2 hn I.1.1 (by omega) ha) (fun r1 q1 => ?_)
  refine o_f (by rw [q1.1]; exact one_ne) ?_
  refine Ok_bind (c_keep (s := 1) Y hn (by omega) (rg (p := 0) (m := 1) (by omega) (by omega) (by omega)).1 (rg (p := 0) (m := 1) (by omega) (by omega) (by omega)).2) (fun r2 q2 => ?_)
  refine o_t (by rw [q2.1]; exact (lg_eq0 _ _).mpr rfl) ?_
  obtain ⟨n, S, Yq, hq⟩ := q1.2
  refine lw_b181 (w := s.w) (t := nu s.t 1 1) (K := fun i => if i = 1 then s.w else s.K i) (l := s.l) (x := s.x) hk h9 ⟨I.1, ⟨by show (6 : Nat) ≤ 6; omega, fun i _ => I.1⟩, fun j hj => ?_, I.2.2.2⟩ (nu_eq1 rfl) (if_pos rfl) 7 0 (by omega) (by omega) r2.2 r1.2 ⟨_, _, q2.2, hn, Nat.zero_le _, fun i h1 h2 => by omega⟩ ⟨n, S, Yq, hq, Nat.zero_le _, fun i h1 h2 => by omega⟩
  show nu s.t 1 1 j ≤ 1 ∧ (nu s.t 1 1 j = 1 → Wi B (if j = 1 then s.w else s.K j))
  by_cases c : j = 1
  · rw [nu_eq1 c, if_pos c]; exact ⟨Nat.le_refl _, fun _ => I.1⟩
  · rw [nu_ne1 c, if_neg c]; exact I.2.2.1 j hj
set_option maxRecDepth 16384 in
theorem lw_j105 (hk : KK k47 k B) (Y : Yd σ s) (Y2 : Yd τ s) (I : Yi B s) (h9 : B ≤ 600000000) (ha : a < 2147483648) : Ok (fL_law_j105 xs L k47 σ τ (nn k) (nn a) (1 : Int32)) P1 := by
  unfold fL_law_j105
  refine Ok_ite (fun _ => ?_) (fun _ => lw_j139 hk Y Y2 I h9 ha)
  refine o_f one_ne ?_
  refine Ok_bind (er_ok2 Y2 I h9) (fun r1 q1 => ?_)
  refine o_f (by rw [q1.1]; exact one_ne) ?_
  refine Ok_bind (kp_ok2 q1.2 I h9) (fun r2 q2 => ?_)
  refine o_f (by rw [q2.1]; exact one_ne) ?_
  unfold fL_law_j138
  exact lw_j139 hk Y q2.2 I h9 ha
set_option maxRecDepth 16384 in
theorem lw_j250 (Y : Yd σ s) (Y2 : Yd τ s) (I : Yi B s) (h9 : B ≤ 600000000) : Ok (fL_law_j250 xs L σ τ (1 : Int32)) P1 := by
  unfold fL_law_j250
  refine o_f one_ne ?_
  refine Ok_bind (al_ok Y Y2 I h9) (fun r hr => ?_)
  refine o_f (by rw [hr.1]; exact one_ne) ?_
  exact Ok_some rfl
set_option maxRecDepth 16384 in
theorem lw_b47 (hL : L ≤ 260) : ∀ m k, m + k = 41 → k ≤ 40 → ∀ σ τ s, Yd σ s → Yd τ s → Yi (1000 + 13000000 * k) s → Ok (fL_law_b47 xs L m σ τ (1 : Int32) (nn k)) P1 := by
  intro m
  induction m with
  | zero => intro k h1 h2; omega
  | succ m ih =>
    intro k h1 h2 σ τ s Y Y2 I
    rw [fL_law_b47]
    by_cases c : k = 40
    · refine o_t ((nn_le (a := 40) (b := k) (by omega) (by omega)).mpr (by omega)) ?_
      exact lw_j250 Y Y2 I (by omega)
    · refine o_f (fun h => by have := (nn_le (a := 40) (b := k) (by omega) (by omega)).mp h; omega) ?_
      refine o_f one_ne ?_
      have e2 : (2 : Int32) * nn k = nn (2 * k) := nn_mul 2 k
      rw [e2, n1]
      refine Ok_bind (dr_ok hL (by omega)) (fun r3 q3 => ?_)
      refine Ok_bind (dr_ok hL (by omega)) (fun r5 q5 => ?_)
      obtain ⟨a, ha, ea⟩ := q3
      obtain ⟨b, hb, eb⟩ := q5
      rw [ea, eb]
      obtain ⟨y, s', I', D⟩ := D_act I ha hb (by omega)
      refine Ok_bind (D σ Y) (fun r7 q7 => ?_)
      refine Ok_bind (D τ Y2) (fun r9 q9 => ?_)
      refine o_t (by rw [q7.1, q9.1]; exact (lg_eq0 _ _).mpr rfl) ?_
      exact lw_j105 (B := 1000 + 13000000 * (k + 1)) (fun σ τ s Y Y2 I => ih (k + 1) (by omega) (by omega) σ τ s Y Y2 I) q7.2 q9.2 (by rw [show 1000 + 13000000 * (k + 1) = 1000 + 13000000 * k + 13000000 by omega]; exact I'.1) (by omega) hb
set_option maxRecDepth 16384 in
theorem lw_is (hL : L ≤ 260) : fL_law xs L = some (1 : Int32) := by
  have q : Ok (fL_law xs L) P1 := by
    unfold fL_law
    refine Ok_bind (al_ok Yd_0 Yd_0 Yi_0 (by omega)) (fun r1 q1 => ?_)
    refine o_f (by rw [q1.1]; exact one_ne) ?_
    refine Ok_bind (er_ok2 q1.2.1 Yi_0 (by omega)) (fun r2 q2 => ?_)
    refine o_f (by rw [q2.1]; exact one_ne) ?_
    refine Ok_bind (kp_ok2 q2.2 Yi_0 (by omega)) (fun r3 q3 => ?_)
    refine o_f (by rw [q3.1]; exact one_ne) ?_
    exact lw_b47 hL 41 0 (by omega) (by omega) _ _ s0 q3.2 q1.2.2 Yi_0
  obtain ⟨r, e, h⟩ := q
  rw [e, h]
end LW
set_option maxRecDepth 16384 in
theorem whole_start {p : Program} {e : Env} {s : State} {m : MethodId} {below : List Frame} {meth : Method} {c : Code} (l : Launch) (hflags : l.flags = flags0) {b L : Nat} {xs : Nat → Int32} (hL : L ≤ 260) (C0 : lw_At p s m meth c b L xs) : W p l e room_1 s m #[Value.ref b] below meth c s.heap [] 0 0 (lw_Z below #[Value.ref b] s) (entryFrame m ([Value.ref b] : List Value).toArray 8) :=
  whole_start0 l hflags C0 (lw_is hL)
