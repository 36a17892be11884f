/-! ===== a course is played ===== -/
set_option maxRecDepth 16384 in
theorem pos_B {B : Nat} {w : Nat → Nat} (F : Wf B w) : 1 ≤ B := by
  have h := F.2.2.2 555
  have z := F.1.2.2.2
  unfold WzN at z
  omega
set_option maxRecDepth 16384 in
theorem p_part {u : x_H} {w : Nat → Nat} {B : Nat} (R : Ru u w) (F : Wf B w) (h9 : B + 700000 ≤ 1000000000) {c v : Nat} (hc : n_L c) (hv : v ≤ n_hi c) : Ok (fX2_playPart u (nn c) (nn v)) (fun r => (n_ok w c v → r.1 = nn 1 ∧ Ru r.2 (n_do w c v)) ∧ (¬ n_ok w c v → r.1 = nn 0)) := by
  have hm := F.1.2.2.1.2
  have e3 : u 3 0 = nn (w 552) := R.2.2.2.2.1.1
  have a2 := n_hi_is c
  have hP := u_hasPlace e3 hm (p := v) (by omega)
  rw [fX2_playPart]
  have JG : ∀ (z : Nat) (y : Int32), y = nn z → (c = 115 ∧ z = 0 ∨ (c = 103 ∨ c = 114) ∧ z = 3) → Ok (fX2_playPart_j67 u (nn c) (nn v) y) (fun r => (n_ok w c v → r.1 = nn 1 ∧ Ru r.2 (n_do w c v)) ∧ (¬ n_ok w c v → r.1 = nn 0)) := by
    intro z y hy hz
    have e2 : n_hi c = 11 := by unfold n_hi; rw [if_neg (by omega), if_neg (by omega)]
    have hv12 : v < 12 := by omega
    have zv := (F.1.1 v hv12).1
    rw [fX2_playPart_j67, u_isGuest hv12, xb_some, if_neg nn_one, if_pos (nn_in (by omega) hv12), g_doing R hv12, hy]
    by_cases cw : w (8 * v) = z
    · rw [if_pos (by rw [cw])]
      have hok : n_ok w c v := by omega
      rcases hz with ⟨rfl, rfl⟩ | ⟨rfl | rfl, rfl⟩
      · rw [if_pos (show nn 115 = (115 : Int32) from rfl)]
        exact Ok_bind (u_beginSeeking R F.2.2 hm (pos_B F) hv12 cw) (fun u' hu => Ok_some ⟨fun _ => ⟨rfl, hu⟩, fun h => absurd hok h⟩)
      · rw [if_neg (by decide), if_pos (show nn 103 = (103 : Int32) from rfl)]
        exact Ok_bind (u_leaveRoom R F.2.2 hm hv12 (by omega)) (fun u' hu => Ok_some ⟨fun _ => ⟨rfl, hu⟩, fun h => absurd hok h⟩)
      · rw [if_neg (by decide), if_neg (by decide)]
        exact Ok_bind (u_sendWant R F.2.2 hm hv12 (by omega)) (fun u' hu => Ok_some ⟨fun _ => ⟨rfl, hu⟩, fun h => absurd hok h⟩)
    · rw [if_neg (show ¬ nn (w (8 * v)) = nn z from lit (by omega) (by omega) cw)]
      exact Ok_some ⟨fun h => by omega, fun _ => rfl⟩
  rcases hc with rfl | rfl | rfl | rfl | rfl | rfl
  · rw [if_neg (by decide), if_neg (by decide), if_neg (by decide), if_pos (by decide)]
    exact JG 0 _ rfl (by omega)
  · rw [if_neg (by decide), if_neg (by decide), if_neg (by decide), if_neg (by decide)]
    exact JG 3 _ rfl (by omega)
  · rw [if_neg (by decide), if_neg (by decide), if_neg (by decide), if_neg (by decide)]
    exact JG 3 _ rfl (by omega)
  · rw [if_neg (by decide), if_pos (by decide)]
    by_cases cv : v < w 552
    · refine Ok_bind (u_deliverAt R F (by omega) cv) (fun r hr => ?_)
      have z := F.1.2.2.1.1 v cv
      rw [hr.1, if_neg (show ¬ nn (w (192 + 6 * v)) = (-1 : Int32) from fun e => (nn_neg (a := w (192 + 6 * v)) (by omega)).mp (by rw [e]; decide))]
      exact Ok_some ⟨fun _ => ⟨rfl, hr.2⟩, fun h => absurd (Or.inr (Or.inl ⟨Or.inl rfl, cv⟩)) h⟩
    · rw [if_neg cv] at hP
      rw [fX2_deliverAt, hP, xb_some, if_pos (show nn 0 = (0 : Int32) from rfl), xb_some, if_pos rfl]
      exact Ok_some ⟨fun h => by omega, fun _ => rfl⟩
  · rw [if_neg (by decide), if_neg (by decide), if_pos (by decide)]
    by_cases cv : v < w 552
    · refine Ok_bind (u_loseAt R F.1 cv) (fun r hr => ?_)
      have z := F.1.2.2.1.1 v cv
      rw [hr.1, if_neg (show ¬ nn (w (192 + 6 * v)) = (-1 : Int32) from fun e => (nn_neg (a := w (192 + 6 * v)) (by omega)).mp (by rw [e]; decide))]
      exact Ok_some ⟨fun _ => ⟨rfl, hr.2⟩, fun h => absurd (Or.inr (Or.inl ⟨Or.inr rfl, cv⟩)) h⟩
    · rw [if_neg cv] at hP
      rw [fX2_loseAt, hP, xb_some, if_pos (show nn 0 = (0 : Int32) from rfl), xb_some, if_pos rfl]
      exact Ok_some ⟨fun h => by omega, fun _ => rfl⟩
  · have e2 : n_hi 116 = 100 := rfl
    rw [if_pos (by decide)]
    exact Ok_bind (u_letTicksGo R F (by omega) h9) (fun r hr => Ok_some ⟨fun _ => ⟨rfl, hr.2⟩, fun h => absurd (Or.inl rfl) h⟩)
/- what playing comes to -/
def Po (σ0 : x_S) (u0 : x_H) (o : Nat) (w : Nat → Nat) (r : Int32 × x_S) : Prop := (∀ j, j ≠ 1 → j ≠ 10 → r.2 j = σ0 j) ∧ Tg (r.2 10) u0 ∧ (o = 1 → r.1 = nn 1 ∧ Ru (r.2 1) w) ∧ (o = 0 → r.1 = nn 0)
section
variable {l p c v n : Nat} {x : Nat → Nat} {u0 : x_H} {τ σ0 : x_S} {w : Nat → Nat}
set_option maxRecDepth 16384 in
theorem n_tx_0 : ∀ (d p : Nat) (w : Nat → Nat), (n_tx x l d p 0 w).2.2.1 = 0 := by
  have E : ∀ (c v : Nat) (w : Nat → Nat), (n_ef 0 w c v).1 = 0 := fun c v w => by rw [n_ef_n (fun h => by omega)]
  intro d
  induction d with
  | zero => intro p w; rfl
  | succ d ih =>
    intro p w
    rw [n_tx]
    split
    · rfl
    · split
      · split
        · rw [E]; exact ih _ _
        · show (n_ef 0 w (n_pt x l p).2.2.1 (n_pt x l p).2.2.2).1 = 0
          exact E _ _ _
      · show (n_ef 0 w (n_pt x l p).2.2.1 (n_pt x l p).2.2.2).1 = 0
        exact E _ _ _
set_option maxRecDepth 16384 in
theorem o_step {P : Int32 × x_S → Prop} (X : CX u0 l x) (T : Tg (τ 10) u0) (hp : p < l) (h59 : x p ≠ 59) (h : Ok (fX0_reads (τ 10) (nn (x p))) (fun r => Ok (fX0_playOn_b6 n (x_sh τ 10 r.2) (nn (p + 1))) P)) : Ok (fX0_playOn_b6 (n + 1) τ (nn p)) P := by
  have hl := X.2.2.1
  have xp := X.2.2.2 p hp
  rw [fX0_playOn_b6, T 37 0 (by omega), X.1, if_neg (fun h => by have := (nn_le (by omega) (by omega)).mp h; omega), if_neg (fun h => by have := (nn_le (a := 60) (by omega) (by omega)).mp h; omega), if_pos (nn_in (by omega) (by omega)), nn_clamp (by omega), T 38 p (by omega), X.2.1 p hp, if_neg (show ¬ nn (x p) = (59 : Int32) from lit (j := 59) (by omega) (by omega) h59), show nn p + (1 : Int32) = nn (p + 1) from nn_add p 1]
  refine Ok_bind h (fun r hr => ?_)
  exact hr
set_option maxRecDepth 16384 in
theorem o_semi {P : Int32 × x_S → Prop} (X : CX u0 l x) (T : Tk (τ 10) u0 c (v + 1)) (hc : n_L c) (hv : v ≤ 100) (hp : p < l) (h59 : x p = 59) (h : Ok (fX2_playPart (τ 1) (nn c) (nn v)) (fun r => (r.1 = nn 0 ∧ P ((0 : Int32), x_sh τ 1 r.2)) ∨ (r.1 = nn 1 ∧ ∀ u', Tk u' u0 0 0 → Ok (fX0_playOn_b6 n (x_sh (x_sh τ 1 r.2) 10 u') (nn (p + 1))) P))) : Ok (fX0_playOn_b6 (n + 1) τ (nn p)) P := by
  have hl := X.2.2.1
  rw [fX0_playOn_b6, T.1 37 0 (by omega), X.1, if_neg (fun h => by have := (nn_le (by omega) (by omega)).mp h; omega), if_neg (fun h => by have := (nn_le (a := 60) (by omega) (by omega)).mp h; omega), if_pos (nn_in (by omega) (by omega)), nn_clamp (by omega), T.1 38 p (by omega), X.2.1 p hp, if_pos (show nn (x p) = (59 : Int32) by rw [h59]; rfl), T.2.1, T.2.2, mm_succ, show nn p + (1 : Int32) = nn (p + 1) from nn_add p 1]
  refine Ok_bind h (fun r hr => Ok_let (fun τ19 e19 => ?_))
  rcases hr with ⟨h1, h2⟩ | ⟨h1, h2⟩
  · rw [h1, if_pos (show nn 0 = (0 : Int32) from rfl), e19]
    exact Ok_some h2
  · have e10 : τ19 10 = τ 10 := by rw [e19, x_sh_ne _ _ (by omega)]
    rw [h1, if_neg (show ¬ nn 1 = (0 : Int32) from nn_one), e10, T.1 38 p (by omega), X.2.1 p hp, h59]
    refine Ok_bind (r_semi T hc (by omega)) (fun r2 hr2 => Ok_let (fun τ24 e24 => ?_))
    rw [x_let_n, e24, e19]
    exact h2 r2.2 hr2.2
set_option maxRecDepth 16384 in
theorem o_end {P : Int32 × x_S → Prop} (X : CX u0 l x) (T : Tk (τ 10) u0 c (v + 1)) (hp : p = l) (h : Ok (fX2_playPart (τ 1) (nn c) (nn v)) (fun r => (r.1 = nn 0 ∨ r.1 = nn 1) ∧ P (r.1, x_sh τ 1 r.2))) : Ok (fX0_playOn_b6 (n + 1) τ (nn p)) P := by
  have hl := X.2.2.1
  rw [fX0_playOn_b6, T.1 37 0 (by omega), X.1, if_pos ((nn_le (by omega) (by omega)).mpr (by omega)), T.2.1, T.2.2, mm_succ]
  refine Ok_bind h (fun r hr => Ok_let (fun τ8 e8 => ?_))
  have e : vp_nar .boolean r.1 = r.1 := by
    rcases hr.1 with h1 | h1
    · rw [h1]; exact vpb0
    · rw [h1]; exact vpb1
  rw [if_pos e, e8]
  exact Ok_some hr.2
set_option maxRecDepth 16384 in
theorem o_dg {P : Int32 × x_S → Prop} (X : CX u0 l x) (hc : n_L c) : ∀ (d n p v : Nat) (τ : x_S), p + d = l → d < n → 1 ≤ v → v ≤ n_hi c → Tk (τ 10) u0 c (v + 1) → (∀ (n' : Nat) (u' : x_H), l - (n_dg x (n_hi c) d p v).1 < n' → Tk u' u0 c ((n_dg x (n_hi c) d p v).2 + 1) → Ok (fX0_playOn_b6 n' (x_sh τ 10 u') (nn (n_dg x (n_hi c) d p v).1)) P) → Ok (fX0_playOn_b6 n τ (nn p)) P := by
  have a2 := n_hi_is c
  intro d
  induction d with
  | zero =>
    intro n p v τ h1 h2 h3 h4 T K
    have k := K n (τ 10) (by show l - p < n; omega) T
    rw [x_sh_self] at k
    exact k
  | succ d ih =>
    intro n p v τ h1 h2 h3 h4 T K
    rw [n_dg] at K
    by_cases h : 48 ≤ x p ∧ x p ≤ 57 ∧ 10 * v + (x p - 48) ≤ n_hi c
    · rw [if_pos h] at K
      obtain ⟨n, rfl⟩ : ∃ m, n = m + 1 := ⟨n - 1, by omega⟩
      refine o_step X T.1 (by omega) (by omega) (Ok_mono (r_dig T hc ⟨h.1, h.2.1⟩ (by omega)) (fun r hr => ?_))
      obtain ⟨b, v', e1, e2, e3, -, -, e4⟩ := hr
      obtain ⟨e5, e6⟩ := e4 (by omega)
      rw [Nat.add_sub_cancel] at e5
      rw [e5] at e3
      exact ih n (p + 1) _ (x_sh τ 10 r.2) (by omega) (by omega) (by omega) h.2.2 (by rw [x_sh_eq]; exact e3) (fun n' u' hn' T' => by rw [x_sh_sh]; exact K n' u' hn' T')
    · rw [if_neg h] at K
      have k := K n (τ 10) (by show l - p < n; omega) T
      rw [x_sh_self] at k
      exact k
set_option maxRecDepth 16384 in
theorem o_all (X : CX u0 l x) : ∀ (d n B p k : Nat) (w : Nat → Nat) (τ : x_S), p + k = l → k < d → k < n → Wf B w → B + 600200 * k + 700000 ≤ 1000000000 → (∀ j, j ≠ 1 → j ≠ 10 → τ j = σ0 j) → Tk (τ 10) u0 0 0 → Ru (τ 1) w → (n_tx x l d p 1 w).1 = 1 → Ok (fX0_playOn_b6 n τ (nn p)) (Po σ0 u0 (n_tx x l d p 1 w).2.2.1 (n_tx x l d p 1 w).2.2.2) := by
  have hl := X.2.2.1
  intro d
  induction d with
  | zero => intro n B p k w τ h1 h2; omega
  | succ d ih =>
    intro n B p k w τ h1 h2 hn F H D T R hA
    by_cases hL : p < l ∧ n_L (x p)
    · by_cases h3 : p + 1 < l ∧ 48 + n_lo (x p) ≤ x (p + 1) ∧ x (p + 1) ≤ 57
      · obtain ⟨n, rfl⟩ : ∃ m, n = m + 1 := ⟨n - 1, by omega⟩
        obtain ⟨n, rfl⟩ : ∃ m, n = m + 1 := ⟨n - 1, by omega⟩
        have a2 := n_hi_is (x p)
        have xp := X.2.2.2 p hL.1
        -- behind a number
        have Q : ∀ (p' v : Nat) (hv : v ≤ n_hi (x p)) (hp' : p < p' ∧ p' ≤ l) (hpt : n_pt x l p = (1, p', x p, v)) (n' : Nat) (τ' : x_S), l - p' < n' → (∀ j, j ≠ 1 → j ≠ 10 → τ' j = σ0 j) → Ru (τ' 1) w → Tk (τ' 10) u0 (x p) (v + 1) → Ok (fX0_playOn_b6 n' τ' (nn p')) (Po σ0 u0 (n_tx x l (d + 1) p 1 w).2.2.1 (n_tx x l (d + 1) p 1 w).2.2.2) := by
          intro p' v hv hp' hpt n' τ' hn' D' R' T'
          obtain ⟨n', rfl⟩ : ∃ m, n' = m + 1 := ⟨n' - 1, by omega⟩
          rw [n_tx_g hpt] at hA ⊢
          have PP := p_part R' F (bud5 H) hL.2 hv
          have D1 : ∀ u1 : x_H, ∀ j, j ≠ 1 → j ≠ 10 → x_sh τ' 1 u1 j = σ0 j := fun u1 j j1 j2 => by rw [x_sh_ne _ _ j1]; exact D' j j1 j2
          have T10 : ∀ u1 : x_H, Tg (x_sh τ' 1 u1 10) u0 := fun u1 => by rw [x_sh_ne _ _ (by omega)]; exact T'.1
          have R1 : ∀ (u1 : x_H) (w1 : Nat → Nat), Ru u1 w1 → Ru (x_sh τ' 1 u1 1) w1 := fun u1 w1 h => by rw [x_sh_eq]; exact h
          by_cases cl : p' < l
          · rw [if_pos cl] at hA ⊢
            by_cases cx : x p' = 59
            · rw [if_pos cx] at hA ⊢
              have hk : l - (p' + 1) + 1 ≤ k := by omega
              refine o_semi X T' hL.2 (by omega) cl cx (Ok_mono PP (fun r hr => ?_))
              by_cases ho : n_ok w (x p) v
              · obtain ⟨q1, q2⟩ := hr.1 ho
                rw [n_ef_y ⟨rfl, ho⟩] at hA ⊢
                refine Or.inr ⟨q1, fun u' Tu => ?_⟩
                refine ih n' (B + 600100) (p' + 1) (l - (p' + 1)) _ _ (by omega) (by omega) (by omega) (Wf_do F (bud5 H) hL.2 hv ho) (bud6 hk H) (fun j j1 j2 => by rw [x_sh_ne _ _ j2]; exact D1 _ j j1 j2) (by rw [x_sh_eq]; exact Tu) (by rw [x_sh_ne _ _ (by omega), x_sh_eq]; exact q2) hA
              · rw [n_ef_n (fun h => ho h.2)] at hA ⊢
                refine Or.inl ⟨hr.2 ho, D1 _, T10 r.2, fun h => ?_, fun _ => rfl⟩
                have h0 := n_tx_0 (x := x) (l := l) d (p' + 1) w
                exact absurd (h0.symm.trans (show (n_tx x l d (p' + 1) 0 w).2.2.1 = 1 from h)) (by decide)
            · rw [if_neg cx] at hA
              exact absurd (show (0 : Nat) = 1 from hA) (by decide)
          · rw [if_neg cl] at hA ⊢
            refine o_end X T' (by omega) (Ok_mono PP (fun r hr => ?_))
            by_cases ho : n_ok w (x p) v
            · obtain ⟨q1, q2⟩ := hr.1 ho
              rw [n_ef_y ⟨rfl, ho⟩]
              exact ⟨Or.inr q1, D1 _, T10 r.2, fun _ => ⟨q1, R1 r.2 _ q2⟩, fun h => absurd (show (1 : Nat) = 0 from h) (by decide)⟩
            · rw [n_ef_n (fun h => ho h.2)]
              exact ⟨Or.inl (hr.2 ho), D1 _, T10 r.2, fun h => absurd (show (0 : Nat) = 1 from h) (by decide), fun _ => hr.2 ho⟩
        have S10 : ∀ (τ1 : x_S) (u1 : x_H), (∀ j, j ≠ 1 → j ≠ 10 → τ1 j = σ0 j) → ∀ j, j ≠ 1 → j ≠ 10 → x_sh τ1 10 u1 j = σ0 j := fun τ1 u1 h j j1 j2 => by rw [x_sh_ne _ _ j2]; exact h j j1 j2
        refine o_step X T.1 hL.1 (by omega) (Ok_mono (r_let T (by omega)) (fun r hr => ?_))
        have T1 : Tk (x_sh τ 10 r.2 10) u0 (x p) 0 := by rw [x_sh_eq]; exact hr.2
        refine o_step X T1.1 h3.1 (by omega) (Ok_mono (r_dig T1 hL.2 ⟨by omega, h3.2.2⟩ (by omega)) (fun r2 hr2 => ?_))
        obtain ⟨b, v', f1, f2, f3, f4, -, -⟩ := hr2
        obtain ⟨f5, f6⟩ := f4 rfl
        rw [f5] at f3
        have D2 := S10 _ r2.2 (S10 _ r.2 D)
        have R2 : Ru (x_sh (x_sh τ 10 r.2) 10 r2.2 1) w := by rw [x_sh_ne _ _ (by omega), x_sh_ne _ _ (by omega)]; exact R
        have T2 : Tk (x_sh (x_sh τ 10 r.2) 10 r2.2 10) u0 (x p) (x (p + 1) - 48 + 1) := by rw [x_sh_eq]; exact f3
        by_cases h4 : x (p + 1) = 48
        · rw [h4] at T2
          exact Q (p + 2) 0 (by omega) (by omega) (n_pt_z hL h3 h4) n _ (by omega) D2 R2 T2
        · have DI := n_dg_is (x := x) (m := n_hi (x p)) (l - (p + 2)) (p + 2) (x (p + 1) - 48) (by omega)
          exact o_dg X hL.2 (l - (p + 2)) n (p + 2) (x (p + 1) - 48) _ (by omega) (by omega) (by omega) (by omega) T2 (fun n' u' hn' T' => Q _ _ (by omega) (by omega) (n_pt_d hL h3 h4) n' _ hn' (S10 _ u' D2) (by rw [x_sh_ne _ _ (by omega)]; exact R2) (by rw [x_sh_eq]; exact T'))
      · rw [n_tx_b (n_pt_b hL h3)] at hA
        exact absurd (show (0 : Nat) = 1 from hA) (by decide)
    · rw [n_tx_b (n_pt_0 hL)] at hA
      exact absurd (show (0 : Nat) = 1 from hA) (by decide)
end
