/-! ===== the first error ===== -/
/- what the class's look for an error comes to: g good or not, a the place -/
def Er (u0 : x_H) (l g a : Nat) (r : Int32 × x_H) : Prop := Tg r.2 u0 ∧ (g = 1 → r.1 = nn l ∧ ∃ c v, c ≠ 0 ∧ c < 1000 ∧ v < 1000 ∧ Tk r.2 u0 c (v + 1)) ∧ (g = 0 → r.1 = nn a ∧ (a = l → ∃ c v, c < 1000 ∧ v < 1000 ∧ Tk r.2 u0 c v ∧ (c = 0 ∨ v = 0)))
section
variable {l : Nat} {x : Nat → Nat} {u0 : x_H}
set_option maxRecDepth 16384 in
theorem n_tx_b {d p o p' c v : Nat} {w : Nat → Nat} (h : n_pt x l p = (0, p', c, v)) : n_tx x l (d + 1) p o w = (0, p', o, w) := by
  rw [n_tx, h]
  exact if_pos rfl
set_option maxRecDepth 16384 in
theorem n_tx_g {d p o p' c v : Nat} {w : Nat → Nat} (h : n_pt x l p = (1, p', c, v)) : n_tx x l (d + 1) p o w = if p' < l then (if x p' = 59 then n_tx x l d (p' + 1) (n_ef o w c v).1 (n_ef o w c v).2 else (0, p', (n_ef o w c v).1, (n_ef o w c v).2)) else (1, p', (n_ef o w c v).1, (n_ef o w c v).2) := by
  rw [n_tx, h]
  exact if_neg (show ¬ (1 : Nat) = 0 by decide)
set_option maxRecDepth 16384 in
theorem n_pt_0 {p : Nat} (h : ¬ (p < l ∧ n_L (x p))) : n_pt x l p = (0, p, 0, 0) := if_neg h
set_option maxRecDepth 16384 in
theorem n_pt_b {p : Nat} (h : p < l ∧ n_L (x p)) (h1 : ¬ (p + 1 < l ∧ 48 + n_lo (x p) ≤ x (p + 1) ∧ x (p + 1) ≤ 57)) : n_pt x l p = (0, p + 1, x p, 0) := by
  rw [n_pt, if_pos h]
  have e : n_num x l (p + 1) (n_lo (x p)) (n_hi (x p)) = (0, p + 1, 0) := if_neg h1
  rw [e]
set_option maxRecDepth 16384 in
theorem n_pt_z {p : Nat} (h : p < l ∧ n_L (x p)) (h1 : p + 1 < l ∧ 48 + n_lo (x p) ≤ x (p + 1) ∧ x (p + 1) ≤ 57) (h2 : x (p + 1) = 48) : n_pt x l p = (1, p + 2, x p, 0) := by
  rw [n_pt, if_pos h]
  have e : n_num x l (p + 1) (n_lo (x p)) (n_hi (x p)) = (1, p + 1 + 1, 0) := by rw [n_num, if_pos h1, if_pos h2]
  rw [e]
set_option maxRecDepth 16384 in
theorem n_pt_d {p : Nat} (h : p < l ∧ n_L (x p)) (h1 : p + 1 < l ∧ 48 + n_lo (x p) ≤ x (p + 1) ∧ x (p + 1) ≤ 57) (h2 : x (p + 1) ≠ 48) : n_pt x l p = (1, (n_dg x (n_hi (x p)) (l - (p + 2)) (p + 2) (x (p + 1) - 48)).1, x p, (n_dg x (n_hi (x p)) (l - (p + 2)) (p + 2) (x (p + 1) - 48)).2) := by
  rw [n_pt, if_pos h]
  have e : n_num x l (p + 1) (n_lo (x p)) (n_hi (x p)) = (1, n_dg x (n_hi (x p)) (l - (p + 1 + 1)) (p + 1 + 1) (x (p + 1) - 48)) := by rw [n_num, if_pos h1, if_neg h2]
  rw [e]
set_option maxRecDepth 16384 in
theorem e_all (X : CX u0 l x) : ∀ (d n p k o : Nat) (w : Nat → Nat) (u : x_H), p + k = l → k < d → k < n → Tk u u0 0 0 → Ok (fX0_errorAt_b6 n u (nn p)) (Er u0 l (n_tx x l d p o w).1 (n_tx x l d p o w).2.1) := by
  have hl := X.2.2.1
  intro d
  induction d with
  | zero => intro n p k o w u h1 h2; omega
  | succ d ih =>
    intro n p k o w u h1 h2 hn T
    obtain ⟨n, rfl⟩ : ∃ m, n = m + 1 := ⟨n - 1, by omega⟩
    by_cases hp : p = l
    · rw [n_tx_b (n_pt_0 (fun h => by omega))]
      refine e_stop X T.1 hp ⟨T.1, fun h => absurd (show (0 : Nat) = 1 from h) (by decide), fun _ => ⟨by rw [hp], fun _ => ⟨0, 0, by omega, by omega, T, Or.inl rfl⟩⟩⟩
    have hpl : p < l := by omega
    have xp := X.2.2.2 p hpl
    refine e_step X T.1 hpl (Ok_mono (r_let T (by omega)) (fun r hr => ?_))
    obtain ⟨e1, T1⟩ := hr
    by_cases hL : n_L (x p)
    · rw [if_pos hL] at e1
      refine Or.inr ⟨e1, ?_⟩
      by_cases h3 : p + 1 < l ∧ 48 + n_lo (x p) ≤ x (p + 1) ∧ x (p + 1) ≤ 57
      · obtain ⟨n, rfl⟩ : ∃ m, n = m + 1 := ⟨n - 1, by omega⟩
        have a2 := n_hi_is (x p)
        -- behind a number
        have Q : ∀ (p' v : Nat) (hv : v ≤ 100) (hp' : p < p' ∧ p' ≤ l) (hpt : n_pt x l p = (1, p', x p, v)) (hS : p' < l → 48 ≤ x p' → x p' ≤ 57 → v = 0 ∨ n_hi (x p) < 10 * v + (x p' - 48)) (n' : Nat) (u' : x_H), l - p' < n' → Tk u' u0 (x p) (v + 1) → Ok (fX0_errorAt_b6 n' u' (nn p')) (Er u0 l (n_tx x l (d + 1) p o w).1 (n_tx x l (d + 1) p o w).2.1) := by
          intro p' v hv hp' hpt hS n' u' hn' T'
          rw [n_tx_g hpt]
          refine e_end X hL hp'.2 hv hn' T' hS (fun h u2 T2 => ?_) (fun h h59 n2 u2 hn2 T2 => ?_) (fun h h59 u2 T2 => ?_)
          · rw [if_neg (by omega)]
            exact ⟨T2.1, fun _ => ⟨rfl, x p, v, by omega, by omega, by omega, T2⟩, fun h => absurd (show (1 : Nat) = 0 from h) (by decide)⟩
          · rw [if_pos h, if_pos h59]
            exact ih n2 (p' + 1) (l - (p' + 1)) _ _ u2 (by omega) (by omega) (by omega) T2
          · rw [if_pos h, if_neg h59]
            exact ⟨T2, fun h => absurd (show (0 : Nat) = 1 from h) (by decide), fun _ => ⟨rfl, fun h' => absurd (show p' = l from h') (by omega)⟩⟩
        refine e_step X T1.1 h3.1 (Ok_mono (r_dig T1 hL ⟨by omega, h3.2.2⟩ (by omega)) (fun r2 hr2 => ?_))
        obtain ⟨b, v', f1, f2, f3, f4, -, -⟩ := hr2
        obtain ⟨f5, f6⟩ := f4 rfl
        rw [f6.mpr (by omega)] at f1
        rw [f5] at f3
        refine Or.inr ⟨f1, ?_⟩
        by_cases h4 : x (p + 1) = 48
        · rw [h4] at f3
          exact Q (p + 2) 0 (by omega) (by omega) (n_pt_z ⟨hpl, hL⟩ h3 h4) (fun _ _ _ => Or.inl rfl) n r2.2 (by omega) f3
        · have D := n_dg_is (x := x) (m := n_hi (x p)) (l - (p + 2)) (p + 2) (x (p + 1) - 48) (by omega)
          have DS := n_dg_stuck (x := x) (l := l) (m := n_hi (x p)) (l - (p + 2)) (p + 2) (x (p + 1) - 48) (by omega)
          exact e_dg X hL (l - (p + 2)) n (p + 2) (x (p + 1) - 48) r2.2 (by omega) (by omega) (by omega) (by omega) f3 (fun n' u' hn' T' => Q _ _ (by omega) (by omega) (n_pt_d ⟨hpl, hL⟩ h3 h4) (fun q1 q2 q3 => by rcases DS with DS | DS; omega; right; omega) n' u' hn' T')
      · rw [n_tx_b (n_pt_b ⟨hpl, hL⟩ h3)]
        obtain ⟨n, rfl⟩ : ∃ m, n = m + 1 := ⟨n - 1, by omega⟩
        by_cases hp1 : p + 1 = l
        · exact e_stop X T1.1 hp1 ⟨T1.1, fun h => absurd (show (0 : Nat) = 1 from h) (by decide), fun _ => ⟨by rw [← hp1], fun _ => ⟨x p, 0, by omega, by omega, T1, Or.inr rfl⟩⟩⟩
        have hpl1 : p + 1 < l := by omega
        have xp1 := X.2.2.2 (p + 1) hpl1
        have G : ∀ r : Int32 × x_H, Tg r.2 u0 → Er u0 l 0 (p + 1) (nn (p + 1), r.2) := fun r hr => ⟨hr, fun h => absurd (show (0 : Nat) = 1 from h) (by decide), fun _ => ⟨rfl, fun h => absurd h hp1⟩⟩
        refine e_step X T1.1 hpl1 ?_
        by_cases h59 : x (p + 1) = 59
        · rw [h59]
          exact Ok_mono (r_semi T1 hL (by omega)) (fun r2 hr2 => Or.inl ⟨by rw [hr2.1, if_neg (fun h => h rfl)], G r2 hr2.2.1⟩)
        · by_cases hd : 48 ≤ x (p + 1) ∧ x (p + 1) ≤ 57
          · refine Ok_mono (r_dig T1 hL hd (by omega)) (fun r2 hr2 => Or.inl ⟨?_, ?_⟩)
            · obtain ⟨b, v', f1, f2, -, f4, -, -⟩ := hr2
              have := (f4 rfl).2
              rw [f1, show b = 0 by omega]
            · obtain ⟨b, v', -, -, f3, -⟩ := hr2
              exact G r2 f3.1
          · exact Ok_mono (r_oth T1 hL (by omega) h59 hd) (fun r2 hr2 => Or.inl ⟨hr2.1, G r2 hr2.2.1⟩)
    · rw [if_neg hL] at e1
      rw [n_tx_b (n_pt_0 (fun h => hL h.2))]
      exact Or.inl ⟨e1, T1.1, fun h => absurd (show (0 : Nat) = 1 from h) (by decide), fun _ => ⟨rfl, fun h => absurd (show p = l from h) hp⟩⟩
set_option maxRecDepth 16384 in
theorem e_errorAt {u : x_H} (X : CX u l x) (w : Nat → Nat) (o : Nat) : Ok (fX0_errorAt u) (Er u l (n_tx x l 61 0 o w).1 (n_tx x l 61 0 o w).2.1) := by
  have hl := X.2.2.1
  rw [fX0_errorAt]
  exact Ok_bind (r_begin (u := u) (u0 := u) (fun _ _ _ => rfl)) (fun r hr => e_all X 61 400 0 l o w r (by omega) (by omega) (by omega) hr)
/- whether the text is a course -/
set_option maxRecDepth 16384 in
theorem e_tells {u : x_H} (X : CX u l x) (w : Nat → Nat) (o : Nat) (hA : (n_tx x l 61 0 o w).1 ≤ 1 ∧ (n_tx x l 61 0 o w).2.1 ≤ l) : Ok (fX0_tellsCourse u) (fun r => r.1 = nn (n_tx x l 61 0 o w).1 ∧ Tg r.2 u) := by
  have hl := X.2.2.1
  rw [fX0_tellsCourse]
  refine Ok_bind (e_errorAt X w o) (fun r hr => ?_)
  obtain ⟨r1, r2, r3⟩ := hr
  generalize (n_tx x l 61 0 o w).1 = g at *
  generalize (n_tx x l 61 0 o w).2.1 = a at *
  rw [r1 37 0 (by omega), X.1]
  by_cases hg : g = 1
  · obtain ⟨q1, c, v, q2, q3, q4, q5⟩ := r2 hg
    rw [q1, if_pos rfl, q5.2.1, if_neg (show ¬ nn c = (0 : Int32) from lit (j := 0) q3 (by omega) q2), q5.2.2, if_neg (fun e => by have := (mm_inj (a := v + 1) (b := 0) (by omega) (by omega)).mp e; omega), hg]
    exact Ok_some ⟨rfl, r1⟩
  · have g0 : g = 0 := by omega
    obtain ⟨q1, q2⟩ := r3 g0
    rw [q1, g0]
    by_cases ha : a = l
    · obtain ⟨c, v, q3, q4, q5, q6⟩ := q2 ha
      rw [if_pos (by rw [ha]), q5.2.1, q5.2.2]
      by_cases hc : c = 0
      · rw [if_pos (show nn c = (0 : Int32) by rw [hc]; rfl)]; exact Ok_some ⟨rfl, r1⟩
      · rw [if_neg (show ¬ nn c = (0 : Int32) from lit (j := 0) q3 (by omega) hc), if_pos ((mm_none q4).mpr (by omega))]
        exact Ok_some ⟨rfl, r1⟩
    · rw [if_neg (fun e => ha ((nn_inj (by omega) (by omega)).mp e))]
      exact Ok_some ⟨rfl, r1⟩
end
section
variable {A n l : Nat} {σ τ : x_S} {m m' : x_H} {w w' : Nat → Nat} {S K : Nat → Nat → Nat} {t x : Nat → Nat}
set_option maxRecDepth 16384 in
theorem Yc_t (Y : Yc σ w n S t K l x) (hn : n ≤ 6) {u : x_H} (h : Tg u (σ 10)) : Yc (x_sh σ 10 u) w n S t K l x := Yc_of Y hn (x_sh_ne _ _ (by omega)) (fun j j1 j2 => x_sh_ne _ _ (by omega)) (fun k i hk => by rw [x_sh_eq]; exact h k i hk)
set_option maxRecDepth 16384 in
theorem Ym_t {p g o : Nat} {w' : Nat → Nat} (M : Ym m w n S t K l x) (h : Ts m' m p g o w') : Ym m' w n S t K l x := Ym_of M (fun k i k1 k2 k3 => h.1 k i k3 (by omega)) (h.1 40 1 (by omega) (by omega)) (h.1 40 2 (by omega) (by omega))
end
set_option maxRecDepth 16384 in
theorem s_16 {A : Nat} {σ : x_S} (Y : Sy A σ) (hA : A + 1300000 ≤ 700000000) (a a2 : Int32) : Ok (gL_16 σ a a2) (Sy (A + 1300000)) := by
  obtain ⟨w, n, S, t, K, l, x, Y, M, N⟩ := Y
  obtain ⟨B, F, ⟨hn, hS⟩, hK, hx, b1, b2, b3⟩ := id N
  have hm := F.1.2.2.1.2
  have NA := Yn_up N (show A ≤ A + 1300000 by omega) hA
  have NS := Yn_save N
  have X : CX (σ 10) l x := ⟨Y.2.2.2.1, Y.2.2.2.2, hx.1, hx.2⟩
  have H : B + 600200 * l + 700000 ≤ 1000000000 := Nat.le_trans (Nat.add_le_add_right b2 700000) (by omega)
  have M0 := Ym_rf M (0 : Int32)
  have TX0 : TX (x_hu (σ 11) 40 0 (0 : Int32)) l x := ⟨M0.2.2.2.1, M0.2.2.2.2, hx.1, hx.2⟩
  have N0 := n_tx_is (x := x) (l := l) 61 B 0 l 1 w (by omega) (by omega) (by omega) F H
  refine gC_val (C := fX6_firstError σ) (M := fun m => fX7_firstError m) (σ := σ) (nn (if (n_tx x l 61 0 1 w).1 = 0 then (n_tx x l 61 0 1 w).2.1 else l)) ?_ NA ?_
  · rw [fX6_firstError]
    refine Ok_bind (e_errorAt X w 1) (fun r hr => Ok_let (fun τ3 e3 => Ok_some ⟨?_, ?_, ?_⟩))
    · show r.1 = _
      by_cases hg : (n_tx x l 61 0 1 w).1 = 0
      · rw [if_pos hg]; exact (hr.2.2 hg).1
      · rw [if_neg hg]; exact (hr.2.1 (by omega)).1
    · show Yc τ3 _ _ _ _ _ _ _
      rw [e3]; exact Yc_t Y hn hr.1
    · show τ3 11 = _
      rw [e3, x_sh_ne _ _ (by omega)]
  · show Ok (fX7_firstError (σ 11)) _
    rw [fX7_firstError]
    refine Ok_let (fun u1 e1 => ?_)
    rw [e1]
    refine Ok_bind (t_readAll TX0 M0.1 F H) (fun r hr => ?_)
    have Mr := Ym_t M0 hr
    rw [hr.2.2.1]
    by_cases hg : (n_tx x l 61 0 1 w).1 = 0
    · rw [if_pos hg, hg, if_pos (show nn 0 = (0 : Int32) from rfl)]
      exact Ok_some ⟨hr.2.1, Mr⟩
    · rw [if_neg hg, show (n_tx x l 61 0 1 w).1 = 1 by omega, if_neg (show ¬ nn 1 = (0 : Int32) from nn_one)]
      exact Ok_some ⟨Mr.2.2.2.1, Mr⟩
