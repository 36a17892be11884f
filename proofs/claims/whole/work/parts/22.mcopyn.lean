theorem x_Met_v {l : Launch} {y : MethodName} {ws : List Cond} {rm : Room} {Pc : Array Value → State → Prop} {X : x_T} {σ τ : x_S} {sz : Nat} {A : Addr → Prop} (hn : ∀ H : Heap, va_P X.1 vwCl (wd X σ) H → va_P X.1 vwCl (wd X τ) H) (h : Met l y ws rm Pc (x_Qv X σ sz) 0 0 A) : Met l y ws rm Pc (x_Qv X τ sz) 0 0 A := by
  intro p e h1 h2 h3 s m args below hf happ hP hK
  obtain ⟨n, o, a, b, c, ⟨⟨u, d1, d2, d3⟩, d4⟩, f⟩ := h p e h1 h2 h3 s m args below hf happ hP hK
  exact ⟨n, o, a, b, c, ⟨⟨u, d1, d2, hn _ d3.1, d3.2⟩, d4⟩, f⟩
theorem x_P_norm1 {X : x_T} {σ : x_S} {H : Heap} {j k n : Nat} {u : x_H} (hc : ∀ v : x_V, x_cell X j k v = .inl (X.2.1 0, n, .inl v)) {v v' : x_V} (hv : ∀ i, i < n → v i = v' i) : va_P X.1 vwCl (wd X (x_sh σ j (x_hs u k v))) H → va_P X.1 vwCl (wd X (x_sh σ j (x_hs u k v'))) H := by
  refine x_norm (fun q hq a h => ?_)
  obtain ⟨q1, q2⟩ := q
  by_cases h1 : q1 = j
  · subst h1
    by_cases h2 : q2 = k
    · subst h2
      simp only [x_sh_eq, x_hs_eq, hc] at h ⊢
      show H[a]? = some _
      rw [← x_arr_congr hv]
      exact h
    · simp only [x_sh_eq, x_hs_ne _ _ h2] at h ⊢
      exact h
  · simp only [x_sh_ne _ _ h1] at h ⊢
    exact h
theorem fX7_copy_spec {k0 k1 : Nat} (hne : k0 ≠ k1) : ∀ (d c n : Nat) (u : x_H), c + d = 570 → d < n → fX7_copy_b2 k0 k1 n u (nI c) = some (x_hs u k1 (fun i => if c ≤ i ∧ i < 570 then u k0 i else u k1 i)) := by
  intro d
  induction d with
  | zero =>
    intro c n u hc hn
    obtain ⟨n, rfl⟩ : ∃ q, n = q + 1 := ⟨n - 1, by omega⟩
    have hc' : c = 570 := by omega
    subst hc'
    rw [fX7_copy_b2, if_pos (show (570 : Int32) ≤ nI 570 by decide)]
    congr 1
    have e : (fun i => if 570 ≤ i ∧ i < 570 then u k0 i else u k1 i) = u k1 := by
      funext i
      rw [if_neg (by omega)]
    rw [e, x_hs_self]
  | succ d ih =>
    intro c n u hc hn
    obtain ⟨n, rfl⟩ : ∃ q, n = q + 1 := ⟨n - 1, by omega⟩
    have hlt : c < 570 := by omega
    have h570 : (570 : Int32) = nI 570 := by decide
    rw [fX7_copy_b2, if_neg (by rw [h570]; exact nI_ge hlt (by decide)), if_pos (nI_in hlt (by decide))]
    simp only [x_let]
    rw [nI_1, nI_clamp (by omega), ih (c + 1) n _ (by omega) (by omega)]
    congr 1
    have e0 : x_hu u k1 c (u k0 c) k0 = u k0 := x_hs_ne _ _ hne
    have e1 : x_hu u k1 c (u k0 c) k1 = upd (u k1) c (u k0 c) := x_hs_eq _ _ _
    rw [e0, e1]
    unfold x_hu
    rw [x_hs_hs]
    congr 1
    funext i
    by_cases hi : i = c
    · subst hi
      rw [if_neg (by omega), if_pos (by omega)]
      simp [upd]
    · by_cases h2 : c ≤ i ∧ i < 570
      · rw [if_pos (by omega), if_pos h2]
      · rw [if_neg (by omega), if_neg h2]
        simp [upd, hi]
set_option maxRecDepth 100000 in
theorem mX7_copyN (l : Launch) (X : x_T) (σ : x_S) (k0 k1 : Nat) (hk0 : (11, k0) ∈ x_ids) (hk1 : (11, k1) ∈ x_ids) (hc0 : ∀ v : x_V, x_cell X 11 k0 v = .inl (X.2.1 0, 570, .inl v)) (hc1 : ∀ v : x_V, x_cell X 11 k1 v = .inl (X.2.1 0, 570, .inl v)) (hne : k0 ≠ k1) (sz : Nat) (u : x_H) : Met l yX7_copy (x_ws yX7_copy cX7_copy 3 none) rm_X7_copy (x_Pc X (x_sh σ 11 u) sz [.ref (X.2.2 11 k0), .ref (X.2.2 11 k1)]) (x_Qv X (x_sh σ 11 (x_hs u k1 (u k0))) sz) 0 0 (x_A X sz) := by
  have h : fX7_copy u k0 k1 = some (x_hs u k1 (fun i => if 0 ≤ i ∧ i < 570 then u k0 i else u k1 i)) := by
    unfold fX7_copy
    exact fX7_copy_spec hne 570 0 4000 u (by omega) (by omega)
  refine x_Met_v (fun H => x_P_norm1 hc1 (fun i hi => ?_)) (mX7_copy l X σ k0 hk0 hc0 k1 hk1 hc1 sz u _ h)
  rw [if_pos ⟨Nat.zero_le _, hi⟩]
