/-! ===== the whole text, read by the model ===== -/
set_option maxRecDepth 16384 in
theorem bud_g {B z a b c : Nat} (h : z + b ≤ c) (hab : a ≤ b) : B + a + z ≤ B + c := by omega
set_option maxRecDepth 16384 in
theorem bud3 {B k k' : Nat} (h : k' + 1 ≤ k) : B + 600100 + 600200 * k' ≤ B + 600200 * k :=
  bud_g (b := 600200) (Nat.le_trans (Nat.le_of_eq (Nat.mul_succ 600200 k').symm) (Nat.mul_le_mul_left 600200 h)) (Nat.le_of_ble_eq_true rfl)
set_option maxRecDepth 16384 in
theorem bud4 {B k : Nat} (h : 1 ≤ k) : B + 600100 ≤ B + 600200 * k := by
  have := bud3 (B := B) (k := k) (k' := 0) h
  exact this
set_option maxRecDepth 16384 in
theorem bud5 {B k M : Nat} (h : B + 600200 * k + 700000 ≤ M) : B + 700000 ≤ M := by
  generalize 600200 * k = z at h
  omega
set_option maxRecDepth 16384 in
theorem bud6 {B k k' M : Nat} (hk : k' + 1 ≤ k) (h : B + 600200 * k + 700000 ≤ M) : B + 600100 + 600200 * k' + 700000 ≤ M := Nat.le_trans (Nat.add_le_add_right (bud3 hk) 700000) h
set_option maxRecDepth 16384 in
theorem bud7 {B k M : Nat} (h : B + 600200 * k + 700000 ≤ M) : B + 600200 * k ≤ M := Nat.le_trans (Nat.le_add_right _ _) h
section
variable {l : Nat} {x : Nat → Nat} {u0 : x_H}
set_option maxRecDepth 16384 in
theorem n_tx_is : ∀ (d B p k o : Nat) (w : Nat → Nat), p + k = l → k < d → o ≤ 1 → Wf B w → B + 600200 * k + 700000 ≤ 1000000000 → (n_tx x l d p o w).1 ≤ 1 ∧ (n_tx x l d p o w).2.1 ≤ l ∧ (n_tx x l d p o w).2.2.1 ≤ 1 ∧ Wf (B + 600200 * k) (n_tx x l d p o w).2.2.2 ∧ ((n_tx x l d p o w).1 = 1 → (n_tx x l d p o w).2.1 = l) := by
  intro d
  induction d with
  | zero => intro B p k o w h1 h2; omega
  | succ d ih =>
    intro B p k o w h1 h2 ho F H
    obtain ⟨p1, p2, p3, p4⟩ := n_pt_is (x := x) (l := l) (p := p) (by omega)
    rw [n_tx]
    by_cases cg : (n_pt x l p).1 = 0
    · rw [if_pos cg]
      exact ⟨Nat.zero_le _, p3, ho, Wf_up F (Nat.le_add_right _ _) (bud7 H), fun h => absurd (show (0 : Nat) = 1 from h) (by decide)⟩
    · have cg1 : (n_pt x l p).1 = 1 := by omega
      obtain ⟨q1, q2, q3, q4⟩ := p4 cg1
      have E := Wf_ef F (bud5 H) q2 q4 o
      rw [if_neg cg]
      by_cases cl : (n_pt x l p).2.1 < l
      · rw [if_pos cl]
        by_cases cx : x (n_pt x l p).2.1 = 59
        · rw [if_pos cx]
          have hk : l - ((n_pt x l p).2.1 + 1) + 1 ≤ k := by omega
          obtain ⟨i1, i2, i3, i4, i5⟩ := ih (B + 600100) ((n_pt x l p).2.1 + 1) (l - ((n_pt x l p).2.1 + 1)) (n_ef o w (n_pt x l p).2.2.1 (n_pt x l p).2.2.2).1 (n_ef o w (n_pt x l p).2.2.1 (n_pt x l p).2.2.2).2 (by omega) (by omega) E.2 E.1 (bud6 hk H)
          exact ⟨i1, i2, i3, Wf_up i4 (bud3 hk) (bud7 H), i5⟩
        · rw [if_neg cx]
          exact ⟨Nat.zero_le _, p3, E.2, Wf_up E.1 (bud4 (by omega)) (bud7 H), fun h => absurd (show (0 : Nat) = 1 from h) (by decide)⟩
      · rw [if_neg cl]
        exact ⟨Nat.le_refl _, p3, E.2, Wf_up E.1 (bud4 (by omega)) (bud7 H), fun _ => by show (n_pt x l p).2.1 = l; omega⟩
set_option maxRecDepth 16384 in
theorem t_all (X : TX u0 l x) : ∀ (d N B p k o : Nat) (w : Nat → Nat) (u : x_H), p + k = l → k < d → d + 1 < N → o ≤ 1 → Wf B w → B + 600200 * k + 700000 ≤ 1000000000 → Ts u u0 p 1 o w → Ok (Option.bind (fX7_readPart u) fun r9 => fX7_readAll_b30 N r9) (fun r => Ts r u0 (n_tx x l d p o w).2.1 (n_tx x l d p o w).1 (n_tx x l d p o w).2.2.1 (n_tx x l d p o w).2.2.2) := by
  have hl := X.2.2.1
  intro d
  induction d with
  | zero => intro N B p k o w u h1 h2; omega
  | succ d ih =>
    intro N B p k o w u h1 h2 hN ho F H T
    obtain ⟨N, rfl⟩ : ∃ m, N = m + 1 := ⟨N - 1, by omega⟩
    obtain ⟨p1, p2, p3, p4⟩ := n_pt_is (x := x) (l := l) (p := p) (by omega)
    refine Ok_bind (t_part X (by omega) ho F (bud5 H) T) (fun r T1 => ?_)
    rw [n_tx, fX7_readAll_b30]
    by_cases cg : (n_pt x l p).1 = 0
    · rw [cg, n_pe_0] at T1
      rw [if_pos cg, T1.2.2.1, if_pos (show nn 0 = (0 : Int32) from rfl)]
      exact Ok_some T1
    · have cg1 : (n_pt x l p).1 = 1 := by omega
      obtain ⟨q1, q2, q3, q4⟩ := p4 cg1
      rw [cg1, n_pe_1] at T1
      have E := Wf_ef F (bud5 H) q2 q4 o
      rw [if_neg cg, T1.2.2.1, if_neg (show ¬ nn 1 = (0 : Int32) from nn_one), T1.1 40 2 (by omega) (by omega), X.1, T1.2.1]
      by_cases cl : (n_pt x l p).2.1 < l
      · rw [if_pos cl, if_neg (fun h => by have := (nn_le (by omega) (by omega)).mp h; omega), t_here X T1 p3, if_pos cl, mm_succ, xb_some]
        have xp := X.2.2.2 _ cl
        by_cases cx : x (n_pt x l p).2.1 = 59
        · have hk : l - ((n_pt x l p).2.1 + 1) + 1 ≤ k := by omega
          rw [if_pos cx, if_pos (show nn (x (n_pt x l p).2.1) = (59 : Int32) by rw [cx]; rfl)]
          refine Ok_bind (t_pass1 T1) (fun r16 T16 => ?_)
          rw [T16.2.2.1, if_neg (show ¬ nn 1 = (0 : Int32) from nn_one)]
          exact ih N (B + 600100) ((n_pt x l p).2.1 + 1) (l - ((n_pt x l p).2.1 + 1)) _ _ r16 (by omega) (by omega) (by omega) E.2 E.1 (bud6 hk H) T16
        · rw [if_neg cx, if_neg (show ¬ nn (x (n_pt x l p).2.1) = (59 : Int32) from lit (j := 59) (by omega) (by omega) cx)]
          refine Ok_bind (t_pass0 T1) (fun r21 T21 => ?_)
          obtain ⟨N, rfl⟩ : ∃ m, N = m + 1 := ⟨N - 1, by omega⟩
          rw [T21.2.2.1, if_pos (show nn 0 = (0 : Int32) from rfl), fX7_readAll_b30, T21.2.2.1, if_pos (show nn 0 = (0 : Int32) from rfl)]
          exact Ok_some T21
      · rw [if_neg cl, if_pos ((nn_le (by omega) (by omega)).mpr (by omega))]
        exact Ok_some T1
set_option maxRecDepth 16384 in
theorem t_readAll {u : x_H} {w : Nat → Nat} {B : Nat} (X : TX u l x) (R : Rv (u 41) w) (F : Wf B w) (H : B + 600200 * l + 700000 ≤ 1000000000) : Ok (fX7_readAll u) (fun r => Ts r u (n_tx x l 61 0 1 w).2.1 (n_tx x l 61 0 1 w).1 (n_tx x l 61 0 1 w).2.2.1 (n_tx x l 61 0 1 w).2.2.2) := by
  have hl := X.2.2.1
  rw [fX7_readAll]
  refine Ok_let (fun u1 e1 => Ok_let (fun u3 e3 => Ok_let (fun u5 e5 => Ok_let (fun u7 e7 => ?_))))
  have e51 : u5 41 = u 41 := by rw [e5]; show x_hs u3 40 _ 41 = _; rw [x_hs_ne _ _ (by omega), e3]; show x_hs u1 40 _ 41 = _; rw [x_hs_ne _ _ (by omega), e1]; show x_hs u 40 _ 41 = _; rw [x_hs_ne _ _ (by omega)]
  have T : Ts u7 u 0 1 1 w := by
    refine ⟨fun k i h1 h2 => ?_, ?_, ?_, ?_, ?_⟩
    · rw [e7, x_hs_ne _ _ h1, e5]
      by_cases c : k = 40
      · rw [x_hu_ni (by omega), e3, x_hu_ni (by omega), e1, x_hu_ni (by omega)]
      · rw [x_hu_ne c, e3, x_hu_ne c, e1, x_hu_ne c]
    · rw [e7, x_hs_ne _ _ (by omega), e5, x_hu_ni (by omega), e3, x_hu_ni (by omega), e1]; exact x_hu_eq rfl rfl
    · rw [e7, x_hs_ne _ _ (by omega), e5, x_hu_ni (by omega), e3]; exact x_hu_eq rfl rfl
    · rw [e7, x_hs_ne _ _ (by omega), e5]; exact x_hu_eq rfl rfl
    · rw [e7, x_hs_eq, e51]; exact R
  exact t_all X 61 400 B 0 l 1 w u7 (by omega) (by omega) (by omega) (by omega) F H T
end
