/-! ===== steps of a mirror; comparisons ===== -/
section OS
variable {α β : Type} {P : β → Prop}
set_option maxRecDepth 16384 in
theorem o_q {o : Option α} {v : α} {f : α → Option β} (h : o = some v) (k : Ok (f v) P) : Ok (Option.bind o f) P := by rw [h]; exact k
set_option maxRecDepth 16384 in
theorem o_t {c : Prop} [Decidable c] {x y : Option β} (h : c) (k : Ok x P) : Ok (if c then x else y) P := by rw [if_pos h]; exact k
set_option maxRecDepth 16384 in
theorem o_f {c : Prop} [Decidable c] {x y : Option β} (h : ¬ c) (k : Ok y P) : Ok (if c then x else y) P := by rw [if_neg h]; exact k
set_option maxRecDepth 16384 in
theorem o_l {a : α} {f : α → Option β} (k : Ok (f a) P) : Ok (x_let a f) P := k
set_option maxRecDepth 16384 in
theorem o_n {a : Int32} {n : Nat} {f : Int32 → Option β} (e : a = nn n) (k : Ok (f (nn n)) P) : Ok (x_let a f) P := by rw [e]; exact k
set_option maxRecDepth 16384 in
theorem o_L {a b : Int64} {f : Int64 → Option β} (e : a = b) (k : Ok (f b) P) : Ok (x_let a f) P := by rw [e]; exact k
end OS
section LC
variable {i j k : Nat} {c : Int64}
set_option maxRecDepth 16384 in
theorem lg_le0 (x y : Int64) : lg_cmp x y ≤ 0 ↔ x.toInt ≤ y.toInt := by
  rw [← Int32.not_lt, lg_gt0]; omega
set_option maxRecDepth 16384 in
theorem lg_ge0 (x y : Int64) : 0 ≤ lg_cmp x y ↔ y.toInt ≤ x.toInt := by
  rw [← Int32.not_lt, lg_lt0]; omega
set_option maxRecDepth 16384 in
theorem lc_lit (hc : c.toInt = k) (hi : i < 2147483648) : lg_cmp (nn i).toInt64 c = 0 ↔ i = k := by
  rw [lg_eq0, ← Int64.toInt_inj, nn_to64 hi, hc]; omega
set_option maxRecDepth 16384 in
theorem lc_nn (hi : i < 2147483648) (hj : j < 2147483648) : lg_cmp (nn i).toInt64 (nn j).toInt64 = 0 ↔ i = j := lc_lit (nn_to64 hj) hi
set_option maxRecDepth 16384 in
theorem lc_neg (hc : c.toInt < 0) (hi : i < 2147483648) : ¬ lg_cmp (nn i).toInt64 c = 0 := by
  rw [lg_eq0, ← Int64.toInt_inj, nn_to64 hi]; omega
set_option maxRecDepth 16384 in
theorem lc_le (hc : c.toInt = k) (hi : i < 2147483648) : lg_cmp (nn i).toInt64 c ≤ 0 ↔ i ≤ k := by
  rw [lg_le0, nn_to64 hi, hc]; omega
set_option maxRecDepth 16384 in
theorem lc_gt (hc : c.toInt = k) (hi : i < 2147483648) : 0 < lg_cmp (nn i).toInt64 c ↔ k < i := by
  rw [lg_gt0, nn_to64 hi, hc]; omega
set_option maxRecDepth 16384 in
theorem lc_lt (hc : c.toInt = k) (hi : i < 2147483648) : lg_cmp (nn i).toInt64 c < 0 ↔ i < k := by
  rw [lg_lt0, nn_to64 hi, hc]; omega
set_option maxRecDepth 16384 in
theorem lc_ge (hc : c.toInt = k) (hi : i < 2147483648) : 0 ≤ lg_cmp (nn i).toInt64 c ↔ k ≤ i := by
  rw [lg_ge0, nn_to64 hi, hc]; omega
set_option maxRecDepth 16384 in
theorem ll_add (h : i + j < 2147483648) : (nn i).toInt64 + (nn j).toInt64 = (nn (i + j)).toInt64 := by
  apply Int64.toInt_inj.mp
  rw [Int64.toInt_add, nn_to64 (by omega), nn_to64 (by omega), nn_to64 h, Int.bmod_eq_of_le (by omega) (by omega)]
  omega
set_option maxRecDepth 16384 in
theorem ll_sub (hj : j ≤ i) (h : i < 2147483648) : (nn i).toInt64 - (nn j).toInt64 = (nn (i - j)).toInt64 := by
  apply Int64.toInt_inj.mp
  rw [Int64.toInt_sub, nn_to64 (by omega), nn_to64 (by omega), nn_to64 (by omega), Int.bmod_eq_of_le (by omega) (by omega)]
  omega
set_option maxRecDepth 16384 in
theorem ll_32 (i : Nat) : (nn i).toInt64.toInt32 = nn i := Int32.toInt32_toInt64 _
set_option maxRecDepth 16384 in
theorem xs_neg : XS.toInt < 0 := by decide
set_option maxRecDepth 16384 in
theorem xi_neg : XI.toInt < 0 := by decide
set_option maxRecDepth 16384 in
theorem xa_neg : XA.toInt < 0 := by decide
set_option maxRecDepth 16384 in
theorem n1 (i : Nat) : nn i + (1 : Int32) = nn (i + 1) := nn_add i 1
set_option maxRecDepth 16384 in
theorem nge {a : Nat} (ha : a < 2147483648) (hi : i < 2147483648) (h : i < a) : ¬ nn a ≤ nn i := fun q => by have := (nn_le ha hi).mp q; omega
set_option maxRecDepth 16384 in
theorem nle {a : Nat} (ha : a < 2147483648) (hi : i < 2147483648) (h : a ≤ i) : nn a ≤ nn i := (nn_le ha hi).mpr h
end LC
/-! ===== what rows tell kept() ===== -/
section KP
variable {B g r : Nat} {w : Nat → Nat}
set_option maxRecDepth 16384 in
theorem has_lease (F : Wf B w) (h : Wk w) (hg : g < 12) (c : w (8 * g) = 3) : Gd w g (w (8 * g + 1)) (w (8 * g + 2) + w (8 * g + 3)) := by
  rcases h.1.1 g hg c with q | q
  · have := F.2.1.1 g hg c
    omega
  · exact q
set_option maxRecDepth 16384 in
theorem n_ls_pos {r : Nat} : ∀ R, r < R → n_has w r 2 g → 1 ≤ n_ls w g R := by
  intro R
  induction R with
  | zero => intro h; omega
  | succ R ih =>
    intro h c
    rw [n_ls]
    by_cases e : r = R
    · rw [← e, if_pos c]; omega
    · have := ih (by omega) c
      omega
set_option maxRecDepth 16384 in
theorem n_hs_le (F : Wf B w) (h : Wk w) : ∀ d, d ≤ 12 → n_hs d w ≤ n_sm w 16 d := by
  intro d
  induction d with
  | zero => intro _; exact Nat.le_refl _
  | succ d ih =>
    intro hd
    rw [n_hs, n_sm]
    have i1 := ih (by omega)
    by_cases c : w (8 * (11 - d)) = 3
    · have q := has_lease F h (g := 11 - d) (by omega) c
      have p := n_ls_pos (w := w) (g := 11 - d) 16 q.1 ⟨q.2.1, q.2.2.1⟩
      rw [if_pos c]; omega
    · rw [if_neg c]; omega
set_option maxRecDepth 16384 in
theorem housed_le (F : Wf B w) (h : Wk w) : n_hs 12 w ≤ n_cn w 2 16 := by
  rw [← n_sm_cn F.1]; exact n_hs_le F h 12 (by omega)
set_option maxRecDepth 16384 in
theorem n_hs_12 : ∀ d, n_hs d w ≤ d := by
  intro d
  induction d with
  | zero => exact Nat.le_refl _
  | succ d ih => rw [n_hs]; split <;> omega
set_option maxRecDepth 16384 in
theorem n_chl_is2 : ∀ (k low own d : Nat), n_chl w g k low own = d + 1 → (∀ e, low = e + 1 → n_can w e g) → (∀ e, own = e + 1 → n_can w e g) → n_has w d 1 g ∨ n_can w d g := by
  intro k
  induction k with
  | zero =>
    intro low own d h h1 h2
    rw [n_chl] at h
    split at h
    · exact Or.inr (h2 d h)
    · split at h
      · next c =>
        have : w (8 * g + 7) - 1 = d := by omega
        rw [← this]
        exact Or.inr c.2
      · exact Or.inr (h1 d h)
  | succ k ih =>
    intro low own d h h1 h2
    rw [n_chl] at h
    split at h
    · next c =>
      have : d = k := by omega
      subst this
      exact Or.inl c
    · refine ih _ _ d h (fun e he => ?_) (fun e he => ?_)
      · split at he
        · next c => have : e = k := by omega
                    subst this; exact c
        · exact h1 e he
      · split at he
        · next c => have : e = k := by omega
                    subst this; exact c.1
        · exact h2 e he
set_option maxRecDepth 16384 in
theorem choice_is {d : Nat} (h : n_choice w g = d + 1) : n_has w d 1 g ∨ n_can w d g := n_chl_is2 16 0 0 d h (fun e he => by omega) (fun e he => by omega)
set_option maxRecDepth 16384 in
theorem left_ask (F : Wf B w) (hg : g < 12) (c : w (8 * g) = 3) : n_ask w g ≤ w (8 * g + 2) + w (8 * g + 3) - w 554 := by
  have z := F.1.1 g hg
  unfold n_ask
  split <;> omega
set_option maxRecDepth 16384 in
theorem n_want_552a {w : Nat → Nat} (hg : g < 12) (hm : w 552 ≤ 60) : w 552 ≤ n_want w g 552 := by
  unfold n_want
  rw [nu_ne1 (by omega), nu_ne1 (by omega), n_post_many (by omega) hm]
  split <;> omega
set_option maxRecDepth 16384 in
theorem post_ge {w : Nat → Nat} {k g r a t : Nat} (hk : k < 7) (hm : w 552 ≤ 60) : w 552 ≤ n_post w k g r a t 552 := by
  rw [n_post_many hk hm]; split <;> omega
/- handling a message takes one away at the most -/
set_option maxRecDepth 16384 in
theorem n_act_552 {w : Nat → Nat} (Z : Wz w) {k g r m a t : Nat} (hk : k ≤ 6) (hg : g < 12) (hr : r < 16) : w 552 ≤ n_act w k g r m a t 552 := by
  have hm := Z.2.2.1.2
  unfold n_act
  split
  · unfold n_innSeeks
    split
    · exact Nat.le_refl _
    · have hc := n_choice_le Z hg
      have e : nu (n_settle w (n_choice w g - 1) 1 (w 554 + w 556)) (96 + 6 * (n_choice w g - 1) + 2) g 552 = w 552 := by rw [nu_ne1 (by omega), n_settle_at (by omega) (by omega)]
      have := post_ge (w := nu (n_settle w (n_choice w g - 1) 1 (w 554 + w 556)) (96 + 6 * (n_choice w g - 1) + 2) g) (k := 1) (g := g) (r := n_choice w g - 1) (a := 0) (t := 0) (by omega) (by rw [e]; exact hm)
      rw [e] at this
      exact this
  split
  · split
    · have e : nu (nu w (8 * g) 2) (8 * g + 1) r 552 = w 552 := by rw [nu_ne1 (by omega), nu_ne1 (by omega)]
      have := n_want_552a (w := nu (nu w (8 * g) 2) (8 * g + 1) r) hg (by rw [e]; exact hm)
      rw [e] at this
      exact this
    · exact Nat.le_refl _
  split
  · unfold n_innWants
    split
    · exact post_ge (by omega) hm
    · rw [nu_ne1 (by omega)]
      have e : ∀ u, nu (nu (n_settle w r 2 u) (8 * g + 7) (r + 1)) 560 (w 560 + 1) 552 = w 552 := fun u => by rw [nu_ne1 (by omega), nu_ne1 (by omega), n_settle_at (by omega) (by omega)]
      have := post_ge (w := nu (nu (n_settle w r 2 (if n_has w r 2 g ∧ w 554 + w 555 < w (96 + 6 * r + 1) then w (96 + 6 * r + 1) else w 554 + w 555)) (8 * g + 7) (r + 1)) 560 (w 560 + 1)) (k := 3) (g := g) (r := r) (a := m) (t := w 555) (by omega) (by rw [e]; exact hm)
      rw [e] at this
      exact this
  split
  · split
    · unfold n_guestYes
      split
      · rw [nu_ne1 (by omega)]; exact Nat.le_refl _
      split
      · rw [nu_ne1 (by omega)]; exact post_ge (by omega) hm
      · rw [nu_ne1 (by omega), nu_ne1 (by omega), nu_ne1 (by omega), nu_ne1 (by omega)]; exact Nat.le_refl _
    · exact Nat.le_refl _
  split
  · split
    · rw [nu_ne1 (by omega)]; exact Nat.le_refl _
    · exact Nat.le_refl _
  · unfold n_innEnds
    split
    · exact Nat.le_refl _
    · rw [nu_ne1 (by omega), n_settle_at (by omega) (by omega)]; exact Nat.le_refl _
set_option maxRecDepth 16384 in
theorem n_handle_552 {w : Nat → Nat} (Z : Wz w) {p : Nat} (hp : p < w 552) : w 552 ≤ n_handle w p 552 + 1 := by
  have z := Z.2.2.1.1 p hp
  have q := n_act_552 (m := w (192 + 6 * p + 3)) (a := w (192 + 6 * p + 4)) (t := w (192 + 6 * p + 5)) (Wz_gone Z hp) z.1 z.2.1 z.2.2.1
  rw [gone_552 Z.2.2.1.2] at q
  have : w 552 - 1 ≤ n_handle w p 552 := q
  omega
set_option maxRecDepth 16384 in
theorem n_each_552 {B : Nat} {w : Nat → Nat} (F : Wf B w) (h9 : B + 700000 ≤ 1000000000) : w 552 ≤ (n_each w).1 := by
  have H : ∀ (d B : Nat) (w : Nat → Nat), Wf B w → B + d * 1001 + 1001 ≤ 1000000000 → w 552 ≤ (n_all d w).1 + (n_all d w).2 552 := by
    intro d
    induction d with
    | zero => intro B w F h9; rw [n_all]; exact Nat.le_add_left _ _
    | succ d ih =>
      intro B w F h9
      rw [n_all]
      by_cases h0 : w 552 = 0
      · rw [if_pos h0]; omega
      · rw [if_neg h0]
        have i1 := ih (B + 1001) _ (Wf_handle F (by omega : 0 < w 552) (by omega)) (by omega)
        have i2 := n_handle_552 F.1 (by omega : 0 < w 552)
        show w 552 ≤ (n_all d (n_handle w 0)).1 + 1 + (n_all d (n_handle w 0)).2 552
        omega
  have h := H 300 B w F (by omega)
  have e := (Wf_each F (by omega)).2.1
  unfold n_each at e ⊢
  omega
end KP
