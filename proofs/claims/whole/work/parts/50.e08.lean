/- what holds between calls beside: leases, offers and shuttings that haven't run out -/
def Wx (w : Nat → Nat) : Prop := (∀ g, g < 12 → w (8 * g) = 3 → w 554 < w (8 * g + 2) + w (8 * g + 3)) ∧ (∀ r, r < 16 → w (96 + 6 * r) ≠ 0 → w 554 < w (96 + 6 * r + 1))
set_option maxRecDepth 16384 in
theorem Wx_lo {w w' : Nat → Nat} (h : Wx w) (h1 : ∀ i, i < 192 → w' i = w i) (h2 : w' 554 = w 554) : Wx w' := by
  refine ⟨fun g hg => ?_, fun r hr => ?_⟩
  · rw [h2, h1 _ (by omega), h1 _ (by omega), h1 _ (by omega)]; exact h.1 g hg
  · rw [h2, h1 _ (by omega), h1 _ (by omega)]; exact h.2 r hr
set_option maxRecDepth 16384 in
theorem Wx_post {w : Nat → Nat} {k g r a t : Nat} (h : Wx w) (hk : k < 7) (hm : w 552 ≤ 60) : Wx (n_post w k g r a t) := Wx_lo h (fun i hi => n_post_lo hk hm hi) (n_post_hi hk hm (by omega) (by omega) (by omega))
set_option maxRecDepth 16384 in
theorem Wx_g {w : Nat → Nat} (h : Wx w) {g j x : Nat} (hg : g < 12) (hj : j < 8) (hx : (j = 0 → x ≠ 3) ∧ j ≠ 2 ∧ j ≠ 3) : Wx (nu w (8 * g + j) x) := by
  refine ⟨fun g' hg' => ?_, fun r hr => ?_⟩
  · rw [nu_ne1 (show (554 : Nat) ≠ _ by omega), nu_ne1 (show 8 * g' + 2 ≠ _ by omega), nu_ne1 (show 8 * g' + 3 ≠ _ by omega)]
    unfold nu
    split
    · intro h3; omega
    · exact h.1 g' hg'
  · rw [nu_ne1 (by omega), nu_ne1 (by omega), nu_ne1 (by omega)]; exact h.2 r hr
set_option maxRecDepth 16384 in
theorem Wx_settle {w : Nat → Nat} (h : Wx w) {r s u : Nat} (hr : r < 16) (hu : s ≠ 0 → w 554 < u) : Wx (n_settle w r s u) := by
  unfold n_settle
  refine ⟨fun g' hg' => ?_, fun r' hr' => ?_⟩
  · rw [nu_ne1 (by omega), nu_ne1 (by omega), nu_ne1 (by omega), nu_ne1 (by omega), nu_ne1 (by omega), nu_ne1 (by omega), nu_ne1 (by omega), nu_ne1 (by omega)]
    exact h.1 g' hg'
  · rw [nu_ne1 (show (554 : Nat) ≠ _ by omega), nu_ne1 (show (554 : Nat) ≠ _ by omega), nu_ne1 (show 96 + 6 * r' ≠ 96 + 6 * r + 1 by omega)]
    unfold nu
    by_cases c : r' = r
    · subst c
      simp only [if_true, if_pos rfl, if_neg (show ¬ 96 + 6 * r' + 1 = 96 + 6 * r' by omega)]
      exact hu
    · rw [if_neg (by omega), if_neg (by omega), if_neg (by omega)]
      exact h.2 r' hr'
set_option maxRecDepth 16384 in
theorem Wx_o {w : Nat → Nat} (h : Wx w) {k x : Nat} (hk : (96 ≤ k ∧ k < 192 ∧ k % 6 ≠ 0 ∧ k % 6 ≠ 1) ∨ (192 ≤ k ∧ k ≠ 554)) : Wx (nu w k x) := by
  refine ⟨fun g' hg' => ?_, fun r' hr' => ?_⟩
  · rw [nu_ne1 (by omega), nu_ne1 (by omega), nu_ne1 (by omega), nu_ne1 (by omega)]
    exact h.1 g' hg'
  · rw [nu_ne1 (by omega), nu_ne1 (by omega), nu_ne1 (by omega)]
    exact h.2 r' hr'
set_option maxRecDepth 16384 in
theorem n_chl_off {w : Nat → Nat} {g q : Nat} (hq : q < 16) (h : n_has w q 1 g) (hu : ∀ r', r' < 16 → n_has w r' 1 g → r' = q) : ∀ (k low own : Nat), q < k → k ≤ 16 → n_chl w g k low own = q + 1 := by
  intro k
  induction k with
  | zero => intro low own h1 h2; omega
  | succ k ih =>
    intro low own h1 h2
    rw [n_chl]
    by_cases c : w (96 + 6 * k) = 1 ∧ w (96 + 6 * k + 2) = g
    · rw [if_pos c, hu k (by omega) c]
    · rw [if_neg c]
      refine ih _ _ ?_ (by omega)
      have : k ≠ q := fun e => c (by rw [e]; exact h)
      omega
set_option maxRecDepth 16384 in
theorem n_choice_off {w : Nat → Nat} {g q : Nat} (Z : Wz w) (hq : q < 16) (h : n_has w q 1 g) : n_choice w g = q + 1 := n_chl_off hq h (fun r' hr' h' => Z.2.1.2.2 r' q hr' hq h'.1 h.1 (h'.2.trans h.2.symm)) 16 0 0 hq (by omega)
/- the room that is offered is free, or offered to that guest -/
set_option maxRecDepth 16384 in
theorem n_chl_is {w : Nat → Nat} {g : Nat} : ∀ (k low own d : Nat), n_chl w g k low own = d + 1 → (∀ e, low = e + 1 → w (96 + 6 * e) = 0) → (∀ e, own = e + 1 → w (96 + 6 * e) = 0) → n_has w d 1 g ∨ w (96 + 6 * d) = 0 := by
  intro k
  induction k with
  | zero =>
    intro low own d h h1 h2
    rw [n_chl] at h
    split at h
    · exact Or.inr (h2 d h)
    · split at h
      · next c =>
        have : w (8 * g + 7) - 1 = d := by omega
        rw [← this]
        exact Or.inr c.2.1
      · exact Or.inr (h1 d h)
  | succ k ih =>
    intro low own d h h1 h2
    rw [n_chl] at h
    split at h
    · next c =>
      have : d = k := by omega
      subst this
      exact Or.inl c
    · refine ih _ _ d h (fun e he => ?_) (fun e he => ?_)
      · split at he
        · next c => have : e = k := by omega
                    subst this; exact c.1
        · exact h1 e he
      · split at he
        · next c => have : e = k := by omega
                    subst this; exact c.1.1
        · exact h2 e he
set_option maxRecDepth 16384 in
theorem n_choice_is {w : Nat → Nat} {g d : Nat} (h : n_choice w g = d + 1) : n_has w d 1 g ∨ w (96 + 6 * d) = 0 := n_chl_is 16 0 0 d h (fun e he => by omega) (fun e he => by omega)
/- sizes, leases that go on, counts: all that a row keeps -/
def Wf (B : Nat) (w : Nat → Nat) : Prop := Wz w ∧ Wx w ∧ Wb B w
set_option maxRecDepth 16384 in
theorem n_settle_at {w : Nat → Nat} {r s u i : Nat} (h : i ≠ 96 + 6 * r) (h1 : i ≠ 96 + 6 * r + 1) : n_settle w r s u i = w i := by
  unfold n_settle
  rw [nu_ne1 h1, nu_ne1 h]
set_option maxRecDepth 16384 in
theorem Wb_settle {B : Nat} {w : Nat → Nat} (hB : Wb B w) {r s u : Nat} (hs : s ≤ B) (hu : u ≤ B) : Wb B (n_settle w r s u) := Wb_nu (Wb_nu hB hs) hu
set_option maxRecDepth 16384 in
theorem Wf_want {B : Nat} {w : Nat → Nat} (F : Wf B w) {g : Nat} (hg : g < 12) (h9 : B + 500 ≤ 1000000000) : Wf (B + 500) (n_want w g) := by
  obtain ⟨Z, X, hB⟩ := F
  have hm := Z.2.2.1.2
  have zg := Z.1 g hg
  have e3 := n_post_no (w := w) (k := 2) (g := g) (r := w (8 * g + 1)) (a := 0) (t := 0) (by omega) hm
  have e4 := n_post_hi (w := w) (k := 2) (g := g) (r := w (8 * g + 1)) (a := 0) (t := 0) (by omega) hm (i := 554) (by omega) (by omega) (by omega)
  have b3 := hB.2 553
  have b4 := hB.2 554
  have hB2 := Wb_up hB (B' := B + 499) (by omega) (by omega)
  unfold n_want
  refine ⟨?_, ?_, ?_⟩
  · refine Wz_g (Wz_g (Wz_post Z (by omega) hg zg.2.1 (by omega) (by omega)) hg (by omega) (by rw [e3]; omega)) hg (by omega) ?_
    rw [nu_ne1 (by omega), e4]
    omega
  · exact Wx_g (Wx_g (Wx_post X (by omega) hm) hg (by omega) (by omega)) hg (by omega) (by omega)
  · exact Wb_nu (Wb_nu (Wb_post hB2 (by omega) hm (by omega) (by omega) (by omega) (by omega) (by omega)) (by omega)) (by omega)
set_option maxRecDepth 16384 in
theorem Wf_innSeeks {B : Nat} {w : Nat → Nat} (F : Wf B w) {g : Nat} (hg : g < 12) (h9 : B + 1000 ≤ 1000000000) : Wf (B + 1000) (n_innSeeks w g) := by
  obtain ⟨Z, X, hB⟩ := id F
  unfold n_innSeeks
  split
  · exact ⟨Z, X, Wb_up hB (by omega) h9⟩
  · next c =>
    obtain ⟨d, hd⟩ : ∃ d, n_choice w g = d + 1 := ⟨n_choice w g - 1, by omega⟩
    have hc := n_choice_le Z hg
    rw [hd, Nat.add_sub_cancel]
    have hm := Z.2.2.1.2
    have hn := Z.2.2.2
    unfold WzN at hn
    have b4 := hB.2 554
    have b6 := hB.2 556
    have Z1 := Wz_r (r := d) (s := 1) (u := w 554 + w 556) (g := g) Z (by omega) (by omega) (by omega) hg (fun _ r' hr' h1 h2 => by
      have := n_choice_off Z hr' ⟨h1, h2⟩
      omega)
    have m2 : nu (n_settle w d 1 (w 554 + w 556)) (96 + 6 * d + 2) g 552 = w 552 := by rw [nu_ne1 (by omega), n_settle_at (by omega) (by omega)]
    have m3 : nu (n_settle w d 1 (w 554 + w 556)) (96 + 6 * d + 2) g 553 = w 553 := by rw [nu_ne1 (by omega), n_settle_at (by omega) (by omega)]
    refine ⟨Wz_post Z1 (by omega) hg (by omega) (by omega) (by omega), Wx_post (Wx_o (Wx_settle X (by omega) (by omega)) (by omega)) (by omega) (by rw [m2]; exact hm), ?_⟩
    have hB2 := Wb_up hB (B' := B + 999) (by omega) (by omega)
    exact Wb_post (Wb_nu (Wb_settle hB2 (by omega) (by omega)) (by omega)) h9 (by rw [m2]; exact hm) (by omega) (by omega) (by omega) (by omega) (by omega)
set_option maxRecDepth 16384 in
theorem Wf_innWants {B : Nat} {w : Nat → Nat} (F : Wf B w) {g r m : Nat} (hg : g < 12) (hr : r < 16) (hmm : m ≤ w 553) (h9 : B + 1000 ≤ 1000000000) : Wf (B + 1000) (n_innWants w g r m) := by
  obtain ⟨Z, X, hB⟩ := id F
  have hm := Z.2.2.1.2
  have hn := Z.2.2.2
  unfold WzN at hn
  have b3 := hB.2 553
  have b4 := hB.2 554
  have b6 := hB.2 560
  have zr := Z.2.1.1 r hr
  have hB2 := Wb_up hB (B' := B + 999) (by omega) (by omega)
  unfold n_innWants
  split
  · exact ⟨Wz_post Z (by omega) hg hr (by omega) (by omega), Wx_post X (by omega) hm, Wb_post hB2 h9 hm (by omega) (by omega) (by omega) (by omega) (by omega)⟩
  · obtain ⟨u, hu⟩ : ∃ u, u = (if n_has w r 2 g ∧ w 554 + w 555 < w (96 + 6 * r + 1) then w (96 + 6 * r + 1) else w 554 + w 555) := ⟨_, rfl⟩
    rw [← hu]
    have hu1 : u ≤ w 554 + 200 ∧ w 554 < u := by split at hu <;> omega
    have S : ∀ i, i ≠ 96 + 6 * r → i ≠ 96 + 6 * r + 1 → i ≠ 8 * g + 7 → i ≠ 560 → nu (nu (n_settle w r 2 u) (8 * g + 7) (r + 1)) 560 (w 560 + 1) i = w i := fun i h1 h2 h3 h4 => by rw [nu_ne1 h4, nu_ne1 h3, n_settle_at h1 h2]
    have S2 := S 552 (by omega) (by omega) (by omega) (by omega)
    have S3 := S 553 (by omega) (by omega) (by omega) (by omega)
    have Z1 := Wz_c (k := 560) (x := w 560 + 1) (Wz_g (g := g) (j := 7) (x := r + 1) (Wz_settle Z (u := u) hr (s := 2) (by omega) (by omega) (by omega)) hg (by omega) (by omega)) (by omega)
    have X1 := Wx_o (k := 560) (x := w 560 + 1) (Wx_g (g := g) (j := 7) (x := r + 1) (Wx_settle X (u := u) hr (s := 2) (by omega)) hg (by omega) (by omega)) (by omega)
    have B1 : Wb (B + 999) (nu (nu (n_settle w r 2 u) (8 * g + 7) (r + 1)) 560 (w 560 + 1)) := Wb_nu (Wb_nu (Wb_settle hB2 (by omega) (by omega)) (by omega)) (by omega)
    have P3 := n_post_no (w := nu (nu (n_settle w r 2 u) (8 * g + 7) (r + 1)) 560 (w 560 + 1)) (k := 3) (g := g) (r := r) (a := m) (t := w 555) (by omega) (by rw [S2]; exact hm)
    refine ⟨Wz_y (Wz_post Z1 (by omega) hg hr (by rw [S3]; omega) (by omega)) hr (by rw [P3, S3]; omega), Wx_o (Wx_post X1 (by omega) (by rw [S2]; exact hm)) (by omega), Wb_nu (Wb_post B1 h9 (by rw [S2]; exact hm) (by omega) (by omega) (by omega) (by omega) (by omega)) (by omega)⟩
set_option maxRecDepth 16384 in
theorem Wf_innEnds {B : Nat} {w : Nat → Nat} (F : Wf B w) {k g r m : Nat} (hr : r < 16) (h9 : B + 1000 ≤ 1000000000) : Wf (B + 1000) (n_innEnds w k g r m) := by
  obtain ⟨Z, X, hB⟩ := id F
  have hn := Z.2.2.2
  unfold WzN at hn
  have b4 := hB.2 554
  have b6 := hB.2 562
  have hB2 := Wb_up hB (B' := B + 1000) (by omega) (by omega)
  unfold n_innEnds
  split
  · exact ⟨Z, X, Wb_up hB (by omega) h9⟩
  · refine ⟨Wz_c (Wz_settle Z hr (by split <;> omega) (by omega) (by split <;> omega)) (by omega), Wx_o (Wx_settle X hr (by omega)) (by omega), Wb_nu (Wb_settle hB2 (by split <;> omega) (by omega)) (by split <;> omega)⟩
set_option maxRecDepth 16384 in
theorem Wf_guestYes {B : Nat} {w : Nat → Nat} (F : Wf B w) {g r t : Nat} (hg : g < 12) (hr : r < 16) (ht : t ≤ 200) (h9 : B + 1000 ≤ 1000000000) : Wf (B + 1000) (n_guestYes w g r t) := by
  obtain ⟨Z, X, hB⟩ := id F
  have hm := Z.2.2.1.2
  have b4 := hB.2 (8 * g + 5)
  have b6 := hB.2 (8 * g + 6)
  have zg := Z.1 g hg
  have hB2 := Wb_up hB (B' := B + 1000) (by omega) (by omega)
  have hB3 := Wb_up hB (B' := B + 999) (by omega) (by omega)
  unfold n_guestYes
  split
  · exact ⟨Wz_g (j := 0) Z hg (by omega) (by omega), Wx_g (j := 0) X hg (by omega) (by omega), Wb_nu hB2 (by omega)⟩
  · next c1 =>
    split
    · exact ⟨Wz_g (j := 0) (Wz_post Z (by omega) hg hr (by omega) (by omega)) hg (by omega) (by omega), Wx_g (j := 0) (Wx_post X (by omega) hm) hg (by omega) (by omega), Wb_nu (Wb_post hB3 h9 hm (by omega) (by omega) (by omega) (by omega) (by omega)) (by omega)⟩
    · refine ⟨?_, ?_, ?_⟩
      · refine Wz_g (j := 3) (Wz_g (j := 2) (Wz_g (j := 0) (Wz_g (j := 6) Z hg (by omega) (by omega)) hg (by omega) (by omega)) hg (by omega) ?_) hg (by omega) (by omega)
        rw [nu_ne1 (by omega), nu_ne1 (by omega)]
        omega
      · refine ⟨fun g' hg' => ?_, fun r' hr' => ?_⟩
        · by_cases c : g' = g
          · subst c
            intro _
            rw [nu_ne1 (show (554 : Nat) ≠ _ by omega), nu_ne1 (show (554 : Nat) ≠ _ by omega), nu_ne1 (show (554 : Nat) ≠ _ by omega), nu_ne1 (show (554 : Nat) ≠ _ by omega), nu_ne1 (show 8 * g' + 2 ≠ 8 * g' + 3 by omega), nu_eq1 (show 8 * g' + 2 = 8 * g' + 2 by rfl), nu_eq1 (show 8 * g' + 3 = 8 * g' + 3 by rfl)]
            omega
          · rw [nu_ne1 (by omega), nu_ne1 (by omega), nu_ne1 (by omega), nu_ne1 (by omega), nu_ne1 (by omega), nu_ne1 (by omega), nu_ne1 (by omega), nu_ne1 (by omega), nu_ne1 (by omega), nu_ne1 (by omega), nu_ne1 (by omega), nu_ne1 (by omega), nu_ne1 (by omega), nu_ne1 (by omega), nu_ne1 (by omega), nu_ne1 (by omega)]
            exact X.1 g' hg'
        · rw [nu_ne1 (by omega), nu_ne1 (by omega), nu_ne1 (by omega), nu_ne1 (by omega), nu_ne1 (by omega), nu_ne1 (by omega), nu_ne1 (by omega), nu_ne1 (by omega), nu_ne1 (by omega), nu_ne1 (by omega), nu_ne1 (by omega), nu_ne1 (by omega)]
          exact X.2 r' hr'
      · exact Wb_nu (Wb_nu (Wb_nu (Wb_nu hB2 (by split <;> omega)) (by omega)) (by omega)) (by omega)
set_option maxRecDepth 16384 in
theorem Wf_act {B : Nat} {w : Nat → Nat} (F : Wf B w) {k g r m a t : Nat} (hg : g < 12) (hr : r < 16) (hm : m ≤ w 553) (ht : t ≤ 200) (h9 : B + 1000 ≤ 1000000000) : Wf (B + 1000) (n_act w k g r m a t) := by
  have F1 : Wf (B + 1000) w := ⟨F.1, F.2.1, Wb_up F.2.2 (by omega) h9⟩
  unfold n_act
  split
  · exact Wf_innSeeks F hg h9
  · split
    · split
      · have F2 : Wf (B + 16) (nu (nu w (8 * g) 2) (8 * g + 1) r) := ⟨Wz_g (j := 1) (Wz_g (j := 0) F.1 hg (by omega) (by omega)) hg (by omega) (by omega), Wx_g (j := 1) (Wx_g (j := 0) F.2.1 hg (by omega) (by omega)) hg (by omega) (by omega), Wb_nu (Wb_nu (Wb_up F.2.2 (by omega) (by omega)) (by omega)) (by omega)⟩
        have F3 := Wf_want F2 hg (by omega)
        exact ⟨F3.1, F3.2.1, Wb_up F3.2.2 (by omega) h9⟩
      · exact F1
    · split
      · exact Wf_innWants F hg hr hm h9
      · split
        · split
          · exact Wf_guestYes F hg hr ht h9
          · exact F1
        · split
          · split
            · exact ⟨Wz_g (j := 0) F.1 hg (by omega) (by omega), Wx_g (j := 0) F.2.1 hg (by omega) (by omega), Wb_nu F1.2.2 (by omega)⟩
            · exact F1
          · exact Wf_innEnds F hr h9
