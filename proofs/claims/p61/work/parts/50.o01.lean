/-! ===== what a call answers, and what becomes of the inn, depends on the inn's state alone ===== -/
def Ys : Type := (Nat → Nat) × Nat × (Nat → Nat → Nat) × (Nat → Nat) × (Nat → Nat → Nat) × Nat × (Nat → Nat)
def Ym (w : Nat → Nat) (n : Nat) (S : Nat → Nat → Nat) (t : Nat → Nat) (K : Nat → Nat → Nat) (l : Nat) (x : Nat → Nat) : Ys := (w, n, S, t, K, l, x)
abbrev Ys.w (s : Ys) : Nat → Nat := s.1
abbrev Ys.n (s : Ys) : Nat := s.2.1
abbrev Ys.S (s : Ys) : Nat → Nat → Nat := s.2.2.1
abbrev Ys.t (s : Ys) : Nat → Nat := s.2.2.2.1
abbrev Ys.K (s : Ys) : Nat → Nat → Nat := s.2.2.2.2.1
abbrev Ys.l (s : Ys) : Nat := s.2.2.2.2.2.1
abbrev Ys.x (s : Ys) : Nat → Nat := s.2.2.2.2.2.2
abbrev Yd (σ : x_S) (s : Ys) : Prop := Yc σ s.w s.n s.S s.t s.K s.l s.x
def Yi (B : Nat) (s : Ys) : Prop := Wi B s.w ∧ (s.n ≤ 6 ∧ ∀ i, i < s.n → Wi B (s.S i)) ∧ (∀ i, i < 2 → s.t i ≤ 1 ∧ (s.t i = 1 → Wi B (s.K i))) ∧ (s.l ≤ 60 ∧ ∀ i, i < s.l → 33 ≤ s.x i ∧ s.x i ≤ 126)
def Dt {α : Type} (s : Ys) (f : x_S → Option (α × x_S)) (Q : α → Ys → Prop) : Prop := ∃ y s', Q y s' ∧ ∀ σ, Yd σ s → Ok (f σ) (fun r => r.1 = y ∧ Yd r.2 s')
def DI (B L : Nat) {α : Type} : α → Ys → Prop := fun _ s' => Yi B s' ∧ s'.l ≤ L
section DT
variable {α β : Type} {B B' L : Nat} {s : Ys}
set_option maxRecDepth 16384 in
theorem Yi_up (h : Yi B s) (h1 : B ≤ B') (h9 : B' ≤ 1000000000) : Yi B' s := ⟨Wi_up h.1 h1 h9, ⟨h.2.1.1, fun i hi => Wi_up (h.2.1.2 i hi) h1 h9⟩, fun i hi => ⟨(h.2.2.1 i hi).1, fun e => Wi_up ((h.2.2.1 i hi).2 e) h1 h9⟩, h.2.2.2⟩
set_option maxRecDepth 16384 in
theorem Yi_push {w' : Nat → Nat} (h : Yi B s) (h1 : B ≤ B') (h9 : B' ≤ 1000000000) (W : Wi B' w') : Yi B' (Ym w' (n_sn s.n) (n_sS s.w s.n s.S) s.t s.K s.l s.x) := by
  have h := Yi_up h h1 h9
  refine ⟨W, ⟨n_sn_le h.2.1.1, fun i hi => ?_⟩, h.2.2.1, h.2.2.2⟩
  have hi : i < n_sn s.n := hi
  show Wi B' (n_sS s.w s.n s.S i)
  unfold n_sn at hi
  unfold n_sS
  have hn := h.2.1.1
  by_cases c : s.n = 6
  · rw [if_pos c] at hi ⊢
    by_cases c2 : i < 5
    · rw [if_pos c2]; exact h.2.1.2 _ (by omega)
    · rw [if_neg c2]; exact h.1
  · rw [if_neg c] at hi ⊢
    by_cases c2 : i = s.n
    · rw [if_pos c2]; exact h.1
    · rw [if_neg c2]; exact h.2.1.2 _ (by omega)
set_option maxRecDepth 16384 in
theorem Dt_mono {f : x_S → Option (α × x_S)} {Q Q' : α → Ys → Prop} (h : Dt s f Q) (k : ∀ y s', Q y s' → Q' y s') : Dt s f Q' := by
  obtain ⟨y, s', q, e⟩ := h
  exact ⟨y, s', k _ _ q, e⟩
set_option maxRecDepth 16384 in
theorem Dt_bind {f : x_S → Option (α × x_S)} {g : α × x_S → Option (β × x_S)} {Q : α → Ys → Prop} {Q' : β → Ys → Prop} (h : Dt s f Q) (k : ∀ y s', Q y s' → Dt s' (fun σ => g (y, σ)) Q') : Dt s (fun σ => Option.bind (f σ) g) Q' := by
  obtain ⟨y, s', q, e⟩ := h
  obtain ⟨y2, s2, q2, e2⟩ := k y s' q
  refine ⟨y2, s2, q2, fun σ Y => Ok_bind (e σ Y) (fun r hr => ?_)⟩
  obtain ⟨a, b⟩ := r
  obtain ⟨h1, h2⟩ := hr
  cases h1
  exact e2 b h2
set_option maxRecDepth 16384 in
theorem Dt_q {f : x_S → Option α} {v : α} {g : α → x_S → Option (β × x_S)} {Q : β → Ys → Prop} (h : ∀ σ, Yd σ s → f σ = some v) (k : Dt s (fun σ => g v σ) Q) : Dt s (fun σ => Option.bind (f σ) (fun r => g r σ)) Q := by
  obtain ⟨y, s', q, e⟩ := k
  refine ⟨y, s', q, fun σ Y => ?_⟩
  show Ok (Option.bind (f σ) _) _
  rw [h σ Y]
  exact e σ Y
set_option maxRecDepth 16384 in
theorem Dt_some {y : α} {Q : α → Ys → Prop} (h : Q y s) : Dt s (fun σ => some (y, σ)) Q := ⟨y, s, h, fun σ Y => Ok_some ⟨rfl, Y⟩⟩
set_option maxRecDepth 16384 in
theorem Dt_w {f : x_S → Option (α × x_S)} {Q : α → Ys → Prop} (h : Dt s f Q) : Dt s (fun σ => Option.bind (f σ) fun r => some (r.1, r.2)) Q := Dt_bind h (fun _ _ q => Dt_some q)
set_option maxRecDepth 16384 in
theorem Dt_ite {c : Prop} {d : x_S → Decidable c} {f g : x_S → Option (α × x_S)} {Q : α → Ys → Prop} (h1 : c → Dt s f Q) (h2 : ¬ c → Dt s g Q) : Dt s (fun σ => @ite _ c (d σ) (f σ) (g σ)) Q := by
  by_cases h : c
  · obtain ⟨y, s', q, e⟩ := h1 h
    exact ⟨y, s', q, fun σ Y => by show Ok (@ite _ c (d σ) _ _) _; rw [if_pos h]; exact e σ Y⟩
  · obtain ⟨y, s', q, e⟩ := h2 h
    exact ⟨y, s', q, fun σ Y => by show Ok (@ite _ c (d σ) _ _) _; rw [if_neg h]; exact e σ Y⟩
set_option maxRecDepth 16384 in
theorem D_same {f : x_S → Option (α × x_S)} {y : α} (I : Yi B s) (h1 : B ≤ B') (h9 : B' ≤ 1000000000) (h : ∀ σ, Yd σ s → f σ = some (y, σ)) : Dt s f (DI B' s.l) := ⟨y, s, ⟨Yi_up I h1 h9, Nat.le_refl _⟩, fun σ Y => ⟨_, h σ Y, rfl, Y⟩⟩
set_option maxRecDepth 16384 in
theorem D_push {f : x_S → Option (α × x_S)} {y : α} {w' : Nat → Nat} (I : Yi B s) (h1 : B ≤ B') (h9 : B' ≤ 1000000000) (W : Wi B' w') (h : ∀ σ, Yd σ s → Ok (f σ) (fun r => r.1 = y ∧ Yc r.2 w' (n_sn s.n) (n_sS s.w s.n s.S) s.t s.K s.l s.x)) : Dt s f (DI B' s.l) := ⟨y, (Ym w' (n_sn s.n) (n_sS s.w s.n s.S) s.t s.K s.l s.x), ⟨Yi_push I h1 h9 W, Nat.le_refl _⟩, h⟩
end DT
section DC
variable {B : Nat} {s : Ys}
set_option maxRecDepth 16384 in
theorem D_seek (I : Yi B s) (h9 : B + 700000 ≤ 1000000000) (a : Int32) : Dt s (fun σ => fL_seek σ a) (DI (B + 700000) s.l) := by
  rcases a_guest a with h | ⟨g, hg, e⟩
  · exact D_same I (by omega) h9 (fun σ Y => x_seek h)
  · rw [e]
    by_cases c : s.w (8 * g) = 0
    · exact D_push I (by omega) h9 ⟨Wf_up (Wf_seek I.1.1 hg (by omega)) (by omega) h9, Wk_seek I.1.1.1 I.1.2 hg⟩ (fun σ Y => c_seek Y I.1.1 I.2.1.1 h9 (pos_B I.1.1) hg c)
    · exact D_same I (by omega) h9 (fun σ Y => s_seek Y.1 I.1.1.1 hg c)
set_option maxRecDepth 16384 in
theorem D_leave (I : Yi B s) (h9 : B + 700000 ≤ 1000000000) (a : Int32) : Dt s (fun σ => fL_leave σ a) (DI (B + 700000) s.l) := by
  rcases a_guest a with h | ⟨g, hg, e⟩
  · exact D_same I (by omega) h9 (fun σ Y => x_leave h)
  · rw [e]
    by_cases c : s.w (8 * g) = 3
    · exact D_push I (by omega) h9 ⟨Wf_up (Wf_leave I.1.1 hg (by omega)) (by omega) h9, Wk_leave I.1.1.1 I.1.2 hg⟩ (fun σ Y => c_leave Y I.1.1 I.2.1.1 hg c)
    · exact D_same I (by omega) h9 (fun σ Y => s_leave Y.1 I.1.1.1 hg c)
set_option maxRecDepth 16384 in
theorem D_giveUp (I : Yi B s) (h9 : B + 700000 ≤ 1000000000) (a : Int32) : Dt s (fun σ => fL_giveUp σ a) (DI (B + 700000) s.l) := by
  rcases a_guest a with h | ⟨g, hg, e⟩
  · exact D_same I (by omega) h9 (fun σ Y => x_giveUp h)
  · rw [e]
    by_cases c : 1 ≤ s.w (8 * g) ∧ s.w (8 * g) ≤ 2
    · exact D_push I (by omega) h9 ⟨Wf_up (Wf_rest I.1.1 hg (by omega)) (by omega) h9, Wk_rest I.1.1.1 I.1.2 hg⟩ (fun σ Y => c_giveUp Y I.1.1 I.2.1.1 hg c)
    · exact D_same I (by omega) h9 (fun σ Y => s_giveUp Y.1 I.1.1.1 hg c)
set_option maxRecDepth 16384 in
theorem D_renew (I : Yi B s) (h9 : B + 700000 ≤ 1000000000) (a : Int32) : Dt s (fun σ => fL_renew σ a) (DI (B + 700000) s.l) := by
  rcases a_guest a with h | ⟨g, hg, e⟩
  · exact D_same I (by omega) h9 (fun σ Y => x_renew h)
  · rw [e]
    by_cases c : s.w (8 * g) = 3
    · exact D_push I (by omega) h9 ⟨Wf_up (Wf_want I.1.1 hg (by omega)) (by omega) h9, Wk_want I.1.1.1 I.1.2 hg⟩ (fun σ Y => c_renew Y I.1.1 I.2.1.1 hg c)
    · exact D_same I (by omega) h9 (fun σ Y => s_renew Y.1 I.1.1.1 hg c)
set_option maxRecDepth 16384 in
theorem D_reserve (I : Yi B s) (h9 : B + 700000 ≤ 1000000000) (a b : Int32) : Dt s (fun σ => fL_reserve σ a b) (DI (B + 700000) s.l) := by
  rcases a_guest a with h | ⟨g, hg, e⟩
  · exact D_same I (by omega) h9 (fun σ Y => x_reserve h)
  · rw [e]
    rcases a_room b with h | ⟨r, hr, e2⟩
    · exact D_same I (by omega) h9 (fun σ Y => x_reserve2 hg h)
    · rw [e2]
      by_cases c : s.w (96 + 6 * r + 4) = 0
      · exact D_push I (by omega) h9 ⟨Wf_up (Wf_resv I.1.1 hg hr (by omega)) (by omega) h9, Wk_resv I.1.1.1 I.1.2 hg hr⟩ (fun σ Y => c_reserve Y I.1.1 I.2.1.1 hg hr c)
      · exact D_same I (by omega) h9 (fun σ Y => s_reserve Y.1 I.1.1.1 hg hr c)
set_option maxRecDepth 16384 in
theorem D_unreserve (I : Yi B s) (h9 : B + 700000 ≤ 1000000000) (a : Int32) : Dt s (fun σ => fL_unreserve σ a) (DI (B + 700000) s.l) := by
  rcases a_guest a with h | ⟨g, hg, e⟩
  · exact D_same I (by omega) h9 (fun σ Y => x_unreserve h)
  · rw [e]
    rcases n_res_is (w := s.w) (g := g) 16 (by omega) with ⟨c, -⟩ | ⟨r, c, hr, -⟩
    · exact D_same I (by omega) h9 (fun σ Y => s_unreserve Y.1 I.1.1.1 hg c)
    · exact D_push I (by omega) h9 ⟨Wf_up (Wf_drop I.1.1 hg) (by omega) h9, Wk_drop I.1.1.1 I.1.2⟩ (fun σ Y => c_unreserve Y I.1.1 I.2.1.1 hg hr c)
set_option maxRecDepth 16384 in
theorem D_turnGhost (I : Yi B s) (h9 : B + 700000 ≤ 1000000000) (a : Int32) : Dt s (fun σ => fL_turnGhost σ a) (DI (B + 700000) s.l) := by
  rcases a_room a with h | ⟨r, hr, e⟩
  · exact D_same I (by omega) h9 (fun σ Y => x_turnGhost h)
  · rw [e]
    exact D_push I (by omega) h9 ⟨Wf_up (Wf_tog I.1.1 hr (pos_B I.1.1)) (by omega) h9, Wk_tog I.1.1.1 I.1.2 hr⟩ (fun σ Y => c_turnGhost Y I.1.1 I.2.1.1 hr)
set_option maxRecDepth 16384 in
theorem D_changeLease (I : Yi B s) (h9 : B + 700000 ≤ 1000000000) (a : Int32) : Dt s (fun σ => fL_changeLease σ a) (DI (B + 700000) s.l) := by
  rcases a_range (p := 8) (m := 200) (by omega) (by omega) a with h | ⟨g, g1, g2, e, h1, h2⟩
  · exact D_same I (by omega) h9 (fun σ Y => x_changeLease h)
  · rw [e]
    exact D_push I (by omega) h9 ⟨Wf_up (Wf_chg I.1.1 (k := 555) (y := g) (by omega) (by omega) (by omega)) (by omega) h9, Wk_chg I.1.1.1 I.1.2 (by omega)⟩ (fun σ Y => c_changeLease Y I.1.1.1.2.2.1.2 I.2.1.1 h1 h2)
set_option maxRecDepth 16384 in
theorem D_changeHold (I : Yi B s) (h9 : B + 700000 ≤ 1000000000) (a : Int32) : Dt s (fun σ => fL_changeHold σ a) (DI (B + 700000) s.l) := by
  rcases a_range (p := 1) (m := 50) (by omega) (by omega) a with h | ⟨g, g1, g2, e, h1, h2⟩
  · exact D_same I (by omega) h9 (fun σ Y => x_changeHold h)
  · rw [e]
    exact D_push I (by omega) h9 ⟨Wf_up (Wf_chg I.1.1 (k := 556) (y := g) (by omega) (by omega) (by omega)) (by omega) h9, Wk_chg I.1.1.1 I.1.2 (by omega)⟩ (fun σ Y => c_changeHold Y I.1.1.1.2.2.1.2 I.2.1.1 h1 h2)
set_option maxRecDepth 16384 in
theorem D_changeShut (I : Yi B s) (h9 : B + 700000 ≤ 1000000000) (a : Int32) : Dt s (fun σ => fL_changeShut σ a) (DI (B + 700000) s.l) := by
  rcases a_range (p := 1) (m := 200) (by omega) (by omega) a with h | ⟨g, g1, g2, e, h1, h2⟩
  · exact D_same I (by omega) h9 (fun σ Y => x_changeShut h)
  · rw [e]
    exact D_push I (by omega) h9 ⟨Wf_up (Wf_chg I.1.1 (k := 557) (y := g) (by omega) (by omega) (by omega)) (by omega) h9, Wk_chg I.1.1.1 I.1.2 (by omega)⟩ (fun σ Y => c_changeShut Y I.1.1.1.2.2.1.2 I.2.1.1 h1 h2)
set_option maxRecDepth 16384 in
theorem a_at {m : Nat} (hm : m ≤ 60) (a : Int32) : (∀ u : x_H, u 3 0 = nn m → fX4_hasPlace u a = some 0) ∨ ∃ p, p < m ∧ a = nn p := by
  by_cases c : ∃ p, p < m ∧ a = nn p
  · exact Or.inr c
  · refine Or.inl (fun u h3 => ?_)
    rcases a_place h3 hm a with h | ⟨p, hp, e, -⟩
    · exact h
    · exact absurd ⟨p, hp, e⟩ c
set_option maxRecDepth 16384 in
theorem D_deliver (I : Yi B s) (h9 : B + 700000 ≤ 1000000000) (a : Int32) : Dt s (fun σ => fL_deliver σ a) (DI (B + 700000) s.l) := by
  rcases a_at I.1.1.1.2.2.1.2 a with h | ⟨p, hp, e⟩
  · exact D_same I (by omega) h9 (fun σ Y => x_deliver (h _ Y.1.2.2.2.2.1.1))
  · rw [e]
    exact D_push I (by omega) h9 ⟨Wf_up (Wf_handle I.1.1 hp (by omega)) (by omega) h9, Wk_handle I.1.1.1 I.1.2 hp⟩ (fun σ Y => c_deliver Y I.1.1 I.2.1.1 h9 hp)
set_option maxRecDepth 16384 in
theorem D_lose (I : Yi B s) (h9 : B + 700000 ≤ 1000000000) (a : Int32) : Dt s (fun σ => fL_lose σ a) (DI (B + 700000) s.l) := by
  rcases a_at I.1.1.1.2.2.1.2 a with h | ⟨p, hp, e⟩
  · exact D_same I (by omega) h9 (fun σ Y => x_lose (h _ Y.1.2.2.2.2.1.1))
  · rw [e]
    exact D_push I (by omega) h9 ⟨Wf_up (Wf_lose I.1.1 hp (by omega)) (by omega) h9, Wk_lose I.1.1.1 I.1.2 hp⟩ (fun σ Y => c_lose Y I.1.1 I.2.1.1 hp)
set_option maxRecDepth 16384 in
theorem D_tick (I : Yi B s) (h9 : B + 700000 ≤ 1000000000) (a : Int32) : Dt s (fun σ => fL_tick σ a) (DI (B + 700000) s.l) := by
  rcases a_range (p := 1) (m := 100) (by omega) (by omega) a with h | ⟨g, g1, g2, e, h1, h2⟩
  · exact D_same I (by omega) h9 (fun σ Y => x_tick h)
  · rw [e]
    exact D_push I (by omega) h9 ⟨Wf_up (Wf_go I.1.1 g2 (by omega)).1 (by omega) h9, Wk_go g B _ I.1.1 (by omega) I.1.2⟩ (fun σ Y => c_tick Y I.1.1 I.2.1.1 h9 g2 h1 h2)
set_option maxRecDepth 16384 in
theorem D_deliverAll (I : Yi B s) (h9 : B + 700000 ≤ 1000000000) : Dt s (fun σ => fX6_deliverAll σ) (DI (B + 700000) s.l) := by
  refine D_push I (by omega) h9 ⟨Wf_up (Wf_each I.1.1 (by omega)).1 (by omega) h9, ?_⟩ (fun σ Y => c_deliverAll Y I.1.1 I.2.1.1 h9)
  have q := Wk_all 300 B _ I.1.1 (by omega) I.1.2
  unfold n_each
  exact q
set_option maxRecDepth 16384 in
theorem D_keep (I : Yi B s) (h9 : B + 700000 ≤ 1000000000) (a : Int32) : Dt s (fun σ => fL_keep σ a) (DI (B + 700000) s.l) := by
  rcases a_slot a with h | ⟨i, hi, e, h1, h2⟩
  · exact D_same I (by omega) h9 (fun σ Y => x_keep h)
  · rw [e]
    have J := Yi_up I (show B ≤ B + 700000 by omega) h9
    refine ⟨_, Ym s.w s.n s.S (nu s.t i 1) (fun j => if j = i then s.w else s.K j) s.l s.x, ⟨⟨J.1, J.2.1, fun j hj => ?_, J.2.2.2⟩, Nat.le_refl _⟩, fun σ Y => c_keep Y I.2.1.1 hi h1 h2⟩
    show nu s.t i 1 j ≤ 1 ∧ (nu s.t i 1 j = 1 → Wi (B + 700000) (if j = i then s.w else s.K j))
    by_cases c : j = i
    · rw [nu_eq1 c, if_pos c]; exact ⟨Nat.le_refl _, fun _ => J.1⟩
    · rw [nu_ne1 c, if_neg c]; exact J.2.2.1 j hj
set_option maxRecDepth 16384 in
theorem D_goBack (I : Yi B s) (h9 : B + 700000 ≤ 1000000000) (a : Int32) : Dt s (fun σ => fL_goBack σ a) (DI (B + 700000) s.l) := by
  rcases a_slot a with h | ⟨i, hi, e, h1, h2⟩
  · exact D_same I (by omega) h9 (fun σ Y => x_goBack h)
  · rw [e]
    have J := I.2.2.1 i hi
    by_cases c : s.t i = 1
    · exact D_push I (by omega) h9 (Wi_up (J.2 c) (by omega) h9) (fun σ Y => c_goBack Y I.2.1.1 hi c h1 h2)
    · exact D_same I (by omega) h9 (fun σ Y => s_goBack Y.2.2.1 hi (by omega) ⟨h1, h2⟩)
set_option maxRecDepth 16384 in
theorem D_undo (I : Yi B s) (h9 : B + 700000 ≤ 1000000000) : Dt s (fun σ => fL_undo σ) (DI (B + 700000) s.l) := by
  have J := Yi_up I (show B ≤ B + 700000 by omega) h9
  have hn := I.2.1.1
  by_cases c : s.n = 0
  · exact D_same I (by omega) h9 (fun σ Y => s_undo Y.2.1 c)
  · exact ⟨_, Ym (s.S (s.n - 1)) (s.n - 1) s.S s.t s.K s.l s.x, ⟨⟨J.2.1.2 _ (by omega), ⟨show s.n - 1 ≤ 6 by omega, fun i hi => J.2.1.2 i (by have : i < s.n - 1 := hi; omega)⟩, J.2.2.1, J.2.2.2⟩, Nat.le_refl _⟩, fun σ Y => c_undo Y I.2.1.1 c⟩
set_option maxRecDepth 16384 in
theorem D_append (I : Yi B s) (h9 : B ≤ 1000000000) (a : Int32) : Dt s (fun σ => fL_append σ a) (DI B (s.l + 1)) := by
  have hl := I.2.2.2.1
  rcases a_range (p := 33) (m := 126) (by omega) (by omega) a with h | ⟨g, g1, g2, e, h1, h2⟩
  · exact Dt_mono (D_same I (Nat.le_refl _) h9 (fun σ Y => x_append h)) (fun y s' q => ⟨q.1, by have := q.2; omega⟩)
  · rw [e]
    by_cases c : s.l = 60
    · exact Dt_mono (D_same I (Nat.le_refl _) h9 (fun σ Y => s_append Y.2.2.2 c h1 h2)) (fun y s' q => ⟨q.1, by have := q.2; omega⟩)
    · refine ⟨_, Ym s.w s.n s.S s.t s.K (s.l + 1) (nu s.x s.l g), ⟨⟨I.1, I.2.1, I.2.2.1, show s.l + 1 ≤ 60 by omega, fun i hi => ?_⟩, Nat.le_refl _⟩, fun σ Y => c_append Y I.2.1.1 (by omega) (by omega) h1 h2⟩
      have hi : i < s.l + 1 := hi
      show 33 ≤ nu s.x s.l g i ∧ nu s.x s.l g i ≤ 126
      by_cases c2 : i = s.l
      · rw [nu_eq1 c2]; exact ⟨g1, g2⟩
      · rw [nu_ne1 c2]; exact I.2.2.2.2 i (by omega)
set_option maxRecDepth 16384 in
theorem D_clear (I : Yi B s) : Dt s (fun σ => fX6_clearBuffer σ) (DI B 0) := ⟨_, Ym s.w s.n s.S s.t s.K 0 s.x, ⟨⟨I.1, I.2.1, I.2.2.1, Nat.zero_le _, fun i hi => absurd hi (Nat.not_lt_zero i)⟩, Nat.le_refl _⟩, fun σ Y => c_clear Y I.2.1.1⟩
set_option maxRecDepth 16384 in
theorem D_play (I : Yi B s) (h9 : B + 13000000 ≤ 1000000000) (hl : s.l ≤ 20) : Dt s (fun σ => fL_play σ) (DI (B + 13000000) 60) := by
  have H : B + 600200 * s.l + 700000 ≤ 1000000000 := by omega
  have P := fun (σ : x_S) (Y : Yd σ s) => c_play Y I.2.1.1 I.1.1 I.2.2.2 H
  obtain ⟨N1, N2, N3, N4, N5⟩ := n_tx_is (x := s.x) (l := s.l) 61 B 0 s.l 1 s.w (by omega) (by omega) (by omega) I.1.1 H
  have N6 := Wk_tx (x := s.x) (l := s.l) 61 B 0 s.l 1 s.w (by omega) (by omega) I.1.1 H I.1.2
  have J := Yi_up I (show B ≤ B + 13000000 by omega) h9
  by_cases c0 : (n_tx s.x s.l 61 0 1 s.w).1 = 0
  · exact ⟨_, s, ⟨J, I.2.2.2.1⟩, fun σ Y => Ok_mono (P σ Y) (fun r hr => hr.1 c0)⟩
  · have c1 : (n_tx s.x s.l 61 0 1 s.w).1 = 1 := by omega
    by_cases o0 : (n_tx s.x s.l 61 0 1 s.w).2.2.1 = 0
    · exact ⟨_, s, ⟨J, I.2.2.2.1⟩, fun σ Y => Ok_mono (P σ Y) (fun r hr => hr.2.1 c1 o0)⟩
    · have W : Wi (B + 13000000) (n_tx s.x s.l 61 0 1 s.w).2.2.2 := ⟨Wf_up N4 (by omega) h9, N6⟩
      have J2 := Yi_push I (show B ≤ B + 13000000 by omega) h9 W
      exact ⟨_, Ym (n_tx s.x s.l 61 0 1 s.w).2.2.2 (n_sn s.n) (n_sS s.w s.n s.S) s.t s.K 0 s.x, ⟨⟨J2.1, J2.2.1, J2.2.2.1, Nat.zero_le _, fun i hi => absurd hi (Nat.not_lt_zero i)⟩, Nat.zero_le _⟩, fun σ Y => Ok_mono (P σ Y) (fun r hr => hr.2.2 c1 (by omega))⟩
set_option maxRecDepth 16384 in
theorem D_digits (I : Yi B s) (h9 : B ≤ 1000000000) (a : Int32) : Dt s (fun σ => fL_digits σ a) (DI B (s.l + 2)) := by
  have J : ∀ s, Yi B s → Dt s (fun σ => fL_digits_j22 σ a) (DI B (s.l + 1)) := by
    intro s I
    unfold fL_digits_j22
    refine Dt_bind (f := fun σ => fL_append σ _) (D_append I h9 _) (fun y s' q => ?_)
    dsimp only
    exact Dt_ite (fun _ => Dt_some q) (fun _ => Dt_some q)
  unfold fL_digits
  refine Dt_ite (fun _ => Dt_mono (J s I) (fun y s' q => ⟨q.1, by have := q.2; omega⟩)) (fun _ => ?_)
  refine Dt_bind (f := fun σ => fL_append σ _) (D_append I h9 _) (fun y s' q => ?_)
  dsimp only
  refine Dt_ite (fun _ => Dt_some ⟨q.1, by have := q.2; omega⟩) (fun _ => Dt_mono (J s' q.1) (fun y s2 q2 => ⟨q2.1, by have := q.2; have := q2.2; omega⟩))
section TD
variable {k15 : x_S → Int32 → Int32 → Int32 → Option (Int64 × x_S)} {Q : Int64 → Ys → Prop} {y1 y4 y5 : Int32} {k L : Nat}
set_option maxRecDepth 16384 in
theorem D_j147 (I : Yi B s) (h9 : B ≤ 1000000000) (hL : s.l + 2 ≤ L) (hk : ∀ s' y2, Yi B s' → s'.l ≤ L → Dt s' (fun σ => k15 σ y1 y2 (nn (k + 1))) Q) (z : Int32) : Dt s (fun σ => fL_told_j147 k15 σ y1 (nn k) z) Q := by
  unfold fL_told_j147
  refine Dt_bind (f := fun σ => fL_digits σ _) (D_digits I h9 _) (fun y s' q => ?_)
  dsimp only
  have e : nn k + (1 : Int32) = nn (k + 1) := nn_add k 1
  have q2 := q.2
  unfold x_let
  rw [e]
  exact Dt_ite (fun _ => hk s' 0 q.1 (by omega)) (fun _ => hk s' 1 q.1 (by omega))
set_option maxRecDepth 16384 in
theorem D_j89 (I : Yi B s) (h9 : B ≤ 1000000000) (hL : s.l + 3 ≤ L) (hk : ∀ s' y2, Yi B s' → s'.l ≤ L → Dt s' (fun σ => k15 σ y1 y2 (nn (k + 1))) Q) (z : Int32) : Dt s (fun σ => fL_told_j89 k15 σ y1 (nn k) y4 y5 z) Q := by
  unfold fL_told_j89
  refine Dt_bind (f := fun σ => fL_append σ _) (D_append I h9 _) (fun y s' q => ?_)
  dsimp only
  have e : nn k + (1 : Int32) = nn (k + 1) := nn_add k 1
  have q2 := q.2
  unfold x_let
  rw [e]
  have J := fun z => D_j147 (L := L) q.1 h9 (by omega) hk z
  exact Dt_ite (fun _ => hk s' 0 q.1 (by omega)) (fun _ => Dt_ite (fun _ => J _) (fun _ => Dt_ite (fun _ => Dt_ite (fun _ => J _) (fun _ => J _)) (fun _ => J _)))
set_option maxRecDepth 16384 in
theorem D_j54 (I : Yi B s) (h9 : B ≤ 1000000000) (hL : s.l + 3 ≤ L) (hk : ∀ s' y2, Yi B s' → s'.l ≤ L → Dt s' (fun σ => k15 σ y1 y2 (nn (k + 1))) Q) : Dt s (fun σ => fL_told_j54 k15 σ y1 (nn k) y4 y5) Q := by
  unfold fL_told_j54
  have J := fun z => D_j89 (y4 := y4) (y5 := y5) I h9 hL hk z
  exact Dt_ite (fun _ => J _) (fun _ => Dt_ite (fun _ => Dt_ite (fun _ => J _) (fun _ => J _)) (fun _ => J _))
end TD
set_option maxRecDepth 16384 in
theorem D_b15 {a : Nat} (ha : a < 2147483648) (h9 : B + 13000000 ≤ 1000000000) : ∀ m k, k + m = 6 → k ≤ 1 + a % 5 → ∀ s y2, Yi B s → s.l ≤ 4 * k → Dt s (fun σ => fL_told_b15 m σ (nn a) y2 (nn k)) (DI (B + 13000000) 60) := by
  have hx : a % 5 < 5 := Nat.mod_lt _ (by omega)
  have e1 : (1 : Int32) + (nn a - nn a / (5 : Int32) * (5 : Int32)) = nn (1 + a % 5) := by rw [show nn a - nn a / (5 : Int32) * (5 : Int32) = nn (a % 5) from nmod (b := 5) ha (by omega) (by omega)]; exact nn_add 1 _
  intro m
  induction m with
  | zero => intro k hk hk2; omega
  | succ m ih =>
    intro k hk hk2 s y2 I hl
    have e2 : nn k + (1 : Int32) = nn (k + 1) := nn_add k 1
    have X : ∀ s', Yi B s' → s'.l ≤ 60 → Dt s' (fun σ => some ((-1 : Int64), σ)) (DI (B + 13000000) 60) := fun s' I' _ => Dt_some ⟨Yi_up I' (by omega) h9, I'.2.2.2.1⟩
    unfold fL_told_b15
    unfold x_let
    rw [e1, e2]
    refine Dt_ite (fun _ => Dt_ite (fun _ => X s I I.2.2.2.1) (fun _ => Dt_w (D_play I h9 (by omega)))) (fun c => Dt_ite (fun _ => X s I I.2.2.2.1) (fun _ => ?_))
    have c2 : k < 1 + a % 5 := Decidable.byContradiction (fun h => c ((nn_le (a := 1 + a % 5) (b := k) (by omega) (by omega)).mpr (by omega)))
    have J : ∀ s', Yi B s' → s'.l + 3 ≤ 4 * (k + 1) → ∀ y4 y5, Dt s' (fun σ => fL_told_j54 (fL_told_b15 m) σ (nn a) (nn k) y4 y5) (DI (B + 13000000) 60) := fun s' I' hl' y4 y5 => D_j54 (L := 4 * (k + 1)) I' (by omega) hl' (fun s2 y2 I2 hl2 => ih (k + 1) (by omega) (by omega) s2 y2 I2 hl2)
    refine Dt_ite (fun _ => J s I (by omega) _ _) (fun _ => ?_)
    refine Dt_bind (f := fun σ => fL_append σ _) (D_append I (by omega) _) (fun y s' q => ?_)
    dsimp only
    have q2 := q.2
    exact Dt_ite (fun _ => ih (k + 1) (by omega) (by omega) s' _ q.1 (by omega)) (fun _ => J s' q.1 (by omega) _ _)
set_option maxRecDepth 16384 in
theorem D_told {a : Nat} (I : Yi B s) (ha : a < 2147483648) (h9 : B + 13000000 ≤ 1000000000) : Dt s (fun σ => fL_told σ (nn a)) (DI (B + 13000000) 60) := by
  unfold fL_told
  refine Dt_bind (f := fun σ => fX6_clearBuffer σ) (D_clear I) (fun y s' q => ?_)
  dsimp only
  have J := fun y2 => D_b15 ha h9 6 0 (by omega) (by omega) s' y2 q.1 (by have := q.2; omega)
  exact Dt_ite (fun _ => J _) (fun _ => J _)
set_option maxRecDepth 16384 in
theorem D_act {a b : Nat} (I : Yi B s) (ha : a < 2147483648) (hb : b < 2147483648) (h9 : B + 13000000 ≤ 1000000000) : Dt s (fun σ => fL_act σ (nn a) (nn b)) (DI (B + 13000000) 60) := by
  have e4 : nn b / (12 : Int32) = nn (b / 12) := nn_div (b := 12) hb (by omega) (by omega)
  have U : ∀ {f : x_S → Option (Int64 × x_S)}, Dt s f (DI (B + 700000) s.l) → Dt s (fun σ => Option.bind (f σ) fun r => some (r.1, r.2)) (DI (B + 13000000) 60) := fun h => Dt_w (Dt_mono h (fun y s' q => ⟨Yi_up q.1 (by omega) h9, by have := q.2; have := I.2.2.2.1; omega⟩))
  have J : ∀ z y3, Dt s (fun σ => fL_act_j42 σ (nn a) (nn b) y3 (nn (b / 12)) z) (DI (B + 13000000) 60) := by
    intro z y3
    have h8 : B + 700000 ≤ 1000000000 := by omega
    have DA : Dt s (fun σ => Option.bind (fX6_deliverAll σ) fun r => some ((r.1).toInt64, r.2)) (DI (B + 13000000) 60) := Dt_bind (f := fun σ => fX6_deliverAll σ) (D_deliverAll I h8) (fun y s' q => Dt_some (y := y.toInt64) (Q := DI (B + 13000000) 60) ⟨Yi_up q.1 (by omega) h9, by have := q.2; have := I.2.2.2.1; omega⟩)
    unfold fL_act_j42
    refine Dt_ite (fun _ => U (D_seek I h8 _)) (fun _ => ?_)
    refine Dt_ite (fun _ => U (D_seek I h8 _)) (fun _ => ?_)
    refine Dt_ite (fun _ => U (D_seek I h8 _)) (fun _ => ?_)
    refine Dt_ite (fun _ => U (D_seek I h8 _)) (fun _ => ?_)
    refine Dt_ite (fun _ => Dt_ite (fun _ => U (D_leave I h8 _)) (fun _ => U (D_giveUp I h8 _))) (fun _ => ?_)
    refine Dt_ite (fun _ => U (D_renew I h8 _)) (fun _ => ?_)
    refine Dt_ite (fun _ => Dt_ite (fun _ => U (D_unreserve I h8 _)) (fun _ => U (D_reserve I h8 _ _))) (fun _ => ?_)
    refine Dt_ite (fun _ => U (D_turnGhost I h8 _)) (fun _ => ?_)
    refine Dt_ite (fun _ => Dt_ite (fun _ => U (D_changeLease I h8 _)) (fun _ => Dt_ite (fun _ => U (D_changeHold I h8 _)) (fun _ => U (D_changeShut I h8 _)))) (fun _ => ?_)
    refine Dt_ite (fun _ => U (D_deliver I h8 _)) (fun _ => ?_)
    refine Dt_ite (fun _ => U (D_deliver I h8 _)) (fun _ => ?_)
    refine Dt_ite (fun _ => U (D_deliver I h8 _)) (fun _ => ?_)
    refine Dt_ite (fun _ => U (D_deliver I h8 _)) (fun _ => ?_)
    refine Dt_ite (fun _ => U (D_deliver I h8 _)) (fun _ => ?_)
    refine Dt_ite (fun _ => U (D_lose I h8 _)) (fun _ => ?_)
    refine Dt_ite (fun _ => DA) (fun _ => ?_)
    refine Dt_ite (fun _ => DA) (fun _ => ?_)
    refine Dt_ite (fun _ => Dt_ite (fun _ => U (D_tick I h8 _)) (fun _ => U (D_tick I h8 _))) (fun _ => ?_)
    refine Dt_ite (fun _ => Dt_ite (fun _ => U (D_tick I h8 _)) (fun _ => U (D_tick I h8 _))) (fun _ => ?_)
    refine Dt_ite (fun _ => Dt_w (D_told I (by omega) h9)) (fun _ => ?_)
    refine Dt_ite (fun _ => U (D_undo I h8)) (fun _ => ?_)
    refine Dt_ite (fun _ => U (D_undo I h8)) (fun _ => ?_)
    refine Dt_ite (fun _ => Dt_ite (fun _ => U (D_keep I h8 _)) (fun _ => U (D_goBack I h8 _))) (fun _ => ?_)
    exact U (D_seek I h8 _)
  unfold fL_act
  unfold x_let
  rw [e4]
  refine Dt_q (f := fun σ => fX6_messages σ) (fun σ Y => q_messages Y.1) ?_
  exact Dt_ite (fun _ => J _ _) (fun h => Dt_ite (fun _ => by simp only [if_pos h]; exact J _ _) (fun _ => J _ _))
end DC
