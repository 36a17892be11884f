/-! ===== rows of natural numbers, and what the model's row does with them ===== -/
def nu (w : Nat → Nat) (k x : Nat) : Nat → Nat := fun j => if j = k then x else w j
set_option maxRecDepth 16384 in
theorem nu_eq1 {w : Nat → Nat} {k j x : Nat} (h : j = k) : nu w k x j = x := if_pos h
set_option maxRecDepth 16384 in
theorem nu_ne1 {w : Nat → Nat} {k j x : Nat} (h : j ≠ k) : nu w k x j = w j := if_neg h
abbrev Rv (v : x_V) (w : Nat → Nat) : Prop := ∀ i, i < 570 → v i = nn (w i)
set_option maxRecDepth 16384 in
theorem Rv_up {v : x_V} {w : Nat → Nat} (h : Rv v w) (k x : Nat) : Rv (upd v k (nn x)) (nu w k x) := by
  intro i hi
  show (if i = k then nn x else v i) = nn (if i = k then x else w i)
  by_cases e : i = k
  · rw [if_pos e, if_pos e]
  · rw [if_neg e, if_neg e]; exact h i hi
set_option maxRecDepth 16384 in
theorem nl0 : (0 : Int32) = nn 0 := rfl
set_option maxRecDepth 16384 in
theorem nl1 : (1 : Int32) = nn 1 := rfl
set_option maxRecDepth 16384 in
theorem nl2 : (2 : Int32) = nn 2 := rfl
set_option maxRecDepth 16384 in
theorem nl3 : (3 : Int32) = nn 3 := rfl
set_option maxRecDepth 16384 in
theorem nl4 : (4 : Int32) = nn 4 := rfl
set_option maxRecDepth 16384 in
theorem nl5 : (5 : Int32) = nn 5 := rfl
set_option maxRecDepth 16384 in
theorem nl6 : (6 : Int32) = nn 6 := rfl
set_option maxRecDepth 16384 in
theorem nl7 : (7 : Int32) = nn 7 := rfl
set_option maxRecDepth 16384 in
theorem nl8 : (8 : Int32) = nn 8 := rfl
set_option maxRecDepth 16384 in
theorem nl9 : (9 : Int32) = nn 9 := rfl
set_option maxRecDepth 16384 in
theorem nl10 : (10 : Int32) = nn 10 := rfl
set_option maxRecDepth 16384 in
theorem nl11 : (11 : Int32) = nn 11 := rfl
set_option maxRecDepth 16384 in
theorem nl12 : (12 : Int32) = nn 12 := rfl
set_option maxRecDepth 16384 in
theorem nl15 : (15 : Int32) = nn 15 := rfl
set_option maxRecDepth 16384 in
theorem nl16 : (16 : Int32) = nn 16 := rfl
set_option maxRecDepth 16384 in
theorem nl60 : (60 : Int32) = nn 60 := rfl
set_option maxRecDepth 16384 in
theorem nl96 : (96 : Int32) = nn 96 := rfl
set_option maxRecDepth 16384 in
theorem nl192 : (192 : Int32) = nn 192 := rfl
set_option maxRecDepth 16384 in
theorem nl552 : (552 : Int32) = nn 552 := rfl
set_option maxRecDepth 16384 in
theorem nl553 : (553 : Int32) = nn 553 := rfl
set_option maxRecDepth 16384 in
theorem nl554 : (554 : Int32) = nn 554 := rfl
set_option maxRecDepth 16384 in
theorem nl555 : (555 : Int32) = nn 555 := rfl
set_option maxRecDepth 16384 in
theorem nl556 : (556 : Int32) = nn 556 := rfl
set_option maxRecDepth 16384 in
theorem nl557 : (557 : Int32) = nn 557 := rfl
set_option maxRecDepth 16384 in
theorem nl558 : (558 : Int32) = nn 558 := rfl
set_option maxRecDepth 16384 in
theorem nl559 : (559 : Int32) = nn 559 := rfl
set_option maxRecDepth 16384 in
theorem nl560 : (560 : Int32) = nn 560 := rfl
set_option maxRecDepth 16384 in
theorem nl561 : (561 : Int32) = nn 561 := rfl
set_option maxRecDepth 16384 in
theorem nl562 : (562 : Int32) = nn 562 := rfl
set_option maxRecDepth 16384 in
theorem nl563 : (563 : Int32) = nn 563 := rfl
set_option maxRecDepth 16384 in
theorem nl570 : (570 : Int32) = nn 570 := rfl
set_option maxRecDepth 16384 in
theorem nn_in1 {a n : Nat} (h : a < n) (ha : a < 2147483648) : x_in (nn a) n ↔ True := ⟨fun _ => trivial, fun _ => nn_in ha h⟩
set_option maxRecDepth 16384 in
theorem nn_true {a b : Nat} (h : a = b) : (a = b) ↔ True := ⟨fun _ => trivial, fun _ => h⟩
set_option maxRecDepth 16384 in
theorem nn_false {a b : Nat} (h : a ≠ b) : (a = b) ↔ False := ⟨h, False.elim⟩
set_option maxRecDepth 16384 in
theorem eq_self {α : Type} (a : α) : (a = a) ↔ True := ⟨fun _ => trivial, fun _ => rfl⟩
/- a value that some row gives -/
def Ok {α : Type} (o : Option α) (P : α → Prop) : Prop := ∃ r, o = some r ∧ P r
set_option maxRecDepth 16384 in
theorem Ok_some {α : Type} {a : α} {P : α → Prop} (h : P a) : Ok (some a) P := ⟨a, rfl, h⟩
set_option maxRecDepth 16384 in
theorem Ok_bind {α β : Type} {o : Option α} {f : α → Option β} {P : β → Prop} {T : α → Prop} (h : Ok o T) (k : ∀ r, T r → Ok (f r) P) : Ok (Option.bind o f) P := by
  obtain ⟨r, rfl, h2⟩ := h
  exact k r h2
set_option maxRecDepth 16384 in
theorem Ok_let {α β : Type} {a : α} {f : α → Option β} {P : β → Prop} (k : ∀ r, r = a → Ok (f r) P) : Ok (x_let a f) P := k a rfl
set_option maxRecDepth 16384 in
theorem Ok_up {β : Type} {v : x_V} {w : Nat → Nat} {k x : Nat} {f : x_V → Option β} {P : β → Prop} (R : Rv v w) (h : ∀ v1, Rv v1 (nu w k x) → Ok (f v1) P) : Ok (x_let (upd v k (nn x)) f) P := h _ (Rv_up R k x)
set_option maxRecDepth 16384 in
theorem Ok_ite {β : Type} {c : Prop} [Decidable c] {x y : Option β} {P : β → Prop} (h1 : c → Ok x P) (h2 : ¬ c → Ok y P) : Ok (if c then x else y) P := by
  by_cases h : c
  · rw [if_pos h]; exact h1 h
  · rw [if_neg h]; exact h2 h
set_option maxRecDepth 16384 in
theorem Ok_mono {β : Type} {o : Option β} {P T : β → Prop} (h : Ok o P) (k : ∀ r, P r → T r) : Ok o T := by
  obtain ⟨r, e, h⟩ := h
  exact ⟨r, e, k r h⟩
set_option maxRecDepth 16384 in
theorem Ok_eq {β : Type} {o : Option β} {P : β → Prop} (h : Ok o P) {r : β} (e : o = some r) : P r := by
  obtain ⟨r', e', h'⟩ := h
  rw [e'] at e
  cases e
  exact h'
set_option maxRecDepth 16384 in
theorem x_let_m {β : Type} (n : Nat) (f : Int32 → β) : x_let (mm n) f = f (mm n) := rfl
set_option maxRecDepth 16384 in
theorem nneg1 : -(nn 1) = mm 0 := rfl
set_option maxRecDepth 16384 in
theorem nn_m1 (k : Nat) : nn k + mm 0 = mm k := by
  show Int32.ofNat k + (Int32.ofNat 0 - 1) = Int32.ofNat k - 1
  rw [show (Int32.ofNat 0 - 1 : Int32) = -1 from rfl, Int32.sub_eq_add_neg]
abbrev nb (c : Prop) [Decidable c] : Nat := if c then 1 else 0
set_option maxRecDepth 16384 in
theorem nn_nb0 {c : Prop} [Decidable c] : (nn (if c then 1 else 0) = nn 0) ↔ ¬ c := by
  by_cases h : c
  · rw [if_pos h]; exact ⟨fun h1 => absurd h1 (by decide), fun h1 => absurd h h1⟩
  · rw [if_neg h]; exact ⟨fun _ => h, fun _ => rfl⟩
set_option maxRecDepth 16384 in
theorem x_let_n {β : Type} (n : Nat) (f : Int32 → β) : x_let (nn n) f = f (nn n) := rfl
set_option maxRecDepth 16384 in
theorem xb_some {α β : Type} (a : α) (f : α → Option β) : Option.bind (some a) f = f a := rfl
def n_post (w : Nat → Nat) (k g r a t : Nat) : Nat → Nat :=
  let w1 := nu w 553 (w 553 + 1)
  let w2 := nu w1 (563 + k) (w (563 + k) + 1)
  if w 552 = 60 then nu w2 558 (w 558 + 1)
  else nu (nu (nu (nu (nu (nu (nu w2 (192 + 6 * w 552) k) (192 + 6 * w 552 + 1) g) (192 + 6 * w 552 + 2) r) (192 + 6 * w 552 + 3) (w 553 + 1)) (192 + 6 * w 552 + 4) a) (192 + 6 * w 552 + 5) t) 552 (w 552 + 1)
set_option maxRecDepth 16384 in
theorem v_post {v : x_V} {w : Nat → Nat} (R : Rv v w) {k g r a t : Nat} (hk : k < 7) (hm : w 552 ≤ 60) : Ok (fX7_post v (nn k) (nn g) (nn r) (nn a) (nn t)) (fun q => q.1 = nn (w 553 + 1) ∧ Rv q.2 (n_post w k g r a t)) := by
  unfold fX7_post n_post
  (try simp (disch := omega) only [nn_add, nn_mul, nn_clamp, nn_in1, nn_inj, nn_lt, nn_le, nn_neg, nu_eq1, nu_ne1, nn_nb0, nn_true, nn_false, if_true, if_false, x_let_n, x_let_m, xb_some, eq_self, ite_true, ite_false, not_false_eq_true, not_true_eq_false, nneg1, nl0, nl1, nl2, nl3, nl4, nl5, nl6, nl7, nl8, nl9, nl10, nl11, nl12, nl15, nl16, nl60, nl96, nl192, nl552, nl553, nl554, nl555, nl556, nl557, nl558, nl559, nl560, nl561, nl562, nl563, nl570, R])
  refine Ok_up R (fun v1 R1 => ?_)
  (try simp (disch := omega) only [nn_add, nn_mul, nn_clamp, nn_in1, nn_inj, nn_lt, nn_le, nn_neg, nu_eq1, nu_ne1, nn_nb0, nn_true, nn_false, if_true, if_false, x_let_n, x_let_m, xb_some, eq_self, ite_true, ite_false, not_false_eq_true, not_true_eq_false, nneg1, nl0, nl1, nl2, nl3, nl4, nl5, nl6, nl7, nl8, nl9, nl10, nl11, nl12, nl15, nl16, nl60, nl96, nl192, nl552, nl553, nl554, nl555, nl556, nl557, nl558, nl559, nl560, nl561, nl562, nl563, nl570, R1])
  refine Ok_up R1 (fun v2 R2 => ?_)
  (try simp (disch := omega) only [nn_add, nn_mul, nn_clamp, nn_in1, nn_inj, nn_lt, nn_le, nn_neg, nu_eq1, nu_ne1, nn_nb0, nn_true, nn_false, if_true, if_false, x_let_n, x_let_m, xb_some, eq_self, ite_true, ite_false, not_false_eq_true, not_true_eq_false, nneg1, nl0, nl1, nl2, nl3, nl4, nl5, nl6, nl7, nl8, nl9, nl10, nl11, nl12, nl15, nl16, nl60, nl96, nl192, nl552, nl553, nl554, nl555, nl556, nl557, nl558, nl559, nl560, nl561, nl562, nl563, nl570, R2])
  refine Ok_ite (fun c => ?_) (fun c => ?_)
  · rw [if_pos c]
    refine Ok_up R2 (fun v3 R3 => ?_)
    (try simp (disch := omega) only [nn_add, nn_mul, nn_clamp, nn_in1, nn_inj, nn_lt, nn_le, nn_neg, nu_eq1, nu_ne1, nn_nb0, nn_true, nn_false, if_true, if_false, x_let_n, x_let_m, xb_some, eq_self, ite_true, ite_false, not_false_eq_true, not_true_eq_false, nneg1, nl0, nl1, nl2, nl3, nl4, nl5, nl6, nl7, nl8, nl9, nl10, nl11, nl12, nl15, nl16, nl60, nl96, nl192, nl552, nl553, nl554, nl555, nl556, nl557, nl558, nl559, nl560, nl561, nl562, nl563, nl570, R3])
    exact Ok_some ⟨rfl, R3⟩
  · rw [if_neg c]
    refine Ok_up R2 (fun v3 R3 => ?_)
    (try simp (disch := omega) only [nn_add, nn_mul, nn_clamp, nn_in1, nn_inj, nn_lt, nn_le, nn_neg, nu_eq1, nu_ne1, nn_nb0, nn_true, nn_false, if_true, if_false, x_let_n, x_let_m, xb_some, eq_self, ite_true, ite_false, not_false_eq_true, not_true_eq_false, nneg1, nl0, nl1, nl2, nl3, nl4, nl5, nl6, nl7, nl8, nl9, nl10, nl11, nl12, nl15, nl16, nl60, nl96, nl192, nl552, nl553, nl554, nl555, nl556, nl557, nl558, nl559, nl560, nl561, nl562, nl563, nl570, R3])
    refine Ok_up R3 (fun v4 R4 => ?_)
    (try simp (disch := omega) only [nn_add, nn_mul, nn_clamp, nn_in1, nn_inj, nn_lt, nn_le, nn_neg, nu_eq1, nu_ne1, nn_nb0, nn_true, nn_false, if_true, if_false, x_let_n, x_let_m, xb_some, eq_self, ite_true, ite_false, not_false_eq_true, not_true_eq_false, nneg1, nl0, nl1, nl2, nl3, nl4, nl5, nl6, nl7, nl8, nl9, nl10, nl11, nl12, nl15, nl16, nl60, nl96, nl192, nl552, nl553, nl554, nl555, nl556, nl557, nl558, nl559, nl560, nl561, nl562, nl563, nl570, R4])
    refine Ok_up R4 (fun v5 R5 => ?_)
    (try simp (disch := omega) only [nn_add, nn_mul, nn_clamp, nn_in1, nn_inj, nn_lt, nn_le, nn_neg, nu_eq1, nu_ne1, nn_nb0, nn_true, nn_false, if_true, if_false, x_let_n, x_let_m, xb_some, eq_self, ite_true, ite_false, not_false_eq_true, not_true_eq_false, nneg1, nl0, nl1, nl2, nl3, nl4, nl5, nl6, nl7, nl8, nl9, nl10, nl11, nl12, nl15, nl16, nl60, nl96, nl192, nl552, nl553, nl554, nl555, nl556, nl557, nl558, nl559, nl560, nl561, nl562, nl563, nl570, R5])
    refine Ok_up R5 (fun v6 R6 => ?_)
    (try simp (disch := omega) only [nn_add, nn_mul, nn_clamp, nn_in1, nn_inj, nn_lt, nn_le, nn_neg, nu_eq1, nu_ne1, nn_nb0, nn_true, nn_false, if_true, if_false, x_let_n, x_let_m, xb_some, eq_self, ite_true, ite_false, not_false_eq_true, not_true_eq_false, nneg1, nl0, nl1, nl2, nl3, nl4, nl5, nl6, nl7, nl8, nl9, nl10, nl11, nl12, nl15, nl16, nl60, nl96, nl192, nl552, nl553, nl554, nl555, nl556, nl557, nl558, nl559, nl560, nl561, nl562, nl563, nl570, R6])
    refine Ok_up R6 (fun v7 R7 => ?_)
    (try simp (disch := omega) only [nn_add, nn_mul, nn_clamp, nn_in1, nn_inj, nn_lt, nn_le, nn_neg, nu_eq1, nu_ne1, nn_nb0, nn_true, nn_false, if_true, if_false, x_let_n, x_let_m, xb_some, eq_self, ite_true, ite_false, not_false_eq_true, not_true_eq_false, nneg1, nl0, nl1, nl2, nl3, nl4, nl5, nl6, nl7, nl8, nl9, nl10, nl11, nl12, nl15, nl16, nl60, nl96, nl192, nl552, nl553, nl554, nl555, nl556, nl557, nl558, nl559, nl560, nl561, nl562, nl563, nl570, R7])
    refine Ok_up R7 (fun v8 R8 => ?_)
    (try simp (disch := omega) only [nn_add, nn_mul, nn_clamp, nn_in1, nn_inj, nn_lt, nn_le, nn_neg, nu_eq1, nu_ne1, nn_nb0, nn_true, nn_false, if_true, if_false, x_let_n, x_let_m, xb_some, eq_self, ite_true, ite_false, not_false_eq_true, not_true_eq_false, nneg1, nl0, nl1, nl2, nl3, nl4, nl5, nl6, nl7, nl8, nl9, nl10, nl11, nl12, nl15, nl16, nl60, nl96, nl192, nl552, nl553, nl554, nl555, nl556, nl557, nl558, nl559, nl560, nl561, nl562, nl563, nl570, R8])
    refine Ok_up R8 (fun v9 R9 => ?_)
    (try simp (disch := omega) only [nn_add, nn_mul, nn_clamp, nn_in1, nn_inj, nn_lt, nn_le, nn_neg, nu_eq1, nu_ne1, nn_nb0, nn_true, nn_false, if_true, if_false, x_let_n, x_let_m, xb_some, eq_self, ite_true, ite_false, not_false_eq_true, not_true_eq_false, nneg1, nl0, nl1, nl2, nl3, nl4, nl5, nl6, nl7, nl8, nl9, nl10, nl11, nl12, nl15, nl16, nl60, nl96, nl192, nl552, nl553, nl554, nl555, nl556, nl557, nl558, nl559, nl560, nl561, nl562, nl563, nl570, R9])
    exact Ok_some ⟨rfl, R9⟩
