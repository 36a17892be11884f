def nn (n : Nat) : Int32 := Int32.ofNat n
def mm (n : Nat) : Int32 := Int32.ofNat n - 1
set_option maxRecDepth 16384 in
theorem nn_toInt {n : Nat} (h : n < 2147483648) : (nn n).toInt = (n : Int) := Int32.toInt_ofNat_of_lt h
set_option maxRecDepth 16384 in
theorem nn_clamp {n : Nat} (h : n < 2147483648) : (nn n).toNatClampNeg = n := by
  show (nn n).toInt.toNat = n
  rw [nn_toInt h]; rfl
set_option maxRecDepth 16384 in
theorem nn_add (a b : Nat) : nn a + nn b = nn (a + b) := (Int32.ofNat_add a b).symm
set_option maxRecDepth 16384 in
theorem nn_mul (a b : Nat) : nn a * nn b = nn (a * b) := (Int32.ofNat_mul a b).symm
set_option maxRecDepth 16384 in
theorem nn_sub {a b : Nat} (h : b ≤ a) : nn a - nn b = nn (a - b) := by
  have : nn a = nn (a - b) + nn b := by rw [nn_add, Nat.sub_add_cancel h]
  rw [this, Int32.add_sub_cancel]
set_option maxRecDepth 16384 in
theorem nn_inj {a b : Nat} (ha : a < 2147483648) (hb : b < 2147483648) : nn a = nn b ↔ a = b := by
  constructor
  · intro h
    have h1 := congrArg Int32.toInt h
    rw [nn_toInt ha, nn_toInt hb] at h1
    omega
  · intro h; rw [h]
set_option maxRecDepth 16384 in
theorem nn_lt {a b : Nat} (ha : a < 2147483648) (hb : b < 2147483648) : nn a < nn b ↔ a < b := by
  rw [Int32.lt_iff_toInt_lt, nn_toInt ha, nn_toInt hb]; omega
set_option maxRecDepth 16384 in
theorem nn_le {a b : Nat} (ha : a < 2147483648) (hb : b < 2147483648) : nn a ≤ nn b ↔ a ≤ b := by
  rw [Int32.le_iff_toInt_le, nn_toInt ha, nn_toInt hb]; omega
set_option maxRecDepth 16384 in
theorem nn_neg {a : Nat} (ha : a < 2147483648) : nn a < 0 ↔ False := by
  rw [Int32.lt_iff_toInt_lt, nn_toInt ha, show (0 : Int32).toInt = 0 from rfl]
  exact ⟨fun h => by omega, False.elim⟩
set_option maxRecDepth 16384 in
theorem nn_in {a n : Nat} (ha : a < 2147483648) (h : a < n) : x_in (nn a) n := by
  rintro (h1 | h1)
  · exact (nn_neg ha).mp h1
  · rw [nn_clamp ha] at h1; omega
set_option maxRecDepth 16384 in
theorem mm_toInt {n : Nat} (h : n < 2147483648) : (mm n).toInt = (n : Int) - 1 := by
  unfold mm
  rw [Int32.toInt_sub, Int32.toInt_ofNat_of_lt h, show (1 : Int32).toInt = 1 from rfl, Int.bmod_eq_of_le (by omega) (by omega)]
set_option maxRecDepth 16384 in
theorem mm_succ (n : Nat) : mm (n + 1) = nn n := by
  unfold mm nn
  rw [Int32.ofNat_add]
  exact Int32.add_sub_cancel _ _
set_option maxRecDepth 16384 in
theorem mm_inj {a b : Nat} (ha : a < 2147483648) (hb : b < 2147483648) : mm a = mm b ↔ a = b := by
  constructor
  · intro h
    have h1 := congrArg Int32.toInt h
    rw [mm_toInt ha, mm_toInt hb] at h1
    omega
  · intro h; rw [h]
set_option maxRecDepth 16384 in
theorem mm_lt {a b : Nat} (ha : a < 2147483648) (hb : b < 2147483648) : mm a < mm b ↔ a < b := by
  rw [Int32.lt_iff_toInt_lt, mm_toInt ha, mm_toInt hb]; omega
set_option maxRecDepth 16384 in
theorem mm_add1 (n : Nat) : mm n + 1 = nn n := by
  unfold mm nn
  exact Int32.sub_add_cancel _ _
set_option maxRecDepth 16384 in
theorem mm_neg {a : Nat} (ha : a < 2147483648) : mm a < 0 ↔ a = 0 := by
  rw [Int32.lt_iff_toInt_lt, mm_toInt ha, show (0 : Int32).toInt = 0 from rfl]; omega
set_option maxRecDepth 16384 in
theorem mm0 : mm 0 = -1 := rfl
set_option maxRecDepth 16384 in
theorem nn_cases (x : Int32) : x < 0 ∨ ∃ n : Nat, n < 2147483648 ∧ x = nn n := by
  by_cases h : x < 0
  · exact Or.inl h
  · right
    rw [Int32.lt_iff_toInt_lt, show (0 : Int32).toInt = 0 from rfl] at h
    have h2 : x.toInt < 2147483648 := Int32.toInt_lt x
    refine ⟨x.toInt.toNat, by omega, ?_⟩
    apply Int32.toInt_inj.mp
    rw [nn_toInt (by omega)]
    omega

def nu (w : Nat → Nat) (k x : Nat) : Nat → Nat := fun j => if j = k then x else w j
set_option maxRecDepth 16384 in
theorem nu_eq1 {w : Nat → Nat} {k j x : Nat} (h : j = k) : nu w k x j = x := if_pos h
set_option maxRecDepth 16384 in
theorem nu_ne1 {w : Nat → Nat} {k j x : Nat} (h : j ≠ k) : nu w k x j = w j := if_neg h
set_option maxRecDepth 16384 in
theorem nl0 : (0 : Int32) = nn 0 := rfl
set_option maxRecDepth 16384 in
theorem nl1 : (1 : Int32) = nn 1 := rfl
set_option maxRecDepth 16384 in
theorem nl2 : (2 : Int32) = nn 2 := rfl
set_option maxRecDepth 16384 in
theorem nl3 : (3 : Int32) = nn 3 := rfl
set_option maxRecDepth 16384 in
theorem nl4 : (4 : Int32) = nn 4 := rfl
set_option maxRecDepth 16384 in
theorem nl5 : (5 : Int32) = nn 5 := rfl
set_option maxRecDepth 16384 in
theorem nl6 : (6 : Int32) = nn 6 := rfl
set_option maxRecDepth 16384 in
theorem nl7 : (7 : Int32) = nn 7 := rfl
set_option maxRecDepth 16384 in
theorem nl8 : (8 : Int32) = nn 8 := rfl
set_option maxRecDepth 16384 in
theorem nl9 : (9 : Int32) = nn 9 := rfl
set_option maxRecDepth 16384 in
theorem nl10 : (10 : Int32) = nn 10 := rfl
set_option maxRecDepth 16384 in
theorem nl11 : (11 : Int32) = nn 11 := rfl
set_option maxRecDepth 16384 in
theorem nl12 : (12 : Int32) = nn 12 := rfl
set_option maxRecDepth 16384 in
theorem nl15 : (15 : Int32) = nn 15 := rfl
set_option maxRecDepth 16384 in
theorem nl16 : (16 : Int32) = nn 16 := rfl
set_option maxRecDepth 16384 in
theorem nl60 : (60 : Int32) = nn 60 := rfl
set_option maxRecDepth 16384 in
theorem nl96 : (96 : Int32) = nn 96 := rfl
set_option maxRecDepth 16384 in
theorem nl192 : (192 : Int32) = nn 192 := rfl
set_option maxRecDepth 16384 in
theorem nl552 : (552 : Int32) = nn 552 := rfl
set_option maxRecDepth 16384 in
theorem nl553 : (553 : Int32) = nn 553 := rfl
set_option maxRecDepth 16384 in
theorem nl554 : (554 : Int32) = nn 554 := rfl
set_option maxRecDepth 16384 in
theorem nl555 : (555 : Int32) = nn 555 := rfl
set_option maxRecDepth 16384 in
theorem nl556 : (556 : Int32) = nn 556 := rfl
set_option maxRecDepth 16384 in
theorem nl557 : (557 : Int32) = nn 557 := rfl
set_option maxRecDepth 16384 in
theorem nl558 : (558 : Int32) = nn 558 := rfl
set_option maxRecDepth 16384 in
theorem nl559 : (559 : Int32) = nn 559 := rfl
set_option maxRecDepth 16384 in
theorem nl560 : (560 : Int32) = nn 560 := rfl
set_option maxRecDepth 16384 in
theorem nl561 : (561 : Int32) = nn 561 := rfl
set_option maxRecDepth 16384 in
theorem nl562 : (562 : Int32) = nn 562 := rfl
set_option maxRecDepth 16384 in
theorem nl563 : (563 : Int32) = nn 563 := rfl
set_option maxRecDepth 16384 in
theorem nl570 : (570 : Int32) = nn 570 := rfl
set_option maxRecDepth 16384 in
theorem nn_in1 {a n : Nat} (h : a < n) (ha : a < 2147483648) : x_in (nn a) n ↔ True := ⟨fun _ => trivial, fun _ => nn_in ha h⟩
set_option maxRecDepth 16384 in
theorem nn_true {a b : Nat} (h : a = b) : (a = b) ↔ True := ⟨fun _ => trivial, fun _ => h⟩
set_option maxRecDepth 16384 in
theorem nn_false {a b : Nat} (h : a ≠ b) : (a = b) ↔ False := ⟨h, False.elim⟩
set_option maxRecDepth 16384 in
theorem eq_self {α : Type} (a : α) : (a = a) ↔ True := ⟨fun _ => trivial, fun _ => rfl⟩
def Ok {α : Type} (o : Option α) (P : α → Prop) : Prop := ∃ r, o = some r ∧ P r
set_option maxRecDepth 16384 in
theorem Ok_some {α : Type} {a : α} {P : α → Prop} (h : P a) : Ok (some a) P := ⟨a, rfl, h⟩
set_option maxRecDepth 16384 in
theorem Ok_bind {α β : Type} {o : Option α} {f : α → Option β} {P : β → Prop} {T : α → Prop} (h : Ok o T) (k : ∀ r, T r → Ok (f r) P) : Ok (Option.bind o f) P := by
  obtain ⟨r, rfl, h2⟩ := h
  exact k r h2
set_option maxRecDepth 16384 in
theorem Ok_let {α β : Type} {a : α} {f : α → Option β} {P : β → Prop} (k : ∀ r, r = a → Ok (f r) P) : Ok (x_let a f) P := k a rfl
set_option maxRecDepth 16384 in
theorem Ok_ite {β : Type} {c : Prop} [Decidable c] {x y : Option β} {P : β → Prop} (h1 : c → Ok x P) (h2 : ¬ c → Ok y P) : Ok (if c then x else y) P := by
  by_cases h : c
  · rw [if_pos h]; exact h1 h
  · rw [if_neg h]; exact h2 h
set_option maxRecDepth 16384 in
theorem Ok_mono {β : Type} {o : Option β} {P T : β → Prop} (h : Ok o P) (k : ∀ r, P r → T r) : Ok o T := by
  obtain ⟨r, e, h⟩ := h
  exact ⟨r, e, k r h⟩
set_option maxRecDepth 16384 in
theorem Ok_eq {β : Type} {o : Option β} {P : β → Prop} (h : Ok o P) {r : β} (e : o = some r) : P r := by
  obtain ⟨r', e', h'⟩ := h
  rw [e'] at e
  cases e
  exact h'
set_option maxRecDepth 16384 in
theorem x_let_m {β : Type} (n : Nat) (f : Int32 → β) : x_let (mm n) f = f (mm n) := rfl
set_option maxRecDepth 16384 in
theorem nneg1 : -(nn 1) = mm 0 := rfl
set_option maxRecDepth 16384 in
theorem nn_m1 (k : Nat) : nn k + mm 0 = mm k := by
  show Int32.ofNat k + (Int32.ofNat 0 - 1) = Int32.ofNat k - 1
  rw [show (Int32.ofNat 0 - 1 : Int32) = -1 from rfl, Int32.sub_eq_add_neg]
abbrev nb (c : Prop) [Decidable c] : Nat := if c then 1 else 0
set_option maxRecDepth 16384 in
theorem nn_nb0 {c : Prop} [Decidable c] : (nn (if c then 1 else 0) = nn 0) ↔ ¬ c := by
  by_cases h : c
  · rw [if_pos h]; exact ⟨fun h1 => absurd h1 (by decide), fun h1 => absurd h h1⟩
  · rw [if_neg h]; exact ⟨fun _ => h, fun _ => rfl⟩
set_option maxRecDepth 16384 in
theorem x_let_n {β : Type} (n : Nat) (f : Int32 → β) : x_let (nn n) f = f (nn n) := rfl
set_option maxRecDepth 16384 in
theorem xb_some {α β : Type} (a : α) (f : α → Option β) : Option.bind (some a) f = f a := rfl
def n_post (w : Nat → Nat) (k g r a t : Nat) : Nat → Nat :=
  let w1 := nu w 553 (w 553 + 1)
  let w2 := nu w1 (563 + k) (w (563 + k) + 1)
  if w 552 = 60 then nu w2 558 (w 558 + 1)
  else nu (nu (nu (nu (nu (nu (nu w2 (192 + 6 * w 552) k) (192 + 6 * w 552 + 1) g) (192 + 6 * w 552 + 2) r) (192 + 6 * w 552 + 3) (w 553 + 1)) (192 + 6 * w 552 + 4) a) (192 + 6 * w 552 + 5) t) 552 (w 552 + 1)
def n_want (w : Nat → Nat) (g : Nat) : Nat → Nat := nu (nu (n_post w 2 g (w (8 * g + 1)) 0 0) (8 * g + 4) (w 553 + 1)) (8 * g + 5) (w 554)
set_option maxRecDepth 16384 in
theorem n_post_554 {w : Nat → Nat} {k g r a t : Nat} (hk : k < 7) (hm : w 552 ≤ 60) : n_post w k g r a t 554 = w 554 := by
  unfold n_post
  split <;> (try simp (disch := omega) only [nn_add, nn_mul, nn_clamp, nn_in1, nn_inj, nn_lt, nn_le, nn_neg, nu_eq1, nu_ne1, nn_nb0, nn_true, nn_false, if_true, if_false, x_let_n, x_let_m, xb_some, eq_self, ite_true, ite_false, not_false_eq_true, not_true_eq_false, nneg1, nl0, nl1, nl2, nl3, nl4, nl5, nl6, nl7, nl8, nl9, nl10, nl11, nl12, nl15, nl16, nl60, nl96, nl192, nl552, nl553, nl554, nl555, nl556, nl557, nl558, nl559, nl560, nl561, nl562, nl563, nl570])
abbrev n_can (w : Nat → Nat) (r g : Nat) : Prop := w (96 + 6 * r) = 0 ∧ (w (96 + 6 * r + 4) = 0 ∨ w (96 + 6 * r + 4) = g + 1)
def n_chl (w : Nat → Nat) (g : Nat) : Nat → Nat → Nat → Nat
  | 0, low, own => if own ≠ 0 then own else if w (8 * g + 7) ≠ 0 ∧ n_can w (w (8 * g + 7) - 1) g then w (8 * g + 7) else low
  | k + 1, low, own => if w (96 + 6 * k) = 1 ∧ w (96 + 6 * k + 2) = g then k + 1 else n_chl w g k (if n_can w k g then k + 1 else low) (if n_can w k g ∧ w (96 + 6 * k + 4) = g + 1 then k + 1 else own)
def n_choice (w : Nat → Nat) (g : Nat) : Nat := n_chl w g 16 0 0
def WzG (w : Nat → Nat) : Prop := ∀ g, g < 12 → w (8 * g) ≤ 3 ∧ w (8 * g + 1) < 16 ∧ w (8 * g + 2) ≤ w 554 ∧ w (8 * g + 3) ≤ 200 ∧ w (8 * g + 4) ≤ w 553 ∧ w (8 * g + 5) ≤ w 554 ∧ w (8 * g + 7) ≤ 16
def WzR (w : Nat → Nat) : Prop := (∀ r, r < 16 → w (96 + 6 * r) ≤ 3 ∧ w (96 + 6 * r + 1) ≤ w 554 + 200 ∧ w (96 + 6 * r + 2) < 12 ∧ w (96 + 6 * r + 3) ≤ w 553 ∧ w (96 + 6 * r + 4) ≤ 12 ∧ w (96 + 6 * r + 5) ≤ 1) ∧ (∀ r r', r < 16 → r' < 16 → w (96 + 6 * r + 4) ≠ 0 → w (96 + 6 * r + 4) = w (96 + 6 * r' + 4) → r = r') ∧ (∀ r r', r < 16 → r' < 16 → w (96 + 6 * r) = 1 → w (96 + 6 * r') = 1 → w (96 + 6 * r + 2) = w (96 + 6 * r' + 2) → r = r')
def WzM (w : Nat → Nat) : Prop := (∀ p, p < w 552 → w (192 + 6 * p) ≤ 6 ∧ w (192 + 6 * p + 1) < 12 ∧ w (192 + 6 * p + 2) < 16 ∧ w (192 + 6 * p + 3) ≤ w 553 ∧ w (192 + 6 * p + 4) ≤ w 553 ∧ w (192 + 6 * p + 5) ≤ 200) ∧ w 552 ≤ 60
def WzN (w : Nat → Nat) : Prop := 8 ≤ w 555 ∧ w 555 ≤ 200 ∧ 1 ≤ w 556 ∧ w 556 ≤ 50 ∧ 1 ≤ w 557 ∧ w 557 ≤ 200
def Wz (w : Nat → Nat) : Prop := WzG w ∧ WzR w ∧ WzM w ∧ WzN w
def Wb (B : Nat) (w : Nat → Nat) : Prop := B ≤ 1000000000 ∧ ∀ i, w i ≤ B
set_option maxRecDepth 16384 in
theorem nn_div {a b : Nat} (ha : a < 2147483648) (hb : b < 2147483648) (h0 : 0 < b) : nn a / nn b = nn (a / b) := by
  apply Int32.toInt_inj.mp
  have h1 : a / b ≤ a := Nat.div_le_self a b
  have h2 : ((a : Int) / (b : Int)) = ((a / b : Nat) : Int) := (Int.natCast_ediv a b).symm
  rw [Int32.toInt_div, nn_toInt ha, nn_toInt hb, Int.tdiv_eq_ediv_of_nonneg (by omega), h2]
  generalize a / b = q at h1
  rw [nn_toInt (by omega), Int.bmod_eq_of_le (by omega) (by omega)]
set_option maxRecDepth 16384 in
theorem n_chl_le {w : Nat → Nat} {g : Nat} (h7 : w (8 * g + 7) ≤ 16) : ∀ (k low own : Nat), k ≤ 16 → low ≤ 16 → own ≤ 16 → n_chl w g k low own ≤ 16 := by
  intro k
  induction k with
  | zero => intro low own _ hl ho; rw [n_chl]; split <;> (try split) <;> assumption
  | succ k ih =>
    intro low own hk hl ho
    rw [n_chl]
    split
    · omega
    · exact ih _ _ (by omega) (by split <;> omega) (by split <;> omega)
set_option maxRecDepth 16384 in
theorem n_choice_le {w : Nat → Nat} (Z : Wz w) {g : Nat} (hg : g < 12) : n_choice w g ≤ 16 := n_chl_le (Z.1 g hg).2.2.2.2.2.2 16 0 0 (by omega) (by omega) (by omega)
def n_settle (w : Nat → Nat) (r s u : Nat) : Nat → Nat := nu (nu w (96 + 6 * r) s) (96 + 6 * r + 1) u
def n_innSeeks (w : Nat → Nat) (g : Nat) : Nat → Nat := if n_choice w g = 0 then w else n_post (nu (n_settle w (n_choice w g - 1) 1 (w 554 + w 556)) (96 + 6 * (n_choice w g - 1) + 2) g) 1 g (n_choice w g - 1) 0 0
abbrev n_has (w : Nat → Nat) (r s g : Nat) : Prop := w (96 + 6 * r) = s ∧ w (96 + 6 * r + 2) = g
def n_innWants (w : Nat → Nat) (g r m : Nat) : Nat → Nat :=
  if ¬ n_has w r 2 g ∧ ¬ n_has w r 1 g then n_post w 4 g r m 0
  else nu (n_post (nu (nu (n_settle w r 2 (if n_has w r 2 g ∧ w 554 + w 555 < w (96 + 6 * r + 1) then w (96 + 6 * r + 1) else w 554 + w 555)) (8 * g + 7) (r + 1)) 560 (w 560 + 1)) 3 g r m (w 555)) (96 + 6 * r + 3) (w 553 + 1)
def n_innEnds (w : Nat → Nat) (k g r m : Nat) : Nat → Nat := if ¬ n_has w r 2 g ∨ m ≤ w (96 + 6 * r + 3) then w else nu (n_settle w r (if k = 5 then 3 else 0) (w 554 + w 557)) 562 (w 562 + if k = 5 then 1 else 0)
def n_guestYes (w : Nat → Nat) (g r t : Nat) : Nat → Nat :=
  if w (8 * g + 5) + t ≤ w 554 then nu w (8 * g) 0
  else if w (8 * g) = 2 ∧ w (96 + 6 * r + 5) = 1 then nu (n_post w 5 g r 0 0) (8 * g) 0
  else nu (nu (nu (nu w (8 * g + 6) (w (8 * g + 6) + if w (8 * g) = 2 then 1 else 0)) (8 * g) 3) (8 * g + 2) (w (8 * g + 5))) (8 * g + 3) t
def n_tk : Nat → (Nat → Nat) → Nat → (Nat → Nat)
  | 0, w, _ => w
  | d + 1, w, k => n_tk d (nu w k (w (k + 6))) (k + 1)
set_option maxRecDepth 16384 in
theorem n_tk_at : ∀ (d : Nat) (w : Nat → Nat) (k i : Nat), n_tk d w k i = if k ≤ i ∧ i < k + d then w (i + 6) else w i := by
  intro d
  induction d with
  | zero => intro w k i; rw [n_tk, if_neg (by omega)]
  | succ d ih =>
    intro w k i
    rw [n_tk, ih]
    unfold nu
    by_cases h : k + 1 ≤ i ∧ i < k + 1 + d
    · rw [if_pos h, if_neg (by omega), if_pos (by omega)]
    · rw [if_neg h]
      by_cases h2 : i = k
      · rw [if_pos h2, if_pos (by omega), h2]
      · rw [if_neg h2, if_neg (by omega)]
def n_take (w : Nat → Nat) (p : Nat) : Nat → Nat := n_tk (6 * (w 552 - 1 - p)) (nu w 552 (w 552 - 1)) (192 + 6 * p)
set_option maxRecDepth 16384 in
theorem n_take_at (w : Nat → Nat) (p i : Nat) (h : w 552 ≤ 60) : n_take w p i = if i = 552 then w 552 - 1 else if 192 + 6 * p ≤ i ∧ i < 192 + 6 * p + 6 * (w 552 - 1 - p) then w (i + 6) else w i := by
  unfold n_take
  rw [n_tk_at]
  unfold nu
  by_cases h1 : i = 552
  · rw [if_pos h1, if_neg (by omega), if_pos h1]
  · simp only [h1, if_false]
    by_cases h2 : 192 + 6 * p ≤ i ∧ i < 192 + 6 * p + 6 * (w 552 - 1 - p)
    · rw [if_pos h2, if_neg (by omega), if_pos h2]
    · rw [if_neg h2, if_neg h2]
abbrev n_heeds (w : Nat → Nat) (g r a : Nat) : Prop := 1 < w (8 * g) ∧ w (8 * g + 1) = r ∧ w (8 * g + 4) = a
def n_act (w : Nat → Nat) (k g r m a t : Nat) : Nat → Nat :=
  if k = 0 then n_innSeeks w g
  else if k = 1 then (if w (8 * g) = 1 then n_want (nu (nu w (8 * g) 2) (8 * g + 1) r) g else w)
  else if k = 2 then n_innWants w g r m
  else if k = 3 then (if n_heeds w g r a then n_guestYes w g r t else w)
  else if k = 4 then (if n_heeds w g r a then nu w (8 * g) 0 else w)
  else n_innEnds w k g r m
def n_handle (w : Nat → Nat) (p : Nat) : Nat → Nat := n_act (nu (n_take w p) 559 (w 559 + 1)) (w (192 + 6 * p)) (w (192 + 6 * p + 1)) (w (192 + 6 * p + 2)) (w (192 + 6 * p + 3)) (w (192 + 6 * p + 4)) (w (192 + 6 * p + 5))
set_option maxRecDepth 16384 in
theorem n_gone {w : Nat → Nat} {p : Nat} (hm : w 552 ≤ 60) {i : Nat} (h : i < 192 ∨ (552 < i ∧ i ≠ 559)) : nu (n_take w p) 559 (w 559 + 1) i = w i := by
  rw [nu_ne1 (by omega), n_take_at w p i hm, if_neg (by omega), if_neg (by omega)]
set_option maxRecDepth 16384 in
theorem Wz_gone {w : Nat → Nat} (Z : Wz w) {p : Nat} (hp : p < w 552) : Wz (nu (n_take w p) 559 (w 559 + 1)) := by
  have hm := Z.2.2.1.2
  have G := fun i h => n_gone (p := p) hm (i := i) h
  have e2 : nu (n_take w p) 559 (w 559 + 1) 552 = w 552 - 1 := by rw [nu_ne1 (by omega), n_take_at w p _ hm, if_pos rfl]
  refine ⟨fun g hg => ?_, ⟨fun r hr => ?_, fun r r' hr hr' => ?_, fun r r' hr hr' => ?_⟩, ⟨fun q hq => ?_, by rw [e2]; omega⟩, ?_⟩
  · rw [G _ (by omega), G _ (by omega), G _ (by omega), G _ (by omega), G _ (by omega), G _ (by omega), G _ (by omega), G _ (by omega), G _ (by omega)]
    exact Z.1 g hg
  · rw [G _ (by omega), G _ (by omega), G _ (by omega), G _ (by omega), G _ (by omega), G _ (by omega), G _ (by omega), G _ (by omega)]
    exact Z.2.1.1 r hr
  · rw [G _ (by omega), G _ (by omega)]
    exact Z.2.1.2.1 r r' hr hr'
  · rw [G _ (by omega), G _ (by omega), G _ (by omega), G _ (by omega)]
    exact Z.2.1.2.2 r r' hr hr'
  · rw [e2] at hq
    have K : ∀ j, j < 6 → nu (n_take w p) 559 (w 559 + 1) (192 + 6 * q + j) = w (192 + 6 * (if q < p then q else q + 1) + j) := by
      intro j hj
      rw [nu_ne1 (by omega), n_take_at w p _ hm, if_neg (by omega)]
      by_cases c : q < p
      · rw [if_neg (by omega), if_pos c]
      · rw [if_pos (by omega), if_neg c]
        congr 1
        omega
    have h := Z.2.2.1.1 (if q < p then q else q + 1) (by split <;> omega)
    have K0 : nu (n_take w p) 559 (w 559 + 1) (192 + 6 * q) = w (192 + 6 * (if q < p then q else q + 1)) := K 0 (by omega)
    rw [K0, K 1 (by omega), K 2 (by omega), K 3 (by omega), K 4 (by omega), K 5 (by omega), G 553 (by omega)]
    exact h
  · unfold WzN
    rw [G _ (by omega), G _ (by omega), G _ (by omega)]
    exact Z.2.2.2
set_option maxRecDepth 16384 in
theorem Wb_gone {w : Nat → Nat} {B : Nat} (hB : Wb B w) {p : Nat} (hm : w 552 ≤ 60) (h9 : B + 1 ≤ 1000000000) : Wb (B + 1) (nu (n_take w p) 559 (w 559 + 1)) := by
  refine ⟨h9, fun i => ?_⟩
  have b1 := hB.2 559
  have b2 := hB.2 552
  have b3 := hB.2 i
  have b4 := hB.2 (i + 6)
  unfold nu
  split
  · omega
  · rw [n_take_at w p i hm]
    split
    · omega
    · split <;> omega
