/-! ===== numbers of the machine out of natural numbers ===== -/
def nn (n : Nat) : Int32 := Int32.ofNat n
def mm (n : Nat) : Int32 := Int32.ofNat n - 1
set_option maxRecDepth 16384 in
theorem nn_toInt {n : Nat} (h : n < 2147483648) : (nn n).toInt = (n : Int) := Int32.toInt_ofNat_of_lt h
set_option maxRecDepth 16384 in
theorem nn_clamp {n : Nat} (h : n < 2147483648) : (nn n).toNatClampNeg = n := by
  show (nn n).toInt.toNat = n
  rw [nn_toInt h]; rfl
set_option maxRecDepth 16384 in
theorem nn_add (a b : Nat) : nn a + nn b = nn (a + b) := (Int32.ofNat_add a b).symm
set_option maxRecDepth 16384 in
theorem nn_mul (a b : Nat) : nn a * nn b = nn (a * b) := (Int32.ofNat_mul a b).symm
set_option maxRecDepth 16384 in
theorem nn_sub {a b : Nat} (h : b ≤ a) : nn a - nn b = nn (a - b) := by
  have : nn a = nn (a - b) + nn b := by rw [nn_add, Nat.sub_add_cancel h]
  rw [this, Int32.add_sub_cancel]
set_option maxRecDepth 16384 in
theorem nn_inj {a b : Nat} (ha : a < 2147483648) (hb : b < 2147483648) : nn a = nn b ↔ a = b := by
  constructor
  · intro h
    have h1 := congrArg Int32.toInt h
    rw [nn_toInt ha, nn_toInt hb] at h1
    omega
  · intro h; rw [h]
set_option maxRecDepth 16384 in
theorem nn_lt {a b : Nat} (ha : a < 2147483648) (hb : b < 2147483648) : nn a < nn b ↔ a < b := by
  rw [Int32.lt_iff_toInt_lt, nn_toInt ha, nn_toInt hb]; omega
set_option maxRecDepth 16384 in
theorem nn_le {a b : Nat} (ha : a < 2147483648) (hb : b < 2147483648) : nn a ≤ nn b ↔ a ≤ b := by
  rw [Int32.le_iff_toInt_le, nn_toInt ha, nn_toInt hb]; omega
set_option maxRecDepth 16384 in
theorem nn_neg {a : Nat} (ha : a < 2147483648) : nn a < 0 ↔ False := by
  rw [Int32.lt_iff_toInt_lt, nn_toInt ha, show (0 : Int32).toInt = 0 from rfl]
  exact ⟨fun h => by omega, False.elim⟩
set_option maxRecDepth 16384 in
theorem nn_in {a n : Nat} (ha : a < 2147483648) (h : a < n) : x_in (nn a) n := by
  rintro (h1 | h1)
  · exact (nn_neg ha).mp h1
  · rw [nn_clamp ha] at h1; omega
set_option maxRecDepth 16384 in
theorem mm_toInt {n : Nat} (h : n < 2147483648) : (mm n).toInt = (n : Int) - 1 := by
  unfold mm
  rw [Int32.toInt_sub, Int32.toInt_ofNat_of_lt h, show (1 : Int32).toInt = 1 from rfl, Int.bmod_eq_of_le (by omega) (by omega)]
set_option maxRecDepth 16384 in
theorem mm_succ (n : Nat) : mm (n + 1) = nn n := by
  unfold mm nn
  rw [Int32.ofNat_add]
  exact Int32.add_sub_cancel _ _
set_option maxRecDepth 16384 in
theorem mm_inj {a b : Nat} (ha : a < 2147483648) (hb : b < 2147483648) : mm a = mm b ↔ a = b := by
  constructor
  · intro h
    have h1 := congrArg Int32.toInt h
    rw [mm_toInt ha, mm_toInt hb] at h1
    omega
  · intro h; rw [h]
set_option maxRecDepth 16384 in
theorem mm_lt {a b : Nat} (ha : a < 2147483648) (hb : b < 2147483648) : mm a < mm b ↔ a < b := by
  rw [Int32.lt_iff_toInt_lt, mm_toInt ha, mm_toInt hb]; omega
set_option maxRecDepth 16384 in
theorem mm_add1 (n : Nat) : mm n + 1 = nn n := by
  unfold mm nn
  exact Int32.sub_add_cancel _ _
set_option maxRecDepth 16384 in
theorem mm_neg {a : Nat} (ha : a < 2147483648) : mm a < 0 ↔ a = 0 := by
  rw [Int32.lt_iff_toInt_lt, mm_toInt ha, show (0 : Int32).toInt = 0 from rfl]; omega
set_option maxRecDepth 16384 in
theorem mm0 : mm 0 = -1 := rfl
/- any number of the machine: below 0, or natural -/
set_option maxRecDepth 16384 in
theorem nn_cases (x : Int32) : x < 0 ∨ ∃ n : Nat, n < 2147483648 ∧ x = nn n := by
  by_cases h : x < 0
  · exact Or.inl h
  · right
    rw [Int32.lt_iff_toInt_lt, show (0 : Int32).toInt = 0 from rfl] at h
    have h2 : x.toInt < 2147483648 := Int32.toInt_lt x
    refine ⟨x.toInt.toNat, by omega, ?_⟩
    apply Int32.toInt_inj.mp
    rw [nn_toInt (by omega)]
    omega
