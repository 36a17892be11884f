/-! ===== the start, the law's run over the numbers ===== -/
def w0 : Nat → Nat := fun i => if i = 155 then 1 else if i = 555 then 60 else if i = 556 then 10 else if i = 557 then 50 else 0
set_option maxRecDepth 16384 in
theorem w0_z {i : Nat} (h : i ≠ 155) (h1 : i < 555 ∨ 557 < i) : w0 i = 0 := by
  unfold w0
  rw [if_neg h, if_neg (by omega), if_neg (by omega), if_neg (by omega)]
set_option maxRecDepth 16384 in
theorem w0_1 {i : Nat} (h1 : i < 555) : w0 i ≤ 1 := by
  unfold w0
  split
  · omega
  · rw [if_neg (by omega), if_neg (by omega), if_neg (by omega)]; omega
set_option maxRecDepth 16384 in
theorem w0_n : w0 555 = 60 ∧ w0 556 = 10 ∧ w0 557 = 50 := ⟨rfl, rfl, rfl⟩
set_option maxRecDepth 16384 in
theorem Wz_0 : Wz w0 := by
  refine ⟨fun g hg => ?_, ⟨fun r hr => ?_, fun r r' hr hr' h => ?_, fun r r' hr hr' h => ?_⟩, ⟨fun p hp => ?_, ?_⟩, ?_⟩
  · rw [w0_z (i := 8 * g) (by omega) (by omega), w0_z (i := 8 * g + 1) (by omega) (by omega), w0_z (i := 8 * g + 2) (by omega) (by omega), w0_z (i := 8 * g + 3) (by omega) (by omega), w0_z (i := 8 * g + 4) (by omega) (by omega), w0_z (i := 8 * g + 5) (by omega) (by omega), w0_z (i := 8 * g + 7) (by omega) (by omega)]
    omega
  · have h5 := w0_1 (i := 96 + 6 * r + 5) (by omega)
    rw [w0_z (i := 96 + 6 * r) (by omega) (by omega), w0_z (i := 96 + 6 * r + 1) (by omega) (by omega), w0_z (i := 96 + 6 * r + 2) (by omega) (by omega), w0_z (i := 96 + 6 * r + 3) (by omega) (by omega), w0_z (i := 96 + 6 * r + 4) (by omega) (by omega)]
    omega
  · exact absurd (w0_z (i := 96 + 6 * r + 4) (by omega) (by omega)) h
  · rw [w0_z (i := 96 + 6 * r) (by omega) (by omega)] at h
    omega
  · rw [w0_z (i := 552) (by omega) (by omega)] at hp
    omega
  · rw [w0_z (i := 552) (by omega) (by omega)]; omega
  · obtain ⟨a, b, c⟩ := w0_n
    unfold WzN
    rw [a, b, c]
    omega
set_option maxRecDepth 16384 in
theorem Wf_0 : Wf 1000 w0 := by
  refine ⟨Wz_0, ⟨fun g hg h => ?_, fun r hr h => ?_⟩, ⟨by omega, fun i => ?_⟩⟩
  · rw [w0_z (i := 8 * g) (by omega) (by omega)] at h
    omega
  · exact absurd (w0_z (i := 96 + 6 * r) (by omega) (by omega)) h
  · unfold w0
    split
    · omega
    · split
      · omega
      · split
        · omega
        · split <;> omega
set_option maxRecDepth 16384 in
theorem n_ls_0 (g : Nat) : ∀ d, d ≤ 16 → n_ls w0 g d = 0 := by
  intro d
  induction d with
  | zero => intro _; rfl
  | succ d ih =>
    intro hd
    rw [n_ls, ih (by omega), w0_z (i := 96 + 6 * d) (by omega) (by omega), if_neg (fun h => absurd h.1 (by decide))]
set_option maxRecDepth 16384 in
theorem fill_at {n i : Nat} (h : i < n) : x_fill n (-1) i = mm 0 := by rw [x_fill_at, if_pos h]; rfl
set_option maxRecDepth 16384 in
theorem Ru_0 : Ru x_h0 w0 := by
  refine ⟨fun g hg => ?_, fun r hr => ?_, fun g hg => ?_, fun r hr => ?_, ⟨?_, fun p hp => ?_⟩, ⟨?_, ?_, fun k hk => ?_⟩⟩
  · rw [w0_z (i := 8 * g) (by omega) (by omega), w0_z (i := 8 * g + 1) (by omega) (by omega), w0_z (i := 8 * g + 2) (by omega) (by omega), w0_z (i := 8 * g + 3) (by omega) (by omega), w0_z (i := 8 * g + 4) (by omega) (by omega), w0_z (i := 8 * g + 5) (by omega) (by omega), w0_z (i := 8 * g + 6) (by omega) (by omega), w0_z (i := 8 * g + 7) (by omega) (by omega), if_neg (by omega)]
    exact ⟨rfl, fill_at hg, fill_at hg, rfl, rfl, rfl, rfl, fill_at hg⟩
  · rw [w0_z (i := 96 + 6 * r) (by omega) (by omega), w0_z (i := 96 + 6 * r + 4) (by omega) (by omega), if_neg (by omega)]
    exact ⟨rfl, fill_at hr, fun h => absurd rfl h, fun h => absurd h (by decide), fill_at hr⟩
  · rw [n_ls_0 g 16 (by omega)]; rfl
  · have h : ∀ r, r < 16 → (x_h0 2 0).toBitVec.getLsbD r = decide (w0 (96 + 6 * r + 5) = 1) := by decide
    exact h r hr
  · rfl
  · rw [w0_z (i := 552) (by omega) (by omega)] at hp
    omega
  · exact ⟨rfl, rfl, rfl, rfl, rfl, rfl, rfl⟩
  · exact ⟨rfl, rfl, rfl⟩
  · rw [w0_z (i := 563 + k) (by omega) (by omega)]; rfl
set_option maxRecDepth 16384 in
theorem Rv_0 : Rv x_m0 w0 := by
  intro i hi
  unfold x_m0 w0
  show (if i = 155 then (1 : Int32) else if i = 557 then (50 : Int32) else if i = 556 then (10 : Int32) else if i = 555 then (60 : Int32) else (0 : Int32)) = _
  by_cases c1 : i = 155
  · rw [if_pos c1, if_pos c1]; rfl
  rw [if_neg c1, if_neg c1]
  by_cases c2 : i = 557
  · rw [if_pos c2, if_neg (by omega), if_neg (by omega), if_pos c2]; rfl
  rw [if_neg c2]
  by_cases c3 : i = 556
  · rw [if_pos c3, if_neg (by omega), if_pos c3]; rfl
  rw [if_neg c3]
  by_cases c4 : i = 555
  · rw [if_pos c4, if_pos c4]; rfl
  · rw [if_neg c4, if_neg c4, if_neg c3, if_neg c2]; rfl
set_option maxRecDepth 16384 in
theorem Sy_0 : Sy 1000 x_s0 := by
  refine ⟨w0, 0, fun _ => w0, fun _ => 0, fun _ => w0, 0, fun _ => 0, ⟨Ru_0, ⟨rfl, fun i => i + 2, fun i hi => ⟨rfl, show 2 ≤ i + 2 by omega, show i + 2 < 8 by omega⟩, fun i i' _ _ h => ?_, fun i hi => absurd hi (Nat.not_lt_zero i)⟩, fun s hs => ⟨?_, rfl, fun h => absurd (show (0 : Nat) = 1 from h) (by decide)⟩, ⟨rfl, fun i hi => absurd hi (Nat.not_lt_zero i)⟩⟩, ⟨Rv_0, ⟨rfl, fun i k hi => absurd hi (Nat.not_lt_zero i)⟩, fun s hs => ⟨rfl, fun h => absurd (show (0 : Nat) = 1 from h) (by decide)⟩, ⟨rfl, fun i hi => absurd hi (Nat.not_lt_zero i)⟩⟩, ⟨1000, Wf_0, ⟨by omega, fun i hi => absurd hi (Nat.not_lt_zero i)⟩, fun s hs => ⟨Nat.zero_le _, fun h => absurd (show (0 : Nat) = 1 from h) (by decide)⟩, ⟨Nat.zero_le _, fun i hi => absurd hi (Nat.not_lt_zero i)⟩, Nat.le_refl _, Nat.le_refl _, by omega⟩⟩
  · have h : i + 2 = i' + 2 := h
    omega
  · show Int32.ofNat (s + 8) = nn (8 + s)
    rw [Nat.add_comm s 8]; rfl
set_option maxRecDepth 16384 in
theorem Sy_up {A : Nat} {σ : x_S} (Y : Sy A σ) (hA : A + 1300000 ≤ 700000000) : Sy (A + 1300000) σ := by
  obtain ⟨w, n, S, t, K, l, x, Y, M, N⟩ := Y
  exact ⟨w, n, S, t, K, l, x, Y, M, Yn_up N (by omega) hA⟩
set_option maxRecDepth 16384 in
theorem g_each {A : Nat} {σ : x_S} (Y : Sy A σ) (hA : A + 1300000 ≤ 700000000) (a1 a2 : Int32) : ∀ f ∈ gL_list, Ok (f σ a1 a2) (Sy (A + 1300000)) :=
  List.forall_mem_cons.mpr ⟨s_0 Y hA a1 a2, List.forall_mem_cons.mpr ⟨s_1 Y hA a1 a2, List.forall_mem_cons.mpr ⟨s_2 Y hA a1 a2, List.forall_mem_cons.mpr ⟨s_3 Y hA a1 a2, List.forall_mem_cons.mpr ⟨s_4 Y hA a1 a2, List.forall_mem_cons.mpr ⟨s_5 Y hA a1 a2, List.forall_mem_cons.mpr ⟨s_6 Y hA a1 a2, List.forall_mem_cons.mpr ⟨s_7 Y hA a1 a2, List.forall_mem_cons.mpr ⟨s_8 Y hA a1 a2, List.forall_mem_cons.mpr ⟨s_9 Y hA a1 a2, List.forall_mem_cons.mpr ⟨s_10 Y hA a1 a2, List.forall_mem_cons.mpr ⟨s_11 Y hA a1 a2, List.forall_mem_cons.mpr ⟨s_12 Y hA a1 a2, List.forall_mem_cons.mpr ⟨s_13 Y hA a1 a2, List.forall_mem_cons.mpr ⟨s_14 Y hA a1 a2, List.forall_mem_cons.mpr ⟨s_15 Y hA a1 a2, List.forall_mem_cons.mpr ⟨s_16 Y hA a1 a2, List.forall_mem_cons.mpr ⟨s_17 Y hA a1 a2, List.forall_mem_cons.mpr ⟨s_18 Y hA a1 a2, List.forall_mem_cons.mpr ⟨s_19 Y hA a1 a2, List.forall_mem_cons.mpr ⟨s_20 Y hA a1 a2, List.forall_mem_cons.mpr ⟨s_21 Y hA a1 a2, List.forall_mem_cons.mpr ⟨s_22 Y hA a1 a2, List.forall_mem_cons.mpr ⟨s_23 Y hA a1 a2, List.forall_mem_cons.mpr ⟨s_24 Y hA a1 a2, List.forall_mem_cons.mpr ⟨s_25 Y hA a1 a2, List.forall_mem_cons.mpr ⟨s_26 Y hA a1 a2, List.forall_mem_cons.mpr ⟨s_27 Y hA a1 a2, List.forall_mem_cons.mpr ⟨s_28 Y hA a1 a2, List.forall_mem_cons.mpr ⟨s_29 Y hA a1 a2, List.forall_mem_cons.mpr ⟨s_30 Y hA a1 a2, List.forall_mem_cons.mpr ⟨s_31 Y hA a1 a2, List.forall_mem_cons.mpr ⟨s_32 Y hA a1 a2, List.forall_mem_cons.mpr ⟨s_33 Y hA a1 a2, List.forall_mem_cons.mpr ⟨s_34 Y hA a1 a2, List.forall_mem_cons.mpr ⟨s_35 Y hA a1 a2, List.forall_mem_cons.mpr ⟨s_36 Y hA a1 a2, List.forall_mem_cons.mpr ⟨s_37 Y hA a1 a2, List.forall_mem_cons.mpr ⟨s_38 Y hA a1 a2, List.forall_mem_cons.mpr ⟨s_39 Y hA a1 a2, List.forall_mem_cons.mpr ⟨s_40 Y hA a1 a2, List.forall_mem_cons.mpr ⟨s_41 Y hA a1 a2, List.forall_mem_cons.mpr ⟨s_42 Y hA a1 a2, List.forall_mem_cons.mpr ⟨s_43 Y hA a1 a2, List.forall_mem_cons.mpr ⟨s_44 Y hA a1 a2, List.forall_mem_cons.mpr ⟨s_45 Y hA a1 a2, List.forall_mem_cons.mpr ⟨s_46 Y hA a1 a2, List.forall_mem_cons.mpr ⟨s_47 Y hA a1 a2, List.forall_mem_cons.mpr ⟨s_48 Y hA a1 a2, List.forall_mem_cons.mpr ⟨s_49 Y hA a1 a2, List.forall_mem_cons.mpr ⟨s_50 Y hA a1 a2, List.forall_mem_cons.mpr ⟨s_51 Y hA a1 a2, List.forall_mem_cons.mpr ⟨s_52 Y hA a1 a2, List.forall_mem_cons.mpr ⟨s_53 Y hA a1 a2, List.forall_mem_cons.mpr ⟨s_54 Y hA a1 a2, List.forall_mem_cons.mpr ⟨s_55 Y hA a1 a2, List.forall_mem_cons.mpr ⟨s_56 Y hA a1 a2, List.forall_mem_cons.mpr ⟨s_57 Y hA a1 a2, fun _ h => absurd h List.not_mem_nil⟩⟩⟩⟩⟩⟩⟩⟩⟩⟩⟩⟩⟩⟩⟩⟩⟩⟩⟩⟩⟩⟩⟩⟩⟩⟩⟩⟩⟩⟩⟩⟩⟩⟩⟩⟩⟩⟩⟩⟩⟩⟩⟩⟩⟩⟩⟩⟩⟩⟩⟩⟩⟩⟩⟩⟩⟩⟩
set_option maxRecDepth 16384 in
theorem g_step {A : Nat} {σ : x_S} (Y : Sy A σ) (hA : A + 1300000 ≤ 700000000) (a0 a1 a2 : Int32) : Ok (gL_step σ a0 a1 a2) (Sy (A + 1300000)) := by
  unfold gL_step
  by_cases c : (a0 &&& 63).toInt < 0
  · rw [if_pos c]; exact Ok_some (Sy_up Y hA)
  · rw [if_neg c]
    cases e : gL_list[(a0 &&& 63).toInt.toNat]? with
    | none => exact Ok_some (Sy_up Y hA)
    | some f => exact g_each Y hA a1 a2 f (List.mem_of_getElem? e)
set_option maxRecDepth 16384 in
theorem g_run {L : Nat} {xs : Nat → Int32} : ∀ (m A j : Nat) (σ : x_S), Sy A σ → A + 1300000 * m ≤ 700000000 → L < j + 3 * (m + 1) → gL_run (m + 1) xs L σ j = some () := by
  intro m
  induction m with
  | zero =>
    intro A j σ Y H hL
    rw [gL_run, if_neg (by omega)]
  | succ m ih =>
    intro A j σ Y H hL
    rw [gL_run]
    by_cases c : j + 3 ≤ L
    · rw [if_pos c]
      have H1 : A + (1300000 * m + 1300000) ≤ 700000000 := H
      have H2 : A + 1300000 ≤ 700000000 := Nat.le_trans (Nat.add_le_add_left (Nat.le_add_left 1300000 (1300000 * m)) A) H1
      have H3 : A + 1300000 + 1300000 * m ≤ 700000000 := by
        rw [Nat.add_assoc, Nat.add_comm 1300000 (1300000 * m)]
        exact H1
      obtain ⟨τ, e, Yt⟩ := g_step Y H2 (xs j) (xs (j + 1)) (xs (j + 2))
      rw [e]
      exact ih (A + 1300000) (j + 3) τ Yt H3 (by omega)
    · rw [if_neg c]
set_option maxRecDepth 16384 in
theorem gL_total {L : Nat} {xs : Nat → Int32} (hL : L ≤ 1536) : gL_run 513 xs L x_s0 0 = some () := g_run 512 1000 0 x_s0 Sy_0 (Nat.le_of_ble_eq_true rfl) (by omega)
set_option maxRecDepth 16384 in
theorem whole_start {p : Program} {e : Env} {s : State} {m : MethodId} {below : List Frame} {meth : Method} {c : Code} (l : Launch) (hflags : l.flags = flags0) {b L : Nat} {xs : Nat → Int32} (hL : L ≤ 1536) (C0 : lw_At p s m meth c b L xs) : W p l e room_1 s m #[Value.ref b] below meth c s.heap [] 0 0 (lw_Z below #[Value.ref b] s) (entryFrame m ([Value.ref b] : List Value).toArray 9) := whole_start0 l hflags hL C0 (gL_total hL)
