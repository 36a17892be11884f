/-! ===== frames of the relation; the shapes of the law's cases ===== -/
section
variable {A n l : Nat} {σ τ : x_S} {m m' : x_H} {w w' : Nat → Nat} {S K : Nat → Nat → Nat} {t x : Nat → Nat}
set_option maxRecDepth 16384 in
theorem Wf_up {B B' : Nat} (F : Wf B w) (h : B ≤ B') (h9 : B' ≤ 1000000000) : Wf B' w := ⟨F.1, F.2.1, Wb_up F.2.2 h h9⟩
set_option maxRecDepth 16384 in
theorem Yc_of (Y : Yc σ w n S t K l x) (hn : n ≤ 6) (h0 : τ 0 = σ 0) (h : ∀ j, 2 ≤ j → j ≤ 9 → τ j = σ j) (h10 : ∀ k i, (k ≠ 37 ∨ i = 0) → τ 10 k i = σ 10 k i) : Yc τ w n S t K l x := by
  obtain ⟨Y1, ⟨Y2, g, Y3, Y4, Y5⟩, Y6, Y7, Y8⟩ := Y
  refine ⟨by rw [h0]; exact Y1, ⟨by rw [h10 33 0 (by omega)]; exact Y2, g, fun i hi => by rw [h10 34 i (by omega)]; exact Y3 i hi, Y4, fun i hi => ?_⟩, fun s hs => ?_, by rw [h10 37 0 (by omega)]; exact Y7, fun i hi => by rw [h10 38 i (by omega)]; exact Y8 i hi⟩
  · have q := Y3 i (by omega)
    rw [h (g i) (by omega) (by omega)]
    exact Y5 i hi
  · obtain ⟨a, b, c⟩ := Y6 s hs
    exact ⟨by rw [h10 35 s (by omega)]; exact a, by rw [h10 36 s (by omega)]; exact b, fun e => by rw [h (8 + s) (by omega) (by omega)]; exact c e⟩
set_option maxRecDepth 16384 in
theorem Yc_now (Y : Yc σ w n S t K l x) (hn : n ≤ 6) {u : x_H} (R : Ru u w') : Yc (x_sh σ 0 u) w' n S t K l x := by
  obtain ⟨Y1, ⟨Y2, g, Y3, Y4, Y5⟩, Y6, Y7, Y8⟩ := Y
  have e10 : x_sh σ 0 u 10 = σ 10 := x_sh_ne _ _ (by omega)
  refine ⟨by rw [x_sh_eq]; exact R, ⟨by rw [e10]; exact Y2, g, fun i hi => by rw [e10]; exact Y3 i hi, Y4, fun i hi => ?_⟩, fun s hs => ?_, by rw [e10]; exact Y7, fun i hi => by rw [e10]; exact Y8 i hi⟩
  · have q := Y3 i (by omega)
    rw [x_sh_ne _ _ (by omega)]
    exact Y5 i hi
  · obtain ⟨a, b, c⟩ := Y6 s hs
    exact ⟨by rw [e10]; exact a, by rw [e10]; exact b, fun e => by rw [x_sh_ne _ _ (by omega)]; exact c e⟩
set_option maxRecDepth 16384 in
theorem Ym_of (Y : Ym m w n S t K l x) (h : ∀ k i, 41 ≤ k → k ≤ 46 → k ≠ 42 → m' k i = m k i) (h1 : m' 40 1 = m 40 1) (h2 : m' 40 2 = m 40 2) : Ym m' w n S t K l x := by
  obtain ⟨Y1, ⟨Y2, Y3⟩, Y4, Y5, Y6⟩ := Y
  refine ⟨fun i hi => by rw [h 41 i (by omega) (by omega) (by omega)]; exact Y1 i hi, ⟨by rw [h1]; exact Y2, fun i k hi hk => by rw [h 43 _ (by omega) (by omega) (by omega)]; exact Y3 i k hi hk⟩, fun s hs => ⟨by rw [h 45 s (by omega) (by omega) (by omega)]; exact (Y4 s hs).1, fun e k hk => by rw [h 44 _ (by omega) (by omega) (by omega)]; exact (Y4 s hs).2 e k hk⟩, by rw [h2]; exact Y5, fun i hi => by rw [h 46 i (by omega) (by omega) (by omega)]; exact Y6 i hi⟩
set_option maxRecDepth 16384 in
theorem Ym_now (Y : Ym m w n S t K l x) {v : x_V} (R : Rv v w') : Ym (x_hs m 41 v) w' n S t K l x := by
  obtain ⟨Y1, ⟨Y2, Y3⟩, Y4, Y5, Y6⟩ := Y
  refine ⟨by rw [x_hs_eq]; exact R, ⟨by rw [x_hs_ne _ _ (by omega)]; exact Y2, fun i k hi hk => by rw [x_hs_ne _ _ (by omega)]; exact Y3 i k hi hk⟩, fun s hs => ⟨by rw [x_hs_ne _ _ (by omega)]; exact (Y4 s hs).1, fun e k hk => by rw [x_hs_ne _ _ (by omega)]; exact (Y4 s hs).2 e k hk⟩, by rw [x_hs_ne _ _ (by omega)]; exact Y5, fun i hi => by rw [x_hs_ne _ _ (by omega)]; exact Y6 i hi⟩
set_option maxRecDepth 16384 in
theorem Ym_rf (Y : Ym m w n S t K l x) (y : Int32) : Ym (x_hu m 40 0 y) w n S t K l x := Ym_of Y (fun k i a b c => x_hu_ne (by omega)) (x_hu_ni (by omega)) (x_hu_ni (by omega))
set_option maxRecDepth 16384 in
theorem Yn_save (N : Yn A w n S t K l x) : Yn A w (n_sn n) (n_sS w n S) t K l x := by
  obtain ⟨B, F, ⟨hn, hS⟩, hK, hx, h1, h2, h3⟩ := N
  refine ⟨B, F, ⟨by unfold n_sn; split <;> omega, fun i hi => ?_⟩, hK, hx, h1, h2, h3⟩
  unfold n_sn at hi
  show Wf B (if n = 6 then (if i < 5 then S (i + 1) else w) else (if i = n then w else S i))
  by_cases c : n = 6
  · rw [if_pos c]
    by_cases c1 : i < 5
    · rw [if_pos c1]; exact hS _ (by omega)
    · rw [if_neg c1]; exact F
  · rw [if_neg c]
    rw [if_neg c] at hi
    by_cases c1 : i = n
    · rw [if_pos c1]; exact F
    · rw [if_neg c1]; exact hS _ (by omega)
set_option maxRecDepth 16384 in
theorem Yn_up {A' : Nat} (N : Yn A w n S t K l x) (h : A ≤ A') (h9 : A' ≤ 700000000) : Yn A' w n S t K l x := by
  obtain ⟨B, F, hS, hK, hx, h1, h2, h3⟩ := N
  exact ⟨B, F, hS, hK, hx, h1, by omega, h9⟩
set_option maxRecDepth 16384 in
theorem Yn_now {A' : Nat} (D : Nat) (N : Yn A w n S t K l x) (hw : ∀ B, Wf B w → B + D ≤ 700000000 → Wf (B + D) w') (h : A + D ≤ A') (h9 : A' ≤ 700000000) : Yn A' w' n S t K l x := by
  obtain ⟨B, F, ⟨hn, hS⟩, hK, hx, h1, h2, h3⟩ := N
  exact ⟨B + D, hw B F (by omega), ⟨hn, fun i hi => Wf_up (hS i hi) (by omega) (by omega)⟩, fun s hs => ⟨(hK s hs).1, fun e => Wf_up ((hK s hs).2 e) (by omega) (by omega)⟩, hx, by omega, by omega, h9⟩
set_option maxRecDepth 16384 in
theorem Sy_mk (Y : Yc σ w n S t K l x) (M : Ym m w n S t K l x) (N : Yn A w n S t K l x) (h : ∀ j, j ≠ 11 → j ≠ 12 → τ j = σ j) (h11 : τ 11 = m) : Sy A τ := by
  have hn : n ≤ 6 := by obtain ⟨B, F, ⟨hn, -⟩, -⟩ := N; exact hn
  refine ⟨w, n, S, t, K, l, x, Yc_of Y hn (h 0 (by omega) (by omega)) (fun j h1 h2 => h j (by omega) (by omega)) (fun k i _ => by rw [h 10 (by omega) (by omega)]), by rw [h11]; exact M, N⟩
set_option maxRecDepth 16384 in
theorem lgc (y : Int64) : lg_cmp y y = 0 := (lg_eq0 _ _).mpr rfl
set_option maxRecDepth 16384 in
theorem c00 : Int32.toNatClampNeg (0 : Int32) = 0 := rfl
set_option maxRecDepth 16384 in
theorem nn_pos {k : Nat} (h : 0 < k) (h9 : k < 2147483648) : ¬ nn k = 0 := fun e => by have := (nn_inj (b := 0) h9 (by omega)).mp e; omega
set_option maxRecDepth 16384 in
theorem out12 (τ : x_S) (u : x_H) (y : Int32) : x_sh τ 12 (x_hu u 48 (Int32.toNatClampNeg (0 : Int32)) y) 12 48 0 = y := by rw [x_sh_eq, c00, x_hu_eq rfl rfl]
def gI (P : Option (Int32 × x_S)) (M : x_H → Option (Int32 × x_H)) : Option x_S := (Option.bind P fun r1 => (Option.bind (M (r1.2 11)) fun r3 => x_let (x_sh r1.2 11 r3.2) fun τ5 => (Option.bind (fX7_thrown (τ5 11) ) fun r7 => (if r7 = r1.1 then (if r1.1 = 0 then (if (lg_cmp (τ5 12 48 (Int32.toNatClampNeg (0 : Int32))).toInt64 (r3.1).toInt64) = 0 then some τ5 else none) else some τ5) else none))))
def gB (P : Option (Int32 × x_S)) (M : x_H → Option (Int32 × x_H)) : Option x_S := (Option.bind P fun r1 => (Option.bind (M (r1.2 11)) fun r3 => x_let (x_sh r1.2 11 r3.2) fun τ5 => (Option.bind (fX7_thrown (τ5 11) ) fun r7 => (if r7 = r1.1 then (if r1.1 = 0 then (if r3.1 = 0 then (if (lg_cmp (τ5 12 48 (Int32.toNatClampNeg (0 : Int32))).toInt64 (0 : Int64)) = 0 then some τ5 else none) else (if (lg_cmp (τ5 12 48 (Int32.toNatClampNeg (0 : Int32))).toInt64 (1 : Int64)) = 0 then some τ5 else none)) else some τ5) else none))))
def gN (P : Option (Int32 × x_S)) (M : x_H → Option x_H) : Option x_S := (Option.bind P fun r1 => (Option.bind (M (r1.2 11)) fun r3 => x_let (x_sh r1.2 11 r3) fun τ5 => (Option.bind (fX7_thrown (τ5 11) ) fun r7 => (if r7 = r1.1 then some τ5 else none))))
def gC (P : Option (Int32 × x_S)) (M : x_H → Option (Int32 × x_H)) : Option x_S := (Option.bind P fun r1 => (Option.bind (M (r1.2 11)) fun r3 => x_let (x_sh r1.2 11 r3.2) fun τ5 => (if r1.1 = r3.1 then some τ5 else none)))
def gD (σ : x_S) (P : Option Int32) (M : x_H → Option (Int32 × x_H)) : Option x_S := (Option.bind P fun r1 => (Option.bind (M (σ 11)) fun r3 => x_let (x_sh σ 11 r3.2) fun τ5 => (if r1 = r3.1 then some τ5 else none)))
set_option maxRecDepth 16384 in
theorem gI_run {P : Option (Int32 × x_S)} {M : x_H → Option (Int32 × x_H)} (h : Ok P (fun r1 => Ok (M (r1.2 11)) (fun r3 => r3.2 40 0 = r1.1 ∧ (r1.1 = 0 → r1.2 12 48 0 = r3.1) ∧ Sy A (x_sh r1.2 11 r3.2)))) : Ok (gI P M) (Sy A) := by
  unfold gI
  refine Ok_bind h (fun r1 h1 => Ok_bind h1 (fun r3 h3 => Ok_let (fun τ5 h5 => ?_)))
  obtain ⟨a, b, c⟩ := h3
  have e11 : τ5 11 = r3.2 := by rw [h5, x_sh_eq]
  rw [fX7_thrown, e11, xb_some, if_pos a]
  by_cases d : r1.1 = 0
  · have e12 : τ5 12 48 (Int32.toNatClampNeg (0 : Int32)) = r3.1 := by rw [h5, x_sh_ne _ _ (by omega)]; exact b d
    rw [if_pos d, e12, if_pos (lgc _), h5]
    exact Ok_some c
  · rw [if_neg d, h5]
    exact Ok_some c
set_option maxRecDepth 16384 in
theorem gB_run {P : Option (Int32 × x_S)} {M : x_H → Option (Int32 × x_H)} (h : Ok P (fun r1 => Ok (M (r1.2 11)) (fun r3 => r3.2 40 0 = r1.1 ∧ (r1.1 = 0 → (r1.2 12 48 0 = nn 0 ∧ r3.1 = nn 0) ∨ (r1.2 12 48 0 = nn 1 ∧ r3.1 = nn 1)) ∧ Sy A (x_sh r1.2 11 r3.2)))) : Ok (gB P M) (Sy A) := by
  unfold gB
  refine Ok_bind h (fun r1 h1 => Ok_bind h1 (fun r3 h3 => Ok_let (fun τ5 h5 => ?_)))
  obtain ⟨a, b, c⟩ := h3
  have e11 : τ5 11 = r3.2 := by rw [h5, x_sh_eq]
  rw [fX7_thrown, e11, xb_some, if_pos a]
  by_cases d : r1.1 = 0
  · have e12 : τ5 12 48 (Int32.toNatClampNeg (0 : Int32)) = r1.2 12 48 0 := by rw [h5, x_sh_ne _ _ (by omega)]; rfl
    rcases b d with ⟨b1, b2⟩ | ⟨b1, b2⟩
    · rw [if_pos d, e12, b1, b2, if_pos (show nn 0 = (0 : Int32) from rfl), if_pos ((lg_eq0 (nn 0).toInt64 (0 : Int64)).mpr (by decide)), h5]
      exact Ok_some c
    · rw [if_pos d, e12, b1, b2, if_neg (show ¬ nn 1 = (0 : Int32) from nn_one), if_pos ((lg_eq0 (nn 1).toInt64 (1 : Int64)).mpr (by decide)), h5]
      exact Ok_some c
  · rw [if_neg d, h5]
    exact Ok_some c
set_option maxRecDepth 16384 in
theorem gN_run {P : Option (Int32 × x_S)} {M : x_H → Option x_H} (h : Ok P (fun r1 => Ok (M (r1.2 11)) (fun r3 => r3 40 0 = r1.1 ∧ Sy A (x_sh r1.2 11 r3)))) : Ok (gN P M) (Sy A) := by
  unfold gN
  refine Ok_bind h (fun r1 h1 => Ok_bind h1 (fun r3 h3 => Ok_let (fun τ5 h5 => ?_)))
  obtain ⟨a, c⟩ := h3
  have e11 : τ5 11 = r3 := by rw [h5, x_sh_eq]
  rw [fX7_thrown, e11, xb_some, if_pos a, h5]
  exact Ok_some c
/- a refused call -/
set_option maxRecDepth 16384 in
theorem gI_exc {α : Type} {E : Option α} {f : α → Option (Int32 × x_S)} {C : Option (Int32 × x_S)} {M : x_H → Option (Int32 × x_H)} (q : α) (k : Nat) (hE : E = some q) (hf : f q = some (nn k, σ)) (hk : 0 < k) (hk9 : k < 9) (Y : Yc σ w n S t K l x) (N : Yn A w n S t K l x) (hM : Ok (M (σ 11)) (fun r => r.2 40 0 = nn k ∧ Ym r.2 w n S t K l x)) : Ok (gI (x_or E f C) M) (Sy A) := by
  rw [hE, xo_some, hf]
  exact gI_run (Ok_some (Ok_mono hM (fun r hr => ⟨hr.1, fun e => absurd e (nn_pos hk (by omega)), Sy_mk Y hr.2 N (fun j h _ => x_sh_ne _ _ h) (x_sh_eq _ _ _)⟩)))
set_option maxRecDepth 16384 in
theorem gB_exc {α : Type} {E : Option α} {f : α → Option (Int32 × x_S)} {C : Option (Int32 × x_S)} {M : x_H → Option (Int32 × x_H)} (q : α) (k : Nat) (hE : E = some q) (hf : f q = some (nn k, σ)) (hk : 0 < k) (hk9 : k < 9) (Y : Yc σ w n S t K l x) (N : Yn A w n S t K l x) (hM : Ok (M (σ 11)) (fun r => r.2 40 0 = nn k ∧ Ym r.2 w n S t K l x)) : Ok (gB (x_or E f C) M) (Sy A) := by
  rw [hE, xo_some, hf]
  exact gB_run (Ok_some (Ok_mono hM (fun r hr => ⟨hr.1, fun e => absurd e (nn_pos hk (by omega)), Sy_mk Y hr.2 N (fun j h _ => x_sh_ne _ _ h) (x_sh_eq _ _ _)⟩)))
set_option maxRecDepth 16384 in
theorem gN_exc {α : Type} {E : Option α} {f : α → Option (Int32 × x_S)} {C : Option (Int32 × x_S)} {M : x_H → Option x_H} (q : α) (k : Nat) (hE : E = some q) (hf : f q = some (nn k, σ)) (Y : Yc σ w n S t K l x) (N : Yn A w n S t K l x) (hM : Ok (M (σ 11)) (fun r => r 40 0 = nn k ∧ Ym r w n S t K l x)) : Ok (gN (x_or E f C) M) (Sy A) := by
  rw [hE, xo_some, hf]
  exact gN_run (Ok_some (Ok_mono hM (fun r hr => ⟨hr.1, Sy_mk Y hr.2 N (fun j h _ => x_sh_ne _ _ h) (x_sh_eq _ _ _)⟩)))
set_option maxRecDepth 16384 in
theorem Sy_mk2 {y : x_H} (Y : Yc τ w n S t K l x) (M : Ym m w n S t K l x) (N : Yn A w n S t K l x) : Sy A (x_sh (x_sh τ 12 y) 11 m) := Sy_mk Y M N (fun j h h2 => by rw [x_sh_ne _ _ h, x_sh_ne _ _ h2]) (x_sh_eq _ _ _)
/- a call that is answered, and changes something -/
set_option maxRecDepth 16384 in
theorem gI_val {α : Type} {E : Option α} {f : α → Option (Int32 × x_S)} {C : Option (Int32 × x_S)} {M : x_H → Option (Int32 × x_H)} (y : Int32) (hE : E = none) (hC : Ok C (fun r => r.1 = y ∧ Yc r.2 w n S t K l x ∧ r.2 11 = σ 11)) (N : Yn A w n S t K l x) (hM : Ok (M (σ 11)) (fun r => r.1 = y ∧ r.2 40 0 = nn 0 ∧ Ym r.2 w n S t K l x)) : Ok (gI (x_or E f (Option.bind C fun r5 => x_let (x_sh r5.2 12 (x_hu (r5.2 12) 48 (Int32.toNatClampNeg (0 : Int32)) (r5.1))) fun τ7 => some ((0 : Int32), τ7))) M) (Sy A) := by
  rw [hE, xo_none]
  refine gI_run (Ok_bind hC (fun r5 h5 => Ok_let (fun τ7 h7 => Ok_some ?_)))
  obtain ⟨a, b, c⟩ := h5
  show Ok (M (τ7 11)) _
  rw [h7, x_sh_ne _ _ (by omega), c]
  refine Ok_mono hM (fun r hr => ⟨hr.2.1, fun _ => ?_, Sy_mk2 b hr.2.2 N⟩)
  exact (out12 r5.2 (r5.2 12) r5.1).trans (a.trans hr.1.symm)
/- a call that asks alone -/
set_option maxRecDepth 16384 in
theorem gI_qry {α : Type} {E : Option α} {f : α → Option (Int32 × x_S)} {C : Option Int32} {M : x_H → Option (Int32 × x_H)} (y : Int32) (hE : E = none) (hC : C = some y) (Y : Yc σ w n S t K l x) (N : Yn A w n S t K l x) (hM : Ok (M (σ 11)) (fun r => r.1 = y ∧ r.2 40 0 = nn 0 ∧ Ym r.2 w n S t K l x)) : Ok (gI (x_or E f (Option.bind C fun r5 => x_let (x_sh σ 12 (x_hu (σ 12) 48 (Int32.toNatClampNeg (0 : Int32)) r5)) fun τ7 => some ((0 : Int32), τ7))) M) (Sy A) := by
  rw [hE, xo_none, hC, xb_some]
  refine gI_run (Ok_let (fun τ7 h7 => Ok_some ?_))
  show Ok (M (τ7 11)) _
  rw [h7, x_sh_ne _ _ (by omega)]
  refine Ok_mono hM (fun r hr => ⟨hr.2.1, fun _ => ?_, Sy_mk2 Y hr.2.2 N⟩)
  exact (out12 σ (σ 12) y).trans hr.1.symm
set_option maxRecDepth 16384 in
theorem gB_val {α : Type} {E : Option α} {f : α → Option (Int32 × x_S)} {C : Option (Int32 × x_S)} {M : x_H → Option (Int32 × x_H)} (c : Prop) [Decidable c] (hE : E = none) (hC : Ok C (fun r => r.1 = nn (if c then 1 else 0) ∧ Yc r.2 w n S t K l x ∧ r.2 11 = σ 11)) (N : Yn A w n S t K l x) (hM : Ok (M (σ 11)) (fun r => r.1 = nn (if c then 1 else 0) ∧ r.2 40 0 = nn 0 ∧ Ym r.2 w n S t K l x)) : Ok (gB (x_or E f (Option.bind C fun r4 => (if r4.1 = 0 then x_let (x_sh r4.2 12 (x_hu (r4.2 12) 48 (Int32.toNatClampNeg (0 : Int32)) (0 : Int32))) fun τ7 => some ((0 : Int32), τ7) else x_let (x_sh r4.2 12 (x_hu (r4.2 12) 48 (Int32.toNatClampNeg (0 : Int32)) (1 : Int32))) fun τ9 => some ((0 : Int32), τ9)))) M) (Sy A) := by
  rw [hE, xo_none]
  refine gB_run (Ok_bind hC (fun r5 h5 => ?_))
  obtain ⟨a, b, d⟩ := h5
  by_cases h : c
  · rw [if_pos h] at a hM
    rw [a, if_neg (show ¬ nn 1 = (0 : Int32) from nn_one)]
    refine Ok_let (fun τ7 h7 => Ok_some ?_)
    show Ok (M (τ7 11)) _
    rw [h7, x_sh_ne _ _ (by omega), d]
    refine Ok_mono hM (fun r hr => ⟨hr.2.1, fun _ => Or.inr ⟨?_, hr.1⟩, Sy_mk2 b hr.2.2 N⟩)
    exact out12 r5.2 (r5.2 12) (1 : Int32)
  · rw [if_neg h] at a hM
    rw [a, if_pos (show nn 0 = (0 : Int32) from rfl)]
    refine Ok_let (fun τ7 h7 => Ok_some ?_)
    show Ok (M (τ7 11)) _
    rw [h7, x_sh_ne _ _ (by omega), d]
    refine Ok_mono hM (fun r hr => ⟨hr.2.1, fun _ => Or.inl ⟨?_, hr.1⟩, Sy_mk2 b hr.2.2 N⟩)
    exact out12 r5.2 (r5.2 12) (0 : Int32)
set_option maxRecDepth 16384 in
theorem gB_qry {α : Type} {E : Option α} {f : α → Option (Int32 × x_S)} {C : Option Int32} {M : x_H → Option (Int32 × x_H)} (c : Prop) [Decidable c] (hE : E = none) (hC : C = some (nn (if c then 1 else 0))) (Y : Yc σ w n S t K l x) (N : Yn A w n S t K l x) (hM : Ok (M (σ 11)) (fun r => r.1 = nn (if c then 1 else 0) ∧ r.2 40 0 = nn 0 ∧ Ym r.2 w n S t K l x)) : Ok (gB (x_or E f (Option.bind C fun r4 => (if r4 = 0 then x_let (x_sh σ 12 (x_hu (σ 12) 48 (Int32.toNatClampNeg (0 : Int32)) (0 : Int32))) fun τ7 => some ((0 : Int32), τ7) else x_let (x_sh σ 12 (x_hu (σ 12) 48 (Int32.toNatClampNeg (0 : Int32)) (1 : Int32))) fun τ9 => some ((0 : Int32), τ9)))) M) (Sy A) := by
  rw [hE, xo_none, hC, xb_some]
  refine gB_run ?_
  by_cases h : c
  · rw [if_pos h] at hM ⊢
    rw [if_neg (show ¬ nn 1 = (0 : Int32) from nn_one)]
    refine Ok_let (fun τ7 h7 => Ok_some ?_)
    show Ok (M (τ7 11)) _
    rw [h7, x_sh_ne _ _ (by omega)]
    refine Ok_mono hM (fun r hr => ⟨hr.2.1, fun _ => Or.inr ⟨?_, hr.1⟩, Sy_mk2 Y hr.2.2 N⟩)
    exact out12 σ (σ 12) (1 : Int32)
  · rw [if_neg h] at hM ⊢
    rw [if_pos (show nn 0 = (0 : Int32) from rfl)]
    refine Ok_let (fun τ7 h7 => Ok_some ?_)
    show Ok (M (τ7 11)) _
    rw [h7, x_sh_ne _ _ (by omega)]
    refine Ok_mono hM (fun r hr => ⟨hr.2.1, fun _ => Or.inl ⟨?_, hr.1⟩, Sy_mk2 Y hr.2.2 N⟩)
    exact out12 σ (σ 12) (0 : Int32)
set_option maxRecDepth 16384 in
theorem gN_val {α : Type} {E : Option α} {f : α → Option (Int32 × x_S)} {C : Option x_S} {M : x_H → Option x_H} (hE : E = none) (hC : Ok C (fun r => Yc r w n S t K l x ∧ r 11 = σ 11)) (N : Yn A w n S t K l x) (hM : Ok (M (σ 11)) (fun r => r 40 0 = nn 0 ∧ Ym r w n S t K l x)) : Ok (gN (x_or E f (Option.bind C fun r5 => some ((0 : Int32), r5))) M) (Sy A) := by
  rw [hE, xo_none]
  refine gN_run (Ok_bind hC (fun r5 h5 => Ok_some ?_))
  obtain ⟨b, c⟩ := h5
  show Ok (M (r5 11)) _
  rw [c]
  exact Ok_mono hM (fun r hr => ⟨hr.1, Sy_mk b hr.2 N (fun j h _ => x_sh_ne _ _ h) (x_sh_eq _ _ _)⟩)
set_option maxRecDepth 16384 in
theorem gC_val {C : Option (Int32 × x_S)} {M : x_H → Option (Int32 × x_H)} (y : Int32) (hC : Ok C (fun r => r.1 = y ∧ Yc r.2 w n S t K l x ∧ r.2 11 = σ 11)) (N : Yn A w n S t K l x) (hM : Ok (M (σ 11)) (fun r => r.1 = y ∧ Ym r.2 w n S t K l x)) : Ok (gC C M) (Sy A) := by
  unfold gC
  refine Ok_bind hC (fun r1 h1 => ?_)
  obtain ⟨a, b, c⟩ := h1
  rw [c]
  refine Ok_bind hM (fun r3 h3 => Ok_let (fun τ5 h5 => ?_))
  rw [if_pos (a.trans h3.1.symm)]
  exact Ok_some (Sy_mk b h3.2 N (fun j h _ => by rw [h5, x_sh_ne _ _ h]) (by rw [h5, x_sh_eq]))
set_option maxRecDepth 16384 in
theorem gD_val {C : Option Int32} {M : x_H → Option (Int32 × x_H)} (y : Int32) (hC : C = some y) (Y : Yc σ w n S t K l x) (N : Yn A w n S t K l x) (hM : Ok (M (σ 11)) (fun r => r.1 = y ∧ Ym r.2 w n S t K l x)) : Ok (gD σ C M) (Sy A) := by
  unfold gD
  rw [hC, xb_some]
  refine Ok_bind hM (fun r3 h3 => Ok_let (fun τ5 h5 => ?_))
  rw [if_pos h3.1.symm]
  exact Ok_some (Sy_mk Y h3.2 N (fun j h _ => by rw [h5, x_sh_ne _ _ h]) (by rw [h5, x_sh_eq]))
/-! what the model does with its arguments -/
set_option maxRecDepth 16384 in
theorem rfb0 (u : x_H) : (Option.bind (fX7_refused u (0 : Int32)) fun r4 => if vp_nar .boolean r4.1 = r4.1 then some (r4.1, r4.2) else none) = some ((0 : Int32), x_hu u 40 0 (0 : Int32)) := by rw [rf0, xb_some, if_pos vpb0]
set_option maxRecDepth 16384 in
theorem rfb1 (u : x_H) : (Option.bind (fX7_refused u (1 : Int32)) fun r4 => if vp_nar .boolean r4.1 = r4.1 then some (r4.1, r4.2) else none) = some ((1 : Int32), x_hu u 40 0 (1 : Int32)) := by rw [rf1, xb_some, if_pos vpb1]
set_option maxRecDepth 16384 in
theorem rfb2 (u : x_H) : (Option.bind (fX7_refused u (2 : Int32)) fun r4 => if vp_nar .boolean r4.1 = r4.1 then some (r4.1, r4.2) else none) = some ((1 : Int32), x_hu u 40 0 (2 : Int32)) := by rw [rf2, xb_some, if_pos vpb1]
set_option maxRecDepth 16384 in
theorem mg_no {a : Int32} (h : fX7_isGuest a = some 0) (u : x_H) : fX7_noGuest u a = some ((1 : Int32), x_hu u 40 0 (1 : Int32)) := by rw [fX7_noGuest, h, xb_some, if_pos rfl, rfb1]
set_option maxRecDepth 16384 in
theorem mg_ok {g : Nat} (h : g < 12) (u : x_H) : fX7_noGuest u (nn g) = some ((0 : Int32), x_hu u 40 0 (0 : Int32)) := by rw [fX7_noGuest, v_isGuest h, xb_some, if_neg nn_one, rfb0]
set_option maxRecDepth 16384 in
theorem mr_no {a : Int32} (h : fX7_isRoom a = some 0) (u : x_H) : fX7_noRoom u a = some ((1 : Int32), x_hu u 40 0 (1 : Int32)) := by rw [fX7_noRoom, h, xb_some, if_pos rfl, rfb1]
set_option maxRecDepth 16384 in
theorem mr_ok {g : Nat} (h : g < 16) (u : x_H) : fX7_noRoom u (nn g) = some ((0 : Int32), x_hu u 40 0 (0 : Int32)) := by rw [fX7_noRoom, v_isRoom h, xb_some, if_neg nn_one, rfb0]
set_option maxRecDepth 16384 in
theorem mh_no {a : Int32} (h : fX7_isGuest a = some 0) (u : x_H) : fX7_noHost u a = some ((1 : Int32), x_hu u 40 0 (1 : Int32)) := by rw [fX7_noHost, h, xb_some, if_pos rfl, rfb1]
set_option maxRecDepth 16384 in
theorem mh_ok {u : x_H} (R : Rv (u 41) w) (Z : Wz w) {g : Nat} (h : g < 12) : fX7_noHost u (nn g) = (if w (8 * g) = 3 then some ((0 : Int32), x_hu u 40 0 (0 : Int32)) else some ((1 : Int32), x_hu u 40 0 (2 : Int32))) := by
  have z := (Z.1 g h).1
  rw [fX7_noHost, v_isGuest h, xb_some, if_neg nn_one, v_doing R h, xb_some]
  by_cases c : w (8 * g) = 3
  · rw [if_pos (show nn (w (8 * g)) = (3 : Int32) by rw [c]; rfl), if_pos c, rfb0]
  · rw [if_neg (show ¬ nn (w (8 * g)) = (3 : Int32) from fun e => c ((nn_inj (b := 3) (by omega) (by omega)).mp e)), if_neg c, rfb2]
set_option maxRecDepth 16384 in
theorem mp_no {u : x_H} {a : Int32} (h : fX7_in a.toInt64 0 (u 41 552 - (1 : Int32)).toInt64 = some 0) : fX7_noPlace u a = some ((1 : Int32), x_hu u 40 0 (1 : Int32)) := by
  rw [fX7_noPlace, show Int32.toNatClampNeg (552 : Int32) = 552 from rfl, h, xb_some, if_pos rfl, rfb1]
set_option maxRecDepth 16384 in
theorem mp_ok {u : x_H} {a : Int32} (h : fX7_in a.toInt64 0 (u 41 552 - (1 : Int32)).toInt64 = some 1) : fX7_noPlace u a = some ((0 : Int32), x_hu u 40 0 (0 : Int32)) := by
  rw [fX7_noPlace, show Int32.toNatClampNeg (552 : Int32) = 552 from rfl, h, xb_some, if_neg nn_one, rfb0]
set_option maxRecDepth 16384 in
theorem rfz (u : x_H) (y : Int32) : x_hu u 40 0 y 40 0 = y := x_hu_eq rfl rfl
set_option maxRecDepth 16384 in
theorem hu41 (u : x_H) (y : Int32) : x_hu u 40 0 y 41 = u 41 := x_hs_ne _ _ (by omega)
end
