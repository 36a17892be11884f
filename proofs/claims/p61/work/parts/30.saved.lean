abbrev rm_X5_dropOldest : Room := { frames := 0, cells := 0, slots := 0, locals := 0 }
def fX5_dropOldest_b9 : Nat → x_S → Int32 → Int32 → Option x_S
  | 0, _, _, _ => none
  | n + 1, σ, y1, y2 => (if (Int32.toNatClampNeg y1) < 10 then (if (6 : Int32) ≤ y2 then x_let (x_sh σ 10 (x_hu (σ 10) 34 (Int32.toNatClampNeg (5 : Int32)) y1)) fun τ5 => x_let (x_sh τ5 10 (x_hu (τ5 10) 33 0 (5 : Int32))) fun τ7 => some (τ7) else (if x_in y2 6 then x_let (σ 10 34 (Int32.toNatClampNeg y2)) fun x11 => (if (Int32.toNatClampNeg x11) < 10 then (if x_in (y2 - (1 : Int32)) 6 then x_let (x_sh σ 10 (x_hu (σ 10) 34 (Int32.toNatClampNeg (y2 - (1 : Int32))) x11)) fun τ14 => x_let (y2 + (1 : Int32)) fun x16 => fX5_dropOldest_b9 n τ14 y1 x16 else none) else none) else none)) else none)
set_option maxHeartbeats 4000000 in
set_option maxRecDepth 100000 in
theorem wX5_dropOldest_b9 {p : Program} {l : Launch} {e : Env} {s : State} {m : MethodId} {args : Array Value} {below : List Frame} {meth : Method} {c : Code} {X : x_T} {r : x_S} (F : x_F p s m args meth c cX5_dropOldest 3 RX5 none) : ∀ (n : Nat) (σ : x_S) (y1 : Int32) (y2 : Int32) (H : Heap) (locs : List Loc) (ls : Array Slot), fX5_dropOldest_b9 n σ y1 y2 = some r → x_I X σ s H locs → lv_has ls 3 [(0, .ref (X.2.2 10 33)), (1, .ref (X.2.2 (Int32.toNatClampNeg y1) 0)), (2, .int y2)] → W p l e rm_X5_dropOldest s m args below meth c H locs 0 0 (MQ below (x_Qv X r s.heap.size) args s 0 0 (x_A X s.heap.size)) (F0 m 9 ls []) := by
  have hx := F.1
  have hb := F.2.1
  have hml := F.2.2.1
  have hown := F.2.2.2.1
  have hts := F.2.2.2.2.1
  intro n
  induction n with
  | zero =>
    intro σ y1 y2 H locs ls h
    rw [fX5_dropOldest_b9] at h
    cases h
  | succ n ih =>
    intro σ y1 y2 H locs ls h hI hl
    rw [fX5_dropOldest_b9] at h
    obtain ⟨g_y1, h⟩ := x_chk h
    refine lv_iload_n hx hb dX5_dropOldest_9 rfl (lv_at hl 2 rfl) ?_
    refine lv_bipush (v := 6) hx hb dX5_dropOldest_10 (by decide) ?_
    refine lv_icmp_ge (tgt := 35) hx hb dX5_dropOldest_12 (by decide) (fun c4 => ?_) (fun c4 => ?_)
    · have h := x_ift h c4
      refine lv_aload_n hx hb dX5_dropOldest_35 rfl (lv_at hl 0 rfl) ?_
      refine xsg_5_0 F hI (x_inO (by decide)) u_fl_X5_11 dX5_dropOldest_36 ?_
      refine lv_iconst (v := 5) hx hb dX5_dropOldest_39 (by decide) ?_
      refine lv_aload_n hx hb dX5_dropOldest_40 rfl (lv_at hl 1 rfl) ?_
      refine x_aast (n := 6) F hI (x_inO (by decide)) (fun _ => rfl) g_y1 (by decide) dX5_dropOldest_41 (fun H locs hI => ?_)
      obtain ⟨τ5, e6⟩ : ∃ z : x_S, z = (x_sh σ 10 (x_hu (σ 10) 34 (Int32.toNatClampNeg (5 : Int32)) y1)) := ⟨_, rfl⟩
      rw [← e6] at hI
      have h := x_let_at h e6
      refine lv_aload_n hx hb dX5_dropOldest_42 rfl (lv_at hl 0 rfl) ?_
      refine lv_iconst (v := 5) hx hb dX5_dropOldest_43 (by decide) ?_
      refine xsp_5_1 F hI (x_inO (by decide)) u_fl_X5_18 dX5_dropOldest_44 (fun H locs hI => ?_)
      obtain ⟨τ7, e8⟩ : ∃ z : x_S, z = (x_sh τ5 10 (x_hu (τ5 10) 33 0 (5 : Int32))) := ⟨_, rfl⟩
      rw [← e8] at hI
      have h := x_let_at h e8
      rw [x_some h]
      exact x_vret F hI dX5_dropOldest_47
    · have h := x_iff h c4
      refine lv_aload_n hx hb dX5_dropOldest_15 rfl (lv_at hl 0 rfl) ?_
      refine xsg_5_0 F hI (x_inO (by decide)) u_fl_X5_11 dX5_dropOldest_16 ?_
      refine lv_iload_n hx hb dX5_dropOldest_19 rfl (lv_at hl 2 rfl) ?_
      refine lv_iconst (v := 1) hx hb dX5_dropOldest_20 (by decide) ?_
      refine lv_isub hx hb dX5_dropOldest_21 ?_
      refine lv_aload_n hx hb dX5_dropOldest_22 rfl (lv_at hl 0 rfl) ?_
      refine xsg_5_0 F hI (x_inO (by decide)) u_fl_X5_11 dX5_dropOldest_23 ?_
      refine lv_iload_n hx hb dX5_dropOldest_26 rfl (lv_at hl 2 rfl) ?_
      obtain ⟨g9, h⟩ := x_chk h
      refine x_aald (n := 6) F hI (x_inO (by decide)) (fun _ => rfl) g9 dX5_dropOldest_27 (fun x11 e12 => ?_)
      have h := x_let_at h e12
      obtain ⟨g10, h⟩ := x_chk h
      obtain ⟨g13, h⟩ := x_chk h
      refine x_aast (n := 6) F hI (x_inO (by decide)) (fun _ => rfl) g10 g13 dX5_dropOldest_28 (fun H locs hI => ?_)
      obtain ⟨τ14, e15⟩ : ∃ z : x_S, z = (x_sh σ 10 (x_hu (σ 10) 34 (Int32.toNatClampNeg (y2 - (1 : Int32))) x11)) := ⟨_, rfl⟩
      rw [← e15] at hI
      have h := x_let_at h e15
      obtain ⟨x16, e17⟩ : ∃ z : Int32, z = (y2 + (1 : Int32)) := ⟨_, rfl⟩
      have h := x_let_at h e17
      refine lv_iinc (v := x16) (lv' := [(2, .int x16), (0, .ref (X.2.2 10 33)), (1, .ref (X.2.2 (Int32.toNatClampNeg y1) 0))]) hx hb dX5_dropOldest_29 hl (k := 2) rfl (by rw [e17]; rfl) (by decide) rfl (fun ls hl => ?_)
      refine lv_goto (tgt := 9) hx hb dX5_dropOldest_32 (by decide) ?_
      exact ih τ14 y1 x16 _ _ _ h hI (lv_sub hl [1, 2, 0] rfl)
def fX5_dropOldest (σ : x_S) : Option x_S := x_let (σ 10 34 (Int32.toNatClampNeg (0 : Int32))) fun x2 => (if (Int32.toNatClampNeg x2) < 10 then fX5_dropOldest_b9 400 σ x2 (1 : Int32) else none)
set_option maxHeartbeats 4000000 in
set_option maxRecDepth 100000 in
theorem mX5_dropOldest (l : Launch) (X : x_T) (sz : Nat) (σ : x_S) (r : x_S) (h : fX5_dropOldest σ  = some r) : Met l yX5_dropOldest (x_ws yX5_dropOldest cX5_dropOldest 3 none) rm_X5_dropOldest (x_Pc X σ sz [.ref (X.2.2 10 33)]) (x_Qv X r sz) 0 0 (x_A X sz) := by
  refine Met.ofW (cc := cX5_dropOldest) (maxL := 3) (ret := none) (by decide) rfl ?_
  intro p e s m args below meth c s₁ B hml hv
  obtain ⟨F, hI, rfl, rfl⟩ := x_begin B hml hv
  replace F : x_F p s m _ meth c cX5_dropOldest 3 RX5 none := F
  have hx := F.1
  have hb := F.2.1
  have hml := F.2.2.1
  have hown := F.2.2.2.1
  have hts := F.2.2.2.2.1
  refine x_entry (vs := [.ref (X.2.2 10 33)]) (n := 3) (Nat.le_of_ble_eq_true rfl) (fun ls hl => ?_)
  replace hl : lv_has ls 3 [(0, .ref (X.2.2 10 33))] := hl
  unfold fX5_dropOldest at h
  refine lv_aload_n hx hb dX5_dropOldest_0 rfl (lv_at hl 0 rfl) ?_
  refine xsg_5_0 F hI (x_inO (by decide)) u_fl_X5_11 dX5_dropOldest_1 ?_
  refine lv_iconst (v := 0) hx hb dX5_dropOldest_4 (by decide) ?_
  refine x_aald (n := 6) F hI (x_inO (by decide)) (fun _ => rfl) (by decide) dX5_dropOldest_5 (fun x2 e3 => ?_)
  have h := x_let_at h e3
  obtain ⟨g1, h⟩ := x_chk h
  refine lv_astore_n (lv' := [(1, .ref (X.2.2 (Int32.toNatClampNeg x2) 0)), (0, .ref (X.2.2 10 33))]) hx hb dX5_dropOldest_6 rfl hl (by decide) rfl (fun ls hl => ?_)
  refine lv_iconst (v := 1) hx hb dX5_dropOldest_7 (by decide) ?_
  refine lv_istore_n (lv' := [(2, .int (1)), (1, .ref (X.2.2 (Int32.toNatClampNeg x2) 0)), (0, .ref (X.2.2 10 33))]) hx hb dX5_dropOldest_8 rfl hl (by decide) rfl (fun ls hl => ?_)
  exact wX5_dropOldest_b9 F 400 σ x2 (1 : Int32) _ _ _ h hI (lv_sub hl [2, 1, 0] rfl)
abbrev rm_X5_push : Room := { frames := 4, cells := 0, slots := 0, locals := 89 }
def fX5_push_j13 (σ : x_S) : Option x_S := (if (σ 10 33 0) < 0 then some (σ) else (if (6 : Int32) ≤ (σ 10 33 0) then some (σ) else (if x_in (σ 10 33 0) 6 then x_let (σ 10 34 (Int32.toNatClampNeg (σ 10 33 0))) fun x8 => (if (Int32.toNatClampNeg x8) < 10 then (if 0 ≠ (Int32.toNatClampNeg x8) then x_let (x_sh σ (Int32.toNatClampNeg x8) (σ 0)) fun τ10 => x_let (x_sh τ10 10 (x_hu (τ10 10) 33 0 ((τ10 10 33 0) + (1 : Int32)))) fun τ13 => some (τ13) else none) else none) else none)))
set_option maxHeartbeats 4000000 in
set_option maxRecDepth 100000 in
theorem wX5_push_j13 {p : Program} {l : Launch} {e : Env} {s : State} {m : MethodId} {args : Array Value} {below : List Frame} {meth : Method} {c : Code} {X : x_T} {r : x_S} (F : x_F p s m args meth c cX5_push 2 RX5 none) (σ : x_S) (H : Heap) (locs : List Loc) (ls : Array Slot) (h : fX5_push_j13 σ = some r) (hI : x_I X σ s H locs) (hl : lv_has ls 2 [(0, .ref (X.2.2 10 33)), (1, .ref (X.2.2 0 0))]) : W p l e rm_X5_push s m args below meth c H locs 0 0 (MQ below (x_Qv X r s.heap.size) args s 0 0 (x_A X s.heap.size)) (F0 m 13 ls []) := by
  have hx := F.1
  have hb := F.2.1
  have hml := F.2.2.1
  have hown := F.2.2.2.1
  have hts := F.2.2.2.2.1
  unfold fX5_push_j13 at h
  refine lv_aload_n hx hb dX5_push_13 rfl (lv_at hl 0 rfl) ?_
  refine xsg_5_1 F hI (x_inO (by decide)) u_fl_X5_18 dX5_push_14 ?_
  refine lv_if_lt (tgt := 52) hx hb dX5_push_17 (by decide) (fun c4 => ?_) (fun c4 => ?_)
  · have h := x_ift h c4
    rw [x_some h]
    exact x_vret F hI dX5_push_52
  · have h := x_iff h c4
    refine lv_aload_n hx hb dX5_push_20 rfl (lv_at hl 0 rfl) ?_
    refine xsg_5_1 F hI (x_inO (by decide)) u_fl_X5_18 dX5_push_21 ?_
    refine lv_bipush (v := 6) hx hb dX5_push_24 (by decide) ?_
    refine lv_icmp_ge (tgt := 52) hx hb dX5_push_26 (by decide) (fun c5 => ?_) (fun c5 => ?_)
    · have h := x_ift h c5
      rw [x_some h]
      exact x_vret F hI dX5_push_52
    · have h := x_iff h c5
      refine lv_aload_n hx hb dX5_push_29 rfl (lv_at hl 0 rfl) ?_
      refine xsg_5_0 F hI (x_inO (by decide)) u_fl_X5_11 dX5_push_30 ?_
      refine lv_aload_n hx hb dX5_push_33 rfl (lv_at hl 0 rfl) ?_
      refine xsg_5_1 F hI (x_inO (by decide)) u_fl_X5_18 dX5_push_34 ?_
      obtain ⟨g6, h⟩ := x_chk h
      refine x_aald (n := 6) F hI (x_inO (by decide)) (fun _ => rfl) g6 dX5_push_37 (fun x8 e9 => ?_)
      have h := x_let_at h e9
      obtain ⟨g7, h⟩ := x_chk h
      refine lv_aload_n hx hb dX5_push_38 rfl (lv_at hl 1 rfl) ?_
      obtain ⟨g12, h⟩ := x_chk h
      refine x_acv hI (x_runV (rest := []) F hI (mX2_copyFromN l X σ 0 (Int32.toNatClampNeg x8) (show 0 < 10 by decide) g7 g12 _) g_X5_25 ⟨rfl, hd_X2_copyFrom⟩ ⟨by decide, by decide⟩ ⟨rfl, rfl⟩ (x_inH g7 (by decide)) rfl rfl rfl rfl hl.1 rfl (Nat.le_of_ble_eq_true rfl) dX5_push_39 ⟨Nat.zero_le _, Nat.zero_le _⟩) (fun H locs hI => ?_)
      obtain ⟨τ10, e11⟩ : ∃ z : x_S, z = (x_sh σ (Int32.toNatClampNeg x8) (σ 0)) := ⟨_, rfl⟩
      rw [← e11] at hI
      have h := x_let_at h e11
      refine lv_aload_n hx hb dX5_push_42 rfl (lv_at hl 0 rfl) ?_
      refine lv_dup hx hb dX5_push_43 rfl ?_
      refine xsg_5_1 F hI (x_inO (by decide)) u_fl_X5_18 dX5_push_44 ?_
      refine lv_iconst (v := 1) hx hb dX5_push_47 (by decide) ?_
      refine lv_iadd hx hb dX5_push_48 ?_
      refine xsp_5_1 F hI (x_inO (by decide)) u_fl_X5_18 dX5_push_49 (fun H locs hI => ?_)
      obtain ⟨τ13, e14⟩ : ∃ z : x_S, z = (x_sh τ10 10 (x_hu (τ10 10) 33 0 ((τ10 10 33 0) + (1 : Int32)))) := ⟨_, rfl⟩
      rw [← e14] at hI
      have h := x_let_at h e14
      rw [x_some h]
      exact x_vret F hI dX5_push_52
def fX5_push (σ : x_S) : Option x_S := (if (σ 10 33 0) < (6 : Int32) then fX5_push_j13 σ else (Option.bind (fX5_dropOldest σ ) fun r2 => fX5_push_j13 r2))
set_option maxHeartbeats 4000000 in
set_option maxRecDepth 100000 in
theorem mX5_push (l : Launch) (X : x_T) (sz : Nat) (σ : x_S) (r : x_S) (h : fX5_push σ  = some r) : Met l yX5_push (x_ws yX5_push cX5_push 2 none) rm_X5_push (x_Pc X σ sz [.ref (X.2.2 10 33), .ref (X.2.2 0 0)]) (x_Qv X r sz) 0 0 (x_A X sz) := by
  refine Met.ofW (cc := cX5_push) (maxL := 2) (ret := none) (by decide) rfl ?_
  intro p e s m args below meth c s₁ B hml hv
  obtain ⟨F, hI, rfl, rfl⟩ := x_begin B hml hv
  replace F : x_F p s m _ meth c cX5_push 2 RX5 none := F
  have hx := F.1
  have hb := F.2.1
  have hml := F.2.2.1
  have hown := F.2.2.2.1
  have hts := F.2.2.2.2.1
  refine x_entry (vs := [.ref (X.2.2 10 33), .ref (X.2.2 0 0)]) (n := 2) (Nat.le_of_ble_eq_true rfl) (fun ls hl => ?_)
  replace hl : lv_has ls 2 [(0, .ref (X.2.2 10 33)), (1, .ref (X.2.2 0 0))] := hl
  unfold fX5_push at h
  refine lv_aload_n hx hb dX5_push_0 rfl (lv_at hl 0 rfl) ?_
  refine xsg_5_1 F hI (x_inO (by decide)) u_fl_X5_18 dX5_push_1 ?_
  refine lv_bipush (v := 6) hx hb dX5_push_4 (by decide) ?_
  refine lv_icmp_lt (tgt := 13) hx hb dX5_push_6 (by decide) (fun c1 => ?_) (fun c1 => ?_)
  · have h := x_ift h c1
    exact wX5_push_j13 F σ _ _ _ h hI (lv_sub hl [0, 1] rfl)
  · have h := x_iff h c1
    refine lv_aload_n hx hb dX5_push_9 rfl (lv_at hl 0 rfl) ?_
    obtain ⟨r2, h3, h⟩ := x_bnd h
    refine x_acv hI (x_runV (rest := []) F hI (mX5_dropOldest l X _ σ  r2 h3) g_X5_22 ⟨rfl, hd_X5_dropOldest⟩ ⟨by decide, by decide⟩ ⟨rfl, rfl⟩ (x_inO (by decide)) rfl rfl rfl rfl hl.1 rfl (Nat.le_of_ble_eq_true rfl) dX5_push_10 ⟨Nat.zero_le _, Nat.zero_le _⟩) (fun H locs hI => ?_)
    exact wX5_push_j13 F r2 _ _ _ h hI (lv_sub hl [0, 1] rfl)
abbrev rm_X5_popTo : Room := { frames := 4, cells := 0, slots := 0, locals := 89 }
def fX5_popTo (σ : x_S) : Option x_S := (if (σ 10 33 0) ≤ 0 then some (σ) else (if (6 : Int32) < (σ 10 33 0) then some (σ) else x_let (x_sh σ 10 (x_hu (σ 10) 33 0 ((σ 10 33 0) - (1 : Int32)))) fun τ3 => (if x_in (τ3 10 33 0) 6 then x_let (τ3 10 34 (Int32.toNatClampNeg (τ3 10 33 0))) fun x7 => (if (Int32.toNatClampNeg x7) < 10 then (if (Int32.toNatClampNeg x7) ≠ 0 then x_let (x_sh τ3 0 (τ3 (Int32.toNatClampNeg x7))) fun τ9 => some (τ9) else none) else none) else none)))
set_option maxHeartbeats 4000000 in
set_option maxRecDepth 100000 in
theorem mX5_popTo (l : Launch) (X : x_T) (sz : Nat) (σ : x_S) (r : x_S) (h : fX5_popTo σ  = some r) : Met l yX5_popTo (x_ws yX5_popTo cX5_popTo 2 none) rm_X5_popTo (x_Pc X σ sz [.ref (X.2.2 10 33), .ref (X.2.2 0 0)]) (x_Qv X r sz) 0 0 (x_A X sz) := by
  refine Met.ofW (cc := cX5_popTo) (maxL := 2) (ret := none) (by decide) rfl ?_
  intro p e s m args below meth c s₁ B hml hv
  obtain ⟨F, hI, rfl, rfl⟩ := x_begin B hml hv
  replace F : x_F p s m _ meth c cX5_popTo 2 RX5 none := F
  have hx := F.1
  have hb := F.2.1
  have hml := F.2.2.1
  have hown := F.2.2.2.1
  have hts := F.2.2.2.2.1
  refine x_entry (vs := [.ref (X.2.2 10 33), .ref (X.2.2 0 0)]) (n := 2) (Nat.le_of_ble_eq_true rfl) (fun ls hl => ?_)
  replace hl : lv_has ls 2 [(0, .ref (X.2.2 10 33)), (1, .ref (X.2.2 0 0))] := hl
  unfold fX5_popTo at h
  refine lv_aload_n hx hb dX5_popTo_0 rfl (lv_at hl 0 rfl) ?_
  refine xsg_5_1 F hI (x_inO (by decide)) u_fl_X5_18 dX5_popTo_1 ?_
  refine lv_if_le (tgt := 39) hx hb dX5_popTo_4 (by decide) (fun c1 => ?_) (fun c1 => ?_)
  · have h := x_ift h c1
    rw [x_some h]
    exact x_vret F hI dX5_popTo_39
  · have h := x_iff h c1
    refine lv_aload_n hx hb dX5_popTo_7 rfl (lv_at hl 0 rfl) ?_
    refine xsg_5_1 F hI (x_inO (by decide)) u_fl_X5_18 dX5_popTo_8 ?_
    refine lv_bipush (v := 6) hx hb dX5_popTo_11 (by decide) ?_
    refine lv_icmp_gt (tgt := 39) hx hb dX5_popTo_13 (by decide) (fun c2 => ?_) (fun c2 => ?_)
    · have h := x_ift h c2
      rw [x_some h]
      exact x_vret F hI dX5_popTo_39
    · have h := x_iff h c2
      refine lv_aload_n hx hb dX5_popTo_16 rfl (lv_at hl 0 rfl) ?_
      refine lv_dup hx hb dX5_popTo_17 rfl ?_
      refine xsg_5_1 F hI (x_inO (by decide)) u_fl_X5_18 dX5_popTo_18 ?_
      refine lv_iconst (v := 1) hx hb dX5_popTo_21 (by decide) ?_
      refine lv_isub hx hb dX5_popTo_22 ?_
      refine xsp_5_1 F hI (x_inO (by decide)) u_fl_X5_18 dX5_popTo_23 (fun H locs hI => ?_)
      obtain ⟨τ3, e4⟩ : ∃ z : x_S, z = (x_sh σ 10 (x_hu (σ 10) 33 0 ((σ 10 33 0) - (1 : Int32)))) := ⟨_, rfl⟩
      rw [← e4] at hI
      have h := x_let_at h e4
      refine lv_aload_n hx hb dX5_popTo_26 rfl (lv_at hl 1 rfl) ?_
      refine lv_aload_n hx hb dX5_popTo_27 rfl (lv_at hl 0 rfl) ?_
      refine xsg_5_0 F hI (x_inO (by decide)) u_fl_X5_11 dX5_popTo_28 ?_
      refine lv_aload_n hx hb dX5_popTo_31 rfl (lv_at hl 0 rfl) ?_
      refine xsg_5_1 F hI (x_inO (by decide)) u_fl_X5_18 dX5_popTo_32 ?_
      obtain ⟨g5, h⟩ := x_chk h
      refine x_aald (n := 6) F hI (x_inO (by decide)) (fun _ => rfl) g5 dX5_popTo_35 (fun x7 e8 => ?_)
      have h := x_let_at h e8
      obtain ⟨g6, h⟩ := x_chk h
      obtain ⟨g11, h⟩ := x_chk h
      refine x_acv hI (x_runV (rest := []) F hI (mX2_copyFromN l X τ3 (Int32.toNatClampNeg x7) 0 g6 (show 0 < 10 by decide) g11 _) g_X5_25 ⟨rfl, hd_X2_copyFrom⟩ ⟨by decide, by decide⟩ ⟨rfl, rfl⟩ (x_inH (show 0 < 10 by decide) (by decide)) rfl rfl rfl rfl hl.1 rfl (Nat.le_of_ble_eq_true rfl) dX5_popTo_36 ⟨Nat.zero_le _, Nat.zero_le _⟩) (fun H locs hI => ?_)
      obtain ⟨τ9, e10⟩ : ∃ z : x_S, z = (x_sh τ3 0 (τ3 (Int32.toNatClampNeg x7))) := ⟨_, rfl⟩
      rw [← e10] at hI
      have h := x_let_at h e10
      rw [x_some h]
      exact x_vret F hI dX5_popTo_39
