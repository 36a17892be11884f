abbrev rm_L_follows : Room := { frames := 9, cells := 251, slots := 1506, locals := 159 }
def fL_follows_j680 (k252 : x_S → Int32 → Int32 → Int32 → Int32 → Int32 → Int32 → Option (Int32 × x_S)) (σ : x_S) (y1 : Int32) (y6 : Int32) (y7 : Int32) (y9 : Int32) (y10 : Int32) (y13 : Int32) (y14 : Int64) : Option (Int32 × x_S) := (if y10 = 0 then x_let (y13 + (1 : Int32)) fun x192 => k252 σ y1 y6 y7 y9 (0 : Int32) x192 else (Option.bind (fL_doingOf σ y13) fun r194 => (if (lg_cmp r194.1 y14) = 0 then (Option.bind (fX6_messages r194.2 ) fun r197 => (if r197 = y7 then x_let (y13 + (1 : Int32)) fun x200 => k252 r194.2 y1 y6 y7 y9 (1 : Int32) x200 else x_let (y13 + (1 : Int32)) fun x202 => k252 r194.2 y1 y6 y7 y9 (0 : Int32) x202)) else x_let (y13 + (1 : Int32)) fun x204 => k252 r194.2 y1 y6 y7 y9 (0 : Int32) x204)))
set_option maxHeartbeats 4000000 in
set_option maxRecDepth 100000 in
theorem wL_follows_j680 {p : Program} {l : Launch} {e : Env} {s : State} {m : MethodId} {args : Array Value} {below : List Frame} {meth : Method} {c : Code} {X : x_T} {r : (Int32 × x_S)} (F : x_F p s m args meth c cL_follows 26 RL (some .boolean)) (Z : xm_Z l s X) (k252 : x_S → Int32 → Int32 → Int32 → Int32 → Int32 → Int32 → Option (Int32 × x_S)) (c252 : Nat) (hk252 : ∀ (σ : x_S) (y1 : Int32) (y6 : Int32) (y7 : Int32) (y9 : Int32) (y10 : Int32) (y13 : Int32) (H : Heap) (locs : List Loc) (ls : Array Slot) (cells slots : Nat), cells + c252 ≤ 251 ∧ slots + 6 * c252 ≤ 1506 → k252 σ y1 y6 y7 y9 y10 y13 = some r → x_I X σ s H locs → lv_has ls 26 [(0, .ref (X.2.2 10 32)), (1, .int y1), (6, .int y6), (7, .int y7), (9, .int y9), (10, .int y10), (13, .int y13)] → W p l e rm_L_follows s m args below meth c H locs cells slots (MQ below (x_Qi X r.1 r.2 s.heap.size) args s 251 1506 (x_A X s.heap.size)) (F0 m 252 ls [])) (σ : x_S) (y1 : Int32) (y6 : Int32) (y7 : Int32) (y9 : Int32) (y10 : Int32) (y13 : Int32) (y14 : Int64) (H : Heap) (locs : List Loc) (ls : Array Slot) (cells slots : Nat) (hf : cells + (1 + c252) ≤ 251 ∧ slots + 6 * (1 + c252) ≤ 1506) (h : fL_follows_j680 k252 σ y1 y6 y7 y9 y10 y13 y14 = some r) (hI : x_I X σ s H locs) (hl : lv_has ls 26 [(0, .ref (X.2.2 10 32)), (1, .int y1), (6, .int y6), (7, .int y7), (9, .int y9), (10, .int y10), (13, .int y13), (14, .long y14)]) : W p l e rm_L_follows s m args below meth c H locs cells slots (MQ below (x_Qi X r.1 r.2 s.heap.size) args s 251 1506 (x_A X s.heap.size)) (F0 m 680 ls []) := by
  have hx := F.1
  have hb := F.2.1
  have hml := F.2.2.1
  have hown := F.2.2.2.1
  have hts := F.2.2.2.2.1
  obtain ⟨hf1, hf2⟩ := hf
  unfold fL_follows_j680 at h
  refine lv_iload hx hb dL_follows_680 (lv_at hl 5 rfl) ?_
  refine lv_if_eq (tgt := 710) hx hb dL_follows_682 (by decide) (fun c191 => ?_) (fun c191 => ?_)
  · have h := x_ift h c191
    refine lv_iconst (v := 0) hx hb dL_follows_710 (by decide) ?_
    refine lv_istore (lv' := [(10, .int (0)), (0, .ref (X.2.2 10 32)), (1, .int y1), (6, .int y6), (7, .int y7), (9, .int y9), (13, .int y13), (14, .long y14)]) hx hb dL_follows_711 hl (by decide) rfl (fun ls hl => ?_)
    obtain ⟨x192, e193⟩ : ∃ z : Int32, z = (y13 + (1 : Int32)) := ⟨_, rfl⟩
    have h := x_let_at h e193
    refine lv_iinc (v := x192) (lv' := [(13, .int x192), (10, .int (0)), (0, .ref (X.2.2 10 32)), (1, .int y1), (6, .int y6), (7, .int y7), (9, .int y9), (14, .long y14)]) hx hb dL_follows_713 hl (k := 6) rfl (by rw [e193]; rfl) (by decide) rfl (fun ls hl => ?_)
    refine lv_goto (tgt := 252) hx hb dL_follows_716 (by decide) ?_
    exact hk252 σ y1 y6 y7 y9 (0 : Int32) x192 _ _ _ _ _ ⟨by omega, by omega⟩ h hI (lv_sub hl [2, 3, 4, 5, 6, 1, 0] rfl)
  · have h := x_iff h c191
    refine lv_aload_n hx hb dL_follows_685 rfl (lv_at hl 0 rfl) ?_
    refine lv_iload hx hb dL_follows_686 (lv_at hl 6 rfl) ?_
    obtain ⟨r194, h195, h⟩ := x_bnd h
    refine xm_acl hI (xw_run (rest := []) F Z.2 hI (mL_doingOf l Z.1 X _ σ y13 r194 h195) gw_L_179 hd_L_doingOf ⟨by decide, by decide⟩ ⟨rfl, rfl⟩ rfl hl.1 rfl (Nat.le_of_ble_eq_true rfl) dL_follows_688 ⟨(by show _ ≤ (251 : Nat); omega), (by show _ ≤ (1506 : Nat); omega)⟩) (fun H locs hI => ?_)
    refine lv_lload hx hb dL_follows_691 (lv_at hl 7 rfl) ?_
    refine W.lcmp hx hb dL_follows_693 ?_
    refine lv_if_ne (tgt := 710) hx hb dL_follows_694 (by decide) (fun c196 => ?_) (fun c196 => ?_)
    · have h := x_iff h c196
      refine lv_iconst (v := 0) hx hb dL_follows_710 (by decide) ?_
      refine lv_istore (lv' := [(10, .int (0)), (0, .ref (X.2.2 10 32)), (1, .int y1), (6, .int y6), (7, .int y7), (9, .int y9), (13, .int y13), (14, .long y14)]) hx hb dL_follows_711 hl (by decide) rfl (fun ls hl => ?_)
      obtain ⟨x204, e205⟩ : ∃ z : Int32, z = (y13 + (1 : Int32)) := ⟨_, rfl⟩
      have h := x_let_at h e205
      refine lv_iinc (v := x204) (lv' := [(13, .int x204), (10, .int (0)), (0, .ref (X.2.2 10 32)), (1, .int y1), (6, .int y6), (7, .int y7), (9, .int y9), (14, .long y14)]) hx hb dL_follows_713 hl (k := 6) rfl (by rw [e205]; rfl) (by decide) rfl (fun ls hl => ?_)
      refine lv_goto (tgt := 252) hx hb dL_follows_716 (by decide) ?_
      exact hk252 r194.2 y1 y6 y7 y9 (0 : Int32) x204 _ _ _ _ _ ⟨by omega, by omega⟩ h hI (lv_sub hl [2, 3, 4, 5, 6, 1, 0] rfl)
    · have h := x_ift h c196
      refine lv_aload_n hx hb dL_follows_697 rfl (lv_at hl 0 rfl) ?_
      obtain ⟨r197, h198, h⟩ := x_bnd h
      refine x_aci hI (x_runV (rest := []) F hI (mX6_messages l X _ r194.2  r197 h198) g_L_140 ⟨rfl, hd_X6_messages⟩ ⟨by decide, by decide⟩ ⟨rfl, rfl⟩ (x_inO (by decide)) rfl rfl rfl rfl hl.1 rfl (Nat.le_of_ble_eq_true rfl) dL_follows_698 ⟨(by show _ ≤ (251 : Nat); omega), (by show _ ≤ (1506 : Nat); omega)⟩) (fun H locs hI => ?_)
      refine lv_iload hx hb dL_follows_701 (lv_at hl 3 rfl) ?_
      refine lv_icmp_ne (tgt := 710) hx hb dL_follows_703 (by decide) (fun c199 => ?_) (fun c199 => ?_)
      · have h := x_iff h c199
        refine lv_iconst (v := 0) hx hb dL_follows_710 (by decide) ?_
        refine lv_istore (lv' := [(10, .int (0)), (0, .ref (X.2.2 10 32)), (1, .int y1), (6, .int y6), (7, .int y7), (9, .int y9), (13, .int y13), (14, .long y14)]) hx hb dL_follows_711 hl (by decide) rfl (fun ls hl => ?_)
        obtain ⟨x202, e203⟩ : ∃ z : Int32, z = (y13 + (1 : Int32)) := ⟨_, rfl⟩
        have h := x_let_at h e203
        refine lv_iinc (v := x202) (lv' := [(13, .int x202), (10, .int (0)), (0, .ref (X.2.2 10 32)), (1, .int y1), (6, .int y6), (7, .int y7), (9, .int y9), (14, .long y14)]) hx hb dL_follows_713 hl (k := 6) rfl (by rw [e203]; rfl) (by decide) rfl (fun ls hl => ?_)
        refine lv_goto (tgt := 252) hx hb dL_follows_716 (by decide) ?_
        exact hk252 r194.2 y1 y6 y7 y9 (0 : Int32) x202 _ _ _ _ _ ⟨by omega, by omega⟩ h hI (lv_sub hl [2, 3, 4, 5, 6, 1, 0] rfl)
      · have h := x_ift h c199
        refine lv_iconst (v := 1) hx hb dL_follows_706 (by decide) ?_
        refine lv_goto (tgt := 711) hx hb dL_follows_707 (by decide) ?_
        refine lv_istore (lv' := [(10, .int (1)), (0, .ref (X.2.2 10 32)), (1, .int y1), (6, .int y6), (7, .int y7), (9, .int y9), (13, .int y13), (14, .long y14)]) hx hb dL_follows_711 hl (by decide) rfl (fun ls hl => ?_)
        obtain ⟨x200, e201⟩ : ∃ z : Int32, z = (y13 + (1 : Int32)) := ⟨_, rfl⟩
        have h := x_let_at h e201
        refine lv_iinc (v := x200) (lv' := [(13, .int x200), (10, .int (1)), (0, .ref (X.2.2 10 32)), (1, .int y1), (6, .int y6), (7, .int y7), (9, .int y9), (14, .long y14)]) hx hb dL_follows_713 hl (k := 6) rfl (by rw [e201]; rfl) (by decide) rfl (fun ls hl => ?_)
        refine lv_goto (tgt := 252) hx hb dL_follows_716 (by decide) ?_
        exact hk252 r194.2 y1 y6 y7 y9 (1 : Int32) x200 _ _ _ _ _ ⟨by omega, by omega⟩ h hI (lv_sub hl [2, 3, 4, 5, 6, 1, 0] rfl)
def fL_follows_j449 (k252 : x_S → Int32 → Int32 → Int32 → Int32 → Int32 → Int32 → Option (Int32 × x_S)) (σ : x_S) (y1 : Int32) (y6 : Int32) (y7 : Int32) (y9 : Int32) (y13 : Int32) (y14 : Int64) (z0 : Int32) : Option (Int32 × x_S) := fL_follows_j680 k252 σ y1 y6 y7 y9 z0 y13 y14
set_option maxHeartbeats 4000000 in
set_option maxRecDepth 100000 in
theorem wL_follows_j449 {p : Program} {l : Launch} {e : Env} {s : State} {m : MethodId} {args : Array Value} {below : List Frame} {meth : Method} {c : Code} {X : x_T} {r : (Int32 × x_S)} (F : x_F p s m args meth c cL_follows 26 RL (some .boolean)) (Z : xm_Z l s X) (k252 : x_S → Int32 → Int32 → Int32 → Int32 → Int32 → Int32 → Option (Int32 × x_S)) (c252 : Nat) (hk252 : ∀ (σ : x_S) (y1 : Int32) (y6 : Int32) (y7 : Int32) (y9 : Int32) (y10 : Int32) (y13 : Int32) (H : Heap) (locs : List Loc) (ls : Array Slot) (cells slots : Nat), cells + c252 ≤ 251 ∧ slots + 6 * c252 ≤ 1506 → k252 σ y1 y6 y7 y9 y10 y13 = some r → x_I X σ s H locs → lv_has ls 26 [(0, .ref (X.2.2 10 32)), (1, .int y1), (6, .int y6), (7, .int y7), (9, .int y9), (10, .int y10), (13, .int y13)] → W p l e rm_L_follows s m args below meth c H locs cells slots (MQ below (x_Qi X r.1 r.2 s.heap.size) args s 251 1506 (x_A X s.heap.size)) (F0 m 252 ls [])) (σ : x_S) (y1 : Int32) (y6 : Int32) (y7 : Int32) (y9 : Int32) (y13 : Int32) (y14 : Int64) (z0 : Int32) (H : Heap) (locs : List Loc) (ls : Array Slot) (cells slots : Nat) (hf : cells + (1 + c252) ≤ 251 ∧ slots + 6 * (1 + c252) ≤ 1506) (h : fL_follows_j449 k252 σ y1 y6 y7 y9 y13 y14 z0 = some r) (hI : x_I X σ s H locs) (hl : lv_has ls 26 [(0, .ref (X.2.2 10 32)), (1, .int y1), (6, .int y6), (7, .int y7), (9, .int y9), (13, .int y13), (14, .long y14)]) : W p l e rm_L_follows s m args below meth c H locs cells slots (MQ below (x_Qi X r.1 r.2 s.heap.size) args s 251 1506 (x_A X s.heap.size)) (F0 m 449 ls [.int z0]) := by
  have hx := F.1
  have hb := F.2.1
  have hml := F.2.2.1
  have hown := F.2.2.2.1
  have hts := F.2.2.2.2.1
  obtain ⟨hf1, hf2⟩ := hf
  unfold fL_follows_j449 at h
  refine lv_istore (lv' := [(10, .int z0), (0, .ref (X.2.2 10 32)), (1, .int y1), (6, .int y6), (7, .int y7), (9, .int y9), (13, .int y13), (14, .long y14)]) hx hb dL_follows_449 hl (by decide) rfl (fun ls hl => ?_)
  refine lv_goto (tgt := 680) hx hb dL_follows_451 (by decide) ?_
  exact wL_follows_j680 F Z k252 c252 hk252 σ y1 y6 y7 y9 z0 y13 y14 _ _ _ _ _ ⟨by omega, by omega⟩ h hI (lv_sub hl [1, 2, 3, 4, 5, 0, 6, 7] rfl)
def fL_follows_j448 (k252 : x_S → Int32 → Int32 → Int32 → Int32 → Int32 → Int32 → Option (Int32 × x_S)) (σ : x_S) (y1 : Int32) (y6 : Int32) (y7 : Int32) (y9 : Int32) (y13 : Int32) (y14 : Int64) : Option (Int32 × x_S) := fL_follows_j449 k252 σ y1 y6 y7 y9 y13 y14 (0 : Int32)
set_option maxHeartbeats 4000000 in
set_option maxRecDepth 100000 in
theorem wL_follows_j448 {p : Program} {l : Launch} {e : Env} {s : State} {m : MethodId} {args : Array Value} {below : List Frame} {meth : Method} {c : Code} {X : x_T} {r : (Int32 × x_S)} (F : x_F p s m args meth c cL_follows 26 RL (some .boolean)) (Z : xm_Z l s X) (k252 : x_S → Int32 → Int32 → Int32 → Int32 → Int32 → Int32 → Option (Int32 × x_S)) (c252 : Nat) (hk252 : ∀ (σ : x_S) (y1 : Int32) (y6 : Int32) (y7 : Int32) (y9 : Int32) (y10 : Int32) (y13 : Int32) (H : Heap) (locs : List Loc) (ls : Array Slot) (cells slots : Nat), cells + c252 ≤ 251 ∧ slots + 6 * c252 ≤ 1506 → k252 σ y1 y6 y7 y9 y10 y13 = some r → x_I X σ s H locs → lv_has ls 26 [(0, .ref (X.2.2 10 32)), (1, .int y1), (6, .int y6), (7, .int y7), (9, .int y9), (10, .int y10), (13, .int y13)] → W p l e rm_L_follows s m args below meth c H locs cells slots (MQ below (x_Qi X r.1 r.2 s.heap.size) args s 251 1506 (x_A X s.heap.size)) (F0 m 252 ls [])) (σ : x_S) (y1 : Int32) (y6 : Int32) (y7 : Int32) (y9 : Int32) (y13 : Int32) (y14 : Int64) (H : Heap) (locs : List Loc) (ls : Array Slot) (cells slots : Nat) (hf : cells + (1 + c252) ≤ 251 ∧ slots + 6 * (1 + c252) ≤ 1506) (h : fL_follows_j448 k252 σ y1 y6 y7 y9 y13 y14 = some r) (hI : x_I X σ s H locs) (hl : lv_has ls 26 [(0, .ref (X.2.2 10 32)), (1, .int y1), (6, .int y6), (7, .int y7), (9, .int y9), (13, .int y13), (14, .long y14)]) : W p l e rm_L_follows s m args below meth c H locs cells slots (MQ below (x_Qi X r.1 r.2 s.heap.size) args s 251 1506 (x_A X s.heap.size)) (F0 m 448 ls []) := by
  have hx := F.1
  have hb := F.2.1
  have hml := F.2.2.1
  have hown := F.2.2.2.1
  have hts := F.2.2.2.2.1
  obtain ⟨hf1, hf2⟩ := hf
  unfold fL_follows_j448 at h
  refine lv_iconst (v := 0) hx hb dL_follows_448 (by decide) ?_
  exact wL_follows_j449 F Z k252 c252 hk252 σ y1 y6 y7 y9 y13 y14 (0 : Int32) _ _ _ _ _ ⟨by omega, by omega⟩ h hI (lv_sub hl [0, 1, 2, 3, 4, 5, 6] rfl)
def fL_follows_j406 (k252 : x_S → Int32 → Int32 → Int32 → Int32 → Int32 → Int32 → Option (Int32 × x_S)) (σ : x_S) (y1 : Int32) (y6 : Int32) (y7 : Int32) (y9 : Int32) (y13 : Int32) (y14 : Int64) : Option (Int32 × x_S) := (Option.bind (fL_giveUp σ y13) fun r122 => (if (lg_cmp r122.1 (1 : Int64)) = 0 then (Option.bind (fL_undo r122.2 ) fun r125 => (if (lg_cmp r125.1 (0 : Int64)) = 0 then (Option.bind (fL_undo r125.2 ) fun r128 => (if (lg_cmp r128.1 (0 : Int64)) = 0 then (Option.bind (fL_undo r128.2 ) fun r131 => (if (lg_cmp r131.1 (0 : Int64)) = 0 then fL_follows_j449 k252 r131.2 y1 y6 y7 y9 y13 y14 (1 : Int32) else fL_follows_j448 k252 r131.2 y1 y6 y7 y9 y13 y14)) else fL_follows_j448 k252 r128.2 y1 y6 y7 y9 y13 y14)) else fL_follows_j448 k252 r125.2 y1 y6 y7 y9 y13 y14)) else fL_follows_j448 k252 r122.2 y1 y6 y7 y9 y13 y14))
set_option maxHeartbeats 4000000 in
set_option maxRecDepth 100000 in
theorem wL_follows_j406 {p : Program} {l : Launch} {e : Env} {s : State} {m : MethodId} {args : Array Value} {below : List Frame} {meth : Method} {c : Code} {X : x_T} {r : (Int32 × x_S)} (F : x_F p s m args meth c cL_follows 26 RL (some .boolean)) (Z : xm_Z l s X) (k252 : x_S → Int32 → Int32 → Int32 → Int32 → Int32 → Int32 → Option (Int32 × x_S)) (c252 : Nat) (hk252 : ∀ (σ : x_S) (y1 : Int32) (y6 : Int32) (y7 : Int32) (y9 : Int32) (y10 : Int32) (y13 : Int32) (H : Heap) (locs : List Loc) (ls : Array Slot) (cells slots : Nat), cells + c252 ≤ 251 ∧ slots + 6 * c252 ≤ 1506 → k252 σ y1 y6 y7 y9 y10 y13 = some r → x_I X σ s H locs → lv_has ls 26 [(0, .ref (X.2.2 10 32)), (1, .int y1), (6, .int y6), (7, .int y7), (9, .int y9), (10, .int y10), (13, .int y13)] → W p l e rm_L_follows s m args below meth c H locs cells slots (MQ below (x_Qi X r.1 r.2 s.heap.size) args s 251 1506 (x_A X s.heap.size)) (F0 m 252 ls [])) (σ : x_S) (y1 : Int32) (y6 : Int32) (y7 : Int32) (y9 : Int32) (y13 : Int32) (y14 : Int64) (H : Heap) (locs : List Loc) (ls : Array Slot) (cells slots : Nat) (hf : cells + (5 + c252) ≤ 251 ∧ slots + 6 * (5 + c252) ≤ 1506) (h : fL_follows_j406 k252 σ y1 y6 y7 y9 y13 y14 = some r) (hI : x_I X σ s H locs) (hl : lv_has ls 26 [(0, .ref (X.2.2 10 32)), (1, .int y1), (6, .int y6), (7, .int y7), (9, .int y9), (13, .int y13), (14, .long y14)]) : W p l e rm_L_follows s m args below meth c H locs cells slots (MQ below (x_Qi X r.1 r.2 s.heap.size) args s 251 1506 (x_A X s.heap.size)) (F0 m 406 ls []) := by
  have hx := F.1
  have hb := F.2.1
  have hml := F.2.2.1
  have hown := F.2.2.2.1
  have hts := F.2.2.2.2.1
  obtain ⟨hf1, hf2⟩ := hf
  unfold fL_follows_j406 at h
  refine lv_aload_n hx hb dL_follows_406 rfl (lv_at hl 0 rfl) ?_
  refine lv_iload hx hb dL_follows_407 (lv_at hl 5 rfl) ?_
  obtain ⟨r122, h123, h⟩ := x_bnd h
  refine xm_acl hI (xw_run (rest := []) F Z.2 hI (mL_giveUp l Z.1 X _ σ y13 r122 h123) gw_L_150 hd_L_giveUp ⟨by decide, by decide⟩ ⟨rfl, rfl⟩ rfl hl.1 rfl (Nat.le_of_ble_eq_true rfl) dL_follows_409 ⟨(by show _ ≤ (251 : Nat); omega), (by show _ ≤ (1506 : Nat); omega)⟩) (fun H locs hI => ?_)
  refine lv_lconst (v := 1) hx hb dL_follows_412 (by decide) ?_
  refine W.lcmp hx hb dL_follows_413 ?_
  refine lv_if_ne (tgt := 448) hx hb dL_follows_414 (by decide) (fun c124 => ?_) (fun c124 => ?_)
  · have h := x_iff h c124
    exact wL_follows_j448 F Z k252 c252 hk252 r122.2 y1 y6 y7 y9 y13 y14 _ _ _ _ _ ⟨by omega, by omega⟩ h hI (lv_sub hl [0, 1, 2, 3, 4, 5, 6] rfl)
  · have h := x_ift h c124
    refine lv_aload_n hx hb dL_follows_417 rfl (lv_at hl 0 rfl) ?_
    obtain ⟨r125, h126, h⟩ := x_bnd h
    refine xm_acl hI (xw_run (rest := []) F Z.2 hI (mL_undo l Z.1 X _ r122.2  r125 h126) gw_L_273 hd_L_undo ⟨by decide, by decide⟩ ⟨rfl, rfl⟩ rfl hl.1 rfl (Nat.le_of_ble_eq_true rfl) dL_follows_418 ⟨(by show _ ≤ (251 : Nat); omega), (by show _ ≤ (1506 : Nat); omega)⟩) (fun H locs hI => ?_)
    refine lv_lconst (v := 0) hx hb dL_follows_421 (by decide) ?_
    refine W.lcmp hx hb dL_follows_422 ?_
    refine lv_if_ne (tgt := 448) hx hb dL_follows_423 (by decide) (fun c127 => ?_) (fun c127 => ?_)
    · have h := x_iff h c127
      exact wL_follows_j448 F Z k252 c252 hk252 r125.2 y1 y6 y7 y9 y13 y14 _ _ _ _ _ ⟨by omega, by omega⟩ h hI (lv_sub hl [0, 1, 2, 3, 4, 5, 6] rfl)
    · have h := x_ift h c127
      refine lv_aload_n hx hb dL_follows_426 rfl (lv_at hl 0 rfl) ?_
      obtain ⟨r128, h129, h⟩ := x_bnd h
      refine xm_acl hI (xw_run (rest := []) F Z.2 hI (mL_undo l Z.1 X _ r125.2  r128 h129) gw_L_273 hd_L_undo ⟨by decide, by decide⟩ ⟨rfl, rfl⟩ rfl hl.1 rfl (Nat.le_of_ble_eq_true rfl) dL_follows_427 ⟨(by show _ ≤ (251 : Nat); omega), (by show _ ≤ (1506 : Nat); omega)⟩) (fun H locs hI => ?_)
      refine lv_lconst (v := 0) hx hb dL_follows_430 (by decide) ?_
      refine W.lcmp hx hb dL_follows_431 ?_
      refine lv_if_ne (tgt := 448) hx hb dL_follows_432 (by decide) (fun c130 => ?_) (fun c130 => ?_)
      · have h := x_iff h c130
        exact wL_follows_j448 F Z k252 c252 hk252 r128.2 y1 y6 y7 y9 y13 y14 _ _ _ _ _ ⟨by omega, by omega⟩ h hI (lv_sub hl [0, 1, 2, 3, 4, 5, 6] rfl)
      · have h := x_ift h c130
        refine lv_aload_n hx hb dL_follows_435 rfl (lv_at hl 0 rfl) ?_
        obtain ⟨r131, h132, h⟩ := x_bnd h
        refine xm_acl hI (xw_run (rest := []) F Z.2 hI (mL_undo l Z.1 X _ r128.2  r131 h132) gw_L_273 hd_L_undo ⟨by decide, by decide⟩ ⟨rfl, rfl⟩ rfl hl.1 rfl (Nat.le_of_ble_eq_true rfl) dL_follows_436 ⟨(by show _ ≤ (251 : Nat); omega), (by show _ ≤ (1506 : Nat); omega)⟩) (fun H locs hI => ?_)
        refine lv_lconst (v := 0) hx hb dL_follows_439 (by decide) ?_
        refine W.lcmp hx hb dL_follows_440 ?_
        refine lv_if_ne (tgt := 448) hx hb dL_follows_441 (by decide) (fun c133 => ?_) (fun c133 => ?_)
        · have h := x_iff h c133
          exact wL_follows_j448 F Z k252 c252 hk252 r131.2 y1 y6 y7 y9 y13 y14 _ _ _ _ _ ⟨by omega, by omega⟩ h hI (lv_sub hl [0, 1, 2, 3, 4, 5, 6] rfl)
        · have h := x_ift h c133
          refine lv_iconst (v := 1) hx hb dL_follows_444 (by decide) ?_
          refine lv_goto (tgt := 449) hx hb dL_follows_445 (by decide) ?_
          exact wL_follows_j449 F Z k252 c252 hk252 r131.2 y1 y6 y7 y9 y13 y14 (1 : Int32) _ _ _ _ _ ⟨by omega, by omega⟩ h hI (lv_sub hl [0, 1, 2, 3, 4, 5, 6] rfl)
def fL_follows_j678 (k252 : x_S → Int32 → Int32 → Int32 → Int32 → Int32 → Int32 → Option (Int32 × x_S)) (σ : x_S) (y1 : Int32) (y6 : Int32) (y7 : Int32) (y9 : Int32) (y13 : Int32) (y14 : Int64) (z0 : Int32) : Option (Int32 × x_S) := fL_follows_j680 k252 σ y1 y6 y7 y9 z0 y13 y14
set_option maxHeartbeats 4000000 in
set_option maxRecDepth 100000 in
theorem wL_follows_j678 {p : Program} {l : Launch} {e : Env} {s : State} {m : MethodId} {args : Array Value} {below : List Frame} {meth : Method} {c : Code} {X : x_T} {r : (Int32 × x_S)} (F : x_F p s m args meth c cL_follows 26 RL (some .boolean)) (Z : xm_Z l s X) (k252 : x_S → Int32 → Int32 → Int32 → Int32 → Int32 → Int32 → Option (Int32 × x_S)) (c252 : Nat) (hk252 : ∀ (σ : x_S) (y1 : Int32) (y6 : Int32) (y7 : Int32) (y9 : Int32) (y10 : Int32) (y13 : Int32) (H : Heap) (locs : List Loc) (ls : Array Slot) (cells slots : Nat), cells + c252 ≤ 251 ∧ slots + 6 * c252 ≤ 1506 → k252 σ y1 y6 y7 y9 y10 y13 = some r → x_I X σ s H locs → lv_has ls 26 [(0, .ref (X.2.2 10 32)), (1, .int y1), (6, .int y6), (7, .int y7), (9, .int y9), (10, .int y10), (13, .int y13)] → W p l e rm_L_follows s m args below meth c H locs cells slots (MQ below (x_Qi X r.1 r.2 s.heap.size) args s 251 1506 (x_A X s.heap.size)) (F0 m 252 ls [])) (σ : x_S) (y1 : Int32) (y6 : Int32) (y7 : Int32) (y9 : Int32) (y13 : Int32) (y14 : Int64) (z0 : Int32) (H : Heap) (locs : List Loc) (ls : Array Slot) (cells slots : Nat) (hf : cells + (1 + c252) ≤ 251 ∧ slots + 6 * (1 + c252) ≤ 1506) (h : fL_follows_j678 k252 σ y1 y6 y7 y9 y13 y14 z0 = some r) (hI : x_I X σ s H locs) (hl : lv_has ls 26 [(0, .ref (X.2.2 10 32)), (1, .int y1), (6, .int y6), (7, .int y7), (9, .int y9), (13, .int y13), (14, .long y14)]) : W p l e rm_L_follows s m args below meth c H locs cells slots (MQ below (x_Qi X r.1 r.2 s.heap.size) args s 251 1506 (x_A X s.heap.size)) (F0 m 678 ls [.int z0]) := by
  have hx := F.1
  have hb := F.2.1
  have hml := F.2.2.1
  have hown := F.2.2.2.1
  have hts := F.2.2.2.2.1
  obtain ⟨hf1, hf2⟩ := hf
  unfold fL_follows_j678 at h
  refine lv_istore (lv' := [(10, .int z0), (0, .ref (X.2.2 10 32)), (1, .int y1), (6, .int y6), (7, .int y7), (9, .int y9), (13, .int y13), (14, .long y14)]) hx hb dL_follows_678 hl (by decide) rfl (fun ls hl => ?_)
  exact wL_follows_j680 F Z k252 c252 hk252 σ y1 y6 y7 y9 z0 y13 y14 _ _ _ _ _ ⟨by omega, by omega⟩ h hI (lv_sub hl [1, 2, 3, 4, 5, 0, 6, 7] rfl)
def fL_follows_j677 (k252 : x_S → Int32 → Int32 → Int32 → Int32 → Int32 → Int32 → Option (Int32 × x_S)) (σ : x_S) (y1 : Int32) (y6 : Int32) (y7 : Int32) (y9 : Int32) (y13 : Int32) (y14 : Int64) : Option (Int32 × x_S) := fL_follows_j678 k252 σ y1 y6 y7 y9 y13 y14 (0 : Int32)
set_option maxHeartbeats 4000000 in
set_option maxRecDepth 100000 in
theorem wL_follows_j677 {p : Program} {l : Launch} {e : Env} {s : State} {m : MethodId} {args : Array Value} {below : List Frame} {meth : Method} {c : Code} {X : x_T} {r : (Int32 × x_S)} (F : x_F p s m args meth c cL_follows 26 RL (some .boolean)) (Z : xm_Z l s X) (k252 : x_S → Int32 → Int32 → Int32 → Int32 → Int32 → Int32 → Option (Int32 × x_S)) (c252 : Nat) (hk252 : ∀ (σ : x_S) (y1 : Int32) (y6 : Int32) (y7 : Int32) (y9 : Int32) (y10 : Int32) (y13 : Int32) (H : Heap) (locs : List Loc) (ls : Array Slot) (cells slots : Nat), cells + c252 ≤ 251 ∧ slots + 6 * c252 ≤ 1506 → k252 σ y1 y6 y7 y9 y10 y13 = some r → x_I X σ s H locs → lv_has ls 26 [(0, .ref (X.2.2 10 32)), (1, .int y1), (6, .int y6), (7, .int y7), (9, .int y9), (10, .int y10), (13, .int y13)] → W p l e rm_L_follows s m args below meth c H locs cells slots (MQ below (x_Qi X r.1 r.2 s.heap.size) args s 251 1506 (x_A X s.heap.size)) (F0 m 252 ls [])) (σ : x_S) (y1 : Int32) (y6 : Int32) (y7 : Int32) (y9 : Int32) (y13 : Int32) (y14 : Int64) (H : Heap) (locs : List Loc) (ls : Array Slot) (cells slots : Nat) (hf : cells + (1 + c252) ≤ 251 ∧ slots + 6 * (1 + c252) ≤ 1506) (h : fL_follows_j677 k252 σ y1 y6 y7 y9 y13 y14 = some r) (hI : x_I X σ s H locs) (hl : lv_has ls 26 [(0, .ref (X.2.2 10 32)), (1, .int y1), (6, .int y6), (7, .int y7), (9, .int y9), (13, .int y13), (14, .long y14)]) : W p l e rm_L_follows s m args below meth c H locs cells slots (MQ below (x_Qi X r.1 r.2 s.heap.size) args s 251 1506 (x_A X s.heap.size)) (F0 m 677 ls []) := by
  have hx := F.1
  have hb := F.2.1
  have hml := F.2.2.1
  have hown := F.2.2.2.1
  have hts := F.2.2.2.2.1
  obtain ⟨hf1, hf2⟩ := hf
  unfold fL_follows_j677 at h
  refine lv_iconst (v := 0) hx hb dL_follows_677 (by decide) ?_
  exact wL_follows_j678 F Z k252 c252 hk252 σ y1 y6 y7 y9 y13 y14 (0 : Int32) _ _ _ _ _ ⟨by omega, by omega⟩ h hI (lv_sub hl [0, 1, 2, 3, 4, 5, 6] rfl)
def fL_follows_j604 (k252 : x_S → Int32 → Int32 → Int32 → Int32 → Int32 → Int32 → Option (Int32 × x_S)) (σ : x_S) (y1 : Int32) (y6 : Int32) (y7 : Int32) (y9 : Int32) (y10 : Int32) (y13 : Int32) (y14 : Int64) (y22 : Int64) : Option (Int32 × x_S) := (if y10 = 0 then fL_follows_j680 k252 σ y1 y6 y7 y9 y10 y13 y14 else (if (lg_cmp y22 (-9000000000000000003 : Int64)) = 0 then fL_follows_j680 k252 σ y1 y6 y7 y9 y10 y13 y14 else (if 0 < (lg_cmp y22 (100 : Int64)) then fL_follows_j680 k252 σ y1 y6 y7 y9 y10 y13 y14 else (if (20 : Int32) ≤ y7 then fL_follows_j680 k252 σ y1 y6 y7 y9 y10 y13 y14 else (Option.bind (fL_sent σ (2 : Int32)) fun r229 => (Option.bind (fL_tick r229.2 (y22).toInt32) fun r231 => (if (lg_cmp r231.1 (0 : Int64)) < 0 then fL_follows_j677 k252 r231.2 y1 y6 y7 y9 y13 y14 else (Option.bind (fL_sent r231.2 (2 : Int32)) fun r234 => (if (lg_cmp r234.1 r229.1) ≤ 0 then fL_follows_j677 k252 r234.2 y1 y6 y7 y9 y13 y14 else (Option.bind (fL_undo r234.2 ) fun r237 => (if (lg_cmp r237.1 (0 : Int64)) = 0 then fL_follows_j678 k252 r237.2 y1 y6 y7 y9 y13 y14 (1 : Int32) else fL_follows_j677 k252 r237.2 y1 y6 y7 y9 y13 y14)))))))))))
set_option maxHeartbeats 4000000 in
set_option maxRecDepth 100000 in
theorem wL_follows_j604 {p : Program} {l : Launch} {e : Env} {s : State} {m : MethodId} {args : Array Value} {below : List Frame} {meth : Method} {c : Code} {X : x_T} {r : (Int32 × x_S)} (F : x_F p s m args meth c cL_follows 26 RL (some .boolean)) (Z : xm_Z l s X) (k252 : x_S → Int32 → Int32 → Int32 → Int32 → Int32 → Int32 → Option (Int32 × x_S)) (c252 : Nat) (hk252 : ∀ (σ : x_S) (y1 : Int32) (y6 : Int32) (y7 : Int32) (y9 : Int32) (y10 : Int32) (y13 : Int32) (H : Heap) (locs : List Loc) (ls : Array Slot) (cells slots : Nat), cells + c252 ≤ 251 ∧ slots + 6 * c252 ≤ 1506 → k252 σ y1 y6 y7 y9 y10 y13 = some r → x_I X σ s H locs → lv_has ls 26 [(0, .ref (X.2.2 10 32)), (1, .int y1), (6, .int y6), (7, .int y7), (9, .int y9), (10, .int y10), (13, .int y13)] → W p l e rm_L_follows s m args below meth c H locs cells slots (MQ below (x_Qi X r.1 r.2 s.heap.size) args s 251 1506 (x_A X s.heap.size)) (F0 m 252 ls [])) (σ : x_S) (y1 : Int32) (y6 : Int32) (y7 : Int32) (y9 : Int32) (y10 : Int32) (y13 : Int32) (y14 : Int64) (y22 : Int64) (H : Heap) (locs : List Loc) (ls : Array Slot) (cells slots : Nat) (hf : cells + (5 + c252) ≤ 251 ∧ slots + 6 * (5 + c252) ≤ 1506) (h : fL_follows_j604 k252 σ y1 y6 y7 y9 y10 y13 y14 y22 = some r) (hI : x_I X σ s H locs) (hl : lv_has ls 26 [(0, .ref (X.2.2 10 32)), (1, .int y1), (6, .int y6), (7, .int y7), (9, .int y9), (10, .int y10), (13, .int y13), (14, .long y14), (22, .long y22)]) : W p l e rm_L_follows s m args below meth c H locs cells slots (MQ below (x_Qi X r.1 r.2 s.heap.size) args s 251 1506 (x_A X s.heap.size)) (F0 m 604 ls []) := by
  have hx := F.1
  have hb := F.2.1
  have hml := F.2.2.1
  have hown := F.2.2.2.1
  have hts := F.2.2.2.2.1
  obtain ⟨hf1, hf2⟩ := hf
  unfold fL_follows_j604 at h
  refine lv_iload hx hb dL_follows_604 (lv_at hl 5 rfl) ?_
  refine lv_if_eq (tgt := 680) hx hb dL_follows_606 (by decide) (fun c225 => ?_) (fun c225 => ?_)
  · have h := x_ift h c225
    exact wL_follows_j680 F Z k252 c252 hk252 σ y1 y6 y7 y9 y10 y13 y14 _ _ _ _ _ ⟨by omega, by omega⟩ h hI (lv_sub hl [0, 1, 2, 3, 4, 5, 6, 7] rfl)
  · have h := x_iff h c225
    refine lv_lload hx hb dL_follows_609 (lv_at hl 8 rfl) ?_
    refine lv_ldc2 (v := -9000000000000000003) hx hb hown (hts _ u_cl_L_21) dL_follows_611 ?_
    refine W.lcmp hx hb dL_follows_614 ?_
    refine lv_if_eq (tgt := 680) hx hb dL_follows_615 (by decide) (fun c226 => ?_) (fun c226 => ?_)
    · have h := x_ift h c226
      exact wL_follows_j680 F Z k252 c252 hk252 σ y1 y6 y7 y9 y10 y13 y14 _ _ _ _ _ ⟨by omega, by omega⟩ h hI (lv_sub hl [0, 1, 2, 3, 4, 5, 6, 7] rfl)
    · have h := x_iff h c226
      refine lv_lload hx hb dL_follows_618 (lv_at hl 8 rfl) ?_
      refine lv_ldc2 (v := 100) hx hb hown (hts _ u_cl_L_275) dL_follows_620 ?_
      refine W.lcmp hx hb dL_follows_623 ?_
      refine lv_if_gt (tgt := 680) hx hb dL_follows_624 (by decide) (fun c227 => ?_) (fun c227 => ?_)
      · have h := x_ift h c227
        exact wL_follows_j680 F Z k252 c252 hk252 σ y1 y6 y7 y9 y10 y13 y14 _ _ _ _ _ ⟨by omega, by omega⟩ h hI (lv_sub hl [0, 1, 2, 3, 4, 5, 6, 7] rfl)
      · have h := x_iff h c227
        refine lv_iload hx hb dL_follows_627 (lv_at hl 3 rfl) ?_
        refine lv_bipush (v := 20) hx hb dL_follows_629 (by decide) ?_
        refine lv_icmp_ge (tgt := 680) hx hb dL_follows_631 (by decide) (fun c228 => ?_) (fun c228 => ?_)
        · have h := x_ift h c228
          exact wL_follows_j680 F Z k252 c252 hk252 σ y1 y6 y7 y9 y10 y13 y14 _ _ _ _ _ ⟨by omega, by omega⟩ h hI (lv_sub hl [0, 1, 2, 3, 4, 5, 6, 7] rfl)
        · have h := x_iff h c228
          refine lv_aload_n hx hb dL_follows_634 rfl (lv_at hl 0 rfl) ?_
          refine lv_iconst (v := 2) hx hb dL_follows_635 (by decide) ?_
          obtain ⟨r229, h230, h⟩ := x_bnd h
          refine xm_acl hI (xw_run (rest := []) F Z.2 hI (mL_sent l Z.1 X _ σ (2 : Int32) r229 h230) gw_L_210 hd_L_sent ⟨by decide, by decide⟩ ⟨rfl, rfl⟩ rfl hl.1 rfl (Nat.le_of_ble_eq_true rfl) dL_follows_636 ⟨(by show _ ≤ (251 : Nat); omega), (by show _ ≤ (1506 : Nat); omega)⟩) (fun H locs hI => ?_)
          refine lv_lstore (lv' := [(24, .long r229.1), (0, .ref (X.2.2 10 32)), (1, .int y1), (6, .int y6), (7, .int y7), (9, .int y9), (10, .int y10), (13, .int y13), (14, .long y14), (22, .long y22)]) hx hb dL_follows_639 hl (by decide) rfl (fun ls hl => ?_)
          refine lv_aload_n hx hb dL_follows_641 rfl (lv_at hl 1 rfl) ?_
          refine lv_lload hx hb dL_follows_642 (lv_at hl 9 rfl) ?_
          refine lv_l2i hx hb dL_follows_644 rfl ?_
          obtain ⟨r231, h232, h⟩ := x_bnd h
          refine xm_acl hI (xw_run (rest := []) F Z.2 hI (mL_tick l Z.1 X _ r229.2 (y22).toInt32 r231 h232) gw_L_171 hd_L_tick ⟨by decide, by decide⟩ ⟨rfl, rfl⟩ rfl hl.1 rfl (Nat.le_of_ble_eq_true rfl) dL_follows_645 ⟨(by show _ ≤ (251 : Nat); omega), (by show _ ≤ (1506 : Nat); omega)⟩) (fun H locs hI => ?_)
          refine lv_lconst (v := 0) hx hb dL_follows_648 (by decide) ?_
          refine W.lcmp hx hb dL_follows_649 ?_
          refine lv_if_lt (tgt := 677) hx hb dL_follows_650 (by decide) (fun c233 => ?_) (fun c233 => ?_)
          · have h := x_ift h c233
            exact wL_follows_j677 F Z k252 c252 hk252 r231.2 y1 y6 y7 y9 y13 y14 _ _ _ _ _ ⟨by omega, by omega⟩ h hI (lv_sub hl [1, 2, 3, 4, 5, 7, 8] rfl)
          · have h := x_iff h c233
            refine lv_aload_n hx hb dL_follows_653 rfl (lv_at hl 1 rfl) ?_
            refine lv_iconst (v := 2) hx hb dL_follows_654 (by decide) ?_
            obtain ⟨r234, h235, h⟩ := x_bnd h
            refine xm_acl hI (xw_run (rest := []) F Z.2 hI (mL_sent l Z.1 X _ r231.2 (2 : Int32) r234 h235) gw_L_210 hd_L_sent ⟨by decide, by decide⟩ ⟨rfl, rfl⟩ rfl hl.1 rfl (Nat.le_of_ble_eq_true rfl) dL_follows_655 ⟨(by show _ ≤ (251 : Nat); omega), (by show _ ≤ (1506 : Nat); omega)⟩) (fun H locs hI => ?_)
            refine lv_lload hx hb dL_follows_658 (lv_at hl 0 rfl) ?_
            refine W.lcmp hx hb dL_follows_660 ?_
            refine lv_if_le (tgt := 677) hx hb dL_follows_661 (by decide) (fun c236 => ?_) (fun c236 => ?_)
            · have h := x_ift h c236
              exact wL_follows_j677 F Z k252 c252 hk252 r234.2 y1 y6 y7 y9 y13 y14 _ _ _ _ _ ⟨by omega, by omega⟩ h hI (lv_sub hl [1, 2, 3, 4, 5, 7, 8] rfl)
            · have h := x_iff h c236
              refine lv_aload_n hx hb dL_follows_664 rfl (lv_at hl 1 rfl) ?_
              obtain ⟨r237, h238, h⟩ := x_bnd h
              refine xm_acl hI (xw_run (rest := []) F Z.2 hI (mL_undo l Z.1 X _ r234.2  r237 h238) gw_L_273 hd_L_undo ⟨by decide, by decide⟩ ⟨rfl, rfl⟩ rfl hl.1 rfl (Nat.le_of_ble_eq_true rfl) dL_follows_665 ⟨(by show _ ≤ (251 : Nat); omega), (by show _ ≤ (1506 : Nat); omega)⟩) (fun H locs hI => ?_)
              refine lv_lconst (v := 0) hx hb dL_follows_668 (by decide) ?_
              refine W.lcmp hx hb dL_follows_669 ?_
              refine lv_if_ne (tgt := 677) hx hb dL_follows_670 (by decide) (fun c239 => ?_) (fun c239 => ?_)
              · have h := x_iff h c239
                exact wL_follows_j677 F Z k252 c252 hk252 r237.2 y1 y6 y7 y9 y13 y14 _ _ _ _ _ ⟨by omega, by omega⟩ h hI (lv_sub hl [1, 2, 3, 4, 5, 7, 8] rfl)
              · have h := x_ift h c239
                refine lv_iconst (v := 1) hx hb dL_follows_673 (by decide) ?_
                refine lv_goto (tgt := 678) hx hb dL_follows_674 (by decide) ?_
                exact wL_follows_j678 F Z k252 c252 hk252 r237.2 y1 y6 y7 y9 y13 y14 (1 : Int32) _ _ _ _ _ ⟨by omega, by omega⟩ h hI (lv_sub hl [1, 2, 3, 4, 5, 7, 8] rfl)
def fL_follows_j602 (k252 : x_S → Int32 → Int32 → Int32 → Int32 → Int32 → Int32 → Option (Int32 × x_S)) (σ : x_S) (y1 : Int32) (y6 : Int32) (y7 : Int32) (y9 : Int32) (y13 : Int32) (y14 : Int64) (y22 : Int64) (z0 : Int32) : Option (Int32 × x_S) := fL_follows_j604 k252 σ y1 y6 y7 y9 z0 y13 y14 y22
set_option maxHeartbeats 4000000 in
set_option maxRecDepth 100000 in
theorem wL_follows_j602 {p : Program} {l : Launch} {e : Env} {s : State} {m : MethodId} {args : Array Value} {below : List Frame} {meth : Method} {c : Code} {X : x_T} {r : (Int32 × x_S)} (F : x_F p s m args meth c cL_follows 26 RL (some .boolean)) (Z : xm_Z l s X) (k252 : x_S → Int32 → Int32 → Int32 → Int32 → Int32 → Int32 → Option (Int32 × x_S)) (c252 : Nat) (hk252 : ∀ (σ : x_S) (y1 : Int32) (y6 : Int32) (y7 : Int32) (y9 : Int32) (y10 : Int32) (y13 : Int32) (H : Heap) (locs : List Loc) (ls : Array Slot) (cells slots : Nat), cells + c252 ≤ 251 ∧ slots + 6 * c252 ≤ 1506 → k252 σ y1 y6 y7 y9 y10 y13 = some r → x_I X σ s H locs → lv_has ls 26 [(0, .ref (X.2.2 10 32)), (1, .int y1), (6, .int y6), (7, .int y7), (9, .int y9), (10, .int y10), (13, .int y13)] → W p l e rm_L_follows s m args below meth c H locs cells slots (MQ below (x_Qi X r.1 r.2 s.heap.size) args s 251 1506 (x_A X s.heap.size)) (F0 m 252 ls [])) (σ : x_S) (y1 : Int32) (y6 : Int32) (y7 : Int32) (y9 : Int32) (y13 : Int32) (y14 : Int64) (y22 : Int64) (z0 : Int32) (H : Heap) (locs : List Loc) (ls : Array Slot) (cells slots : Nat) (hf : cells + (5 + c252) ≤ 251 ∧ slots + 6 * (5 + c252) ≤ 1506) (h : fL_follows_j602 k252 σ y1 y6 y7 y9 y13 y14 y22 z0 = some r) (hI : x_I X σ s H locs) (hl : lv_has ls 26 [(0, .ref (X.2.2 10 32)), (1, .int y1), (6, .int y6), (7, .int y7), (9, .int y9), (13, .int y13), (14, .long y14), (22, .long y22)]) : W p l e rm_L_follows s m args below meth c H locs cells slots (MQ below (x_Qi X r.1 r.2 s.heap.size) args s 251 1506 (x_A X s.heap.size)) (F0 m 602 ls [.int z0]) := by
  have hx := F.1
  have hb := F.2.1
  have hml := F.2.2.1
  have hown := F.2.2.2.1
  have hts := F.2.2.2.2.1
  obtain ⟨hf1, hf2⟩ := hf
  unfold fL_follows_j602 at h
  refine lv_istore (lv' := [(10, .int z0), (0, .ref (X.2.2 10 32)), (1, .int y1), (6, .int y6), (7, .int y7), (9, .int y9), (13, .int y13), (14, .long y14), (22, .long y22)]) hx hb dL_follows_602 hl (by decide) rfl (fun ls hl => ?_)
  exact wL_follows_j604 F Z k252 c252 hk252 σ y1 y6 y7 y9 z0 y13 y14 y22 _ _ _ _ _ ⟨by omega, by omega⟩ h hI (lv_sub hl [1, 2, 3, 4, 5, 0, 6, 7, 8] rfl)
def fL_follows_j601 (k252 : x_S → Int32 → Int32 → Int32 → Int32 → Int32 → Int32 → Option (Int32 × x_S)) (σ : x_S) (y1 : Int32) (y6 : Int32) (y7 : Int32) (y9 : Int32) (y13 : Int32) (y14 : Int64) (y22 : Int64) : Option (Int32 × x_S) := fL_follows_j602 k252 σ y1 y6 y7 y9 y13 y14 y22 (0 : Int32)
set_option maxHeartbeats 4000000 in
set_option maxRecDepth 100000 in
theorem wL_follows_j601 {p : Program} {l : Launch} {e : Env} {s : State} {m : MethodId} {args : Array Value} {below : List Frame} {meth : Method} {c : Code} {X : x_T} {r : (Int32 × x_S)} (F : x_F p s m args meth c cL_follows 26 RL (some .boolean)) (Z : xm_Z l s X) (k252 : x_S → Int32 → Int32 → Int32 → Int32 → Int32 → Int32 → Option (Int32 × x_S)) (c252 : Nat) (hk252 : ∀ (σ : x_S) (y1 : Int32) (y6 : Int32) (y7 : Int32) (y9 : Int32) (y10 : Int32) (y13 : Int32) (H : Heap) (locs : List Loc) (ls : Array Slot) (cells slots : Nat), cells + c252 ≤ 251 ∧ slots + 6 * c252 ≤ 1506 → k252 σ y1 y6 y7 y9 y10 y13 = some r → x_I X σ s H locs → lv_has ls 26 [(0, .ref (X.2.2 10 32)), (1, .int y1), (6, .int y6), (7, .int y7), (9, .int y9), (10, .int y10), (13, .int y13)] → W p l e rm_L_follows s m args below meth c H locs cells slots (MQ below (x_Qi X r.1 r.2 s.heap.size) args s 251 1506 (x_A X s.heap.size)) (F0 m 252 ls [])) (σ : x_S) (y1 : Int32) (y6 : Int32) (y7 : Int32) (y9 : Int32) (y13 : Int32) (y14 : Int64) (y22 : Int64) (H : Heap) (locs : List Loc) (ls : Array Slot) (cells slots : Nat) (hf : cells + (5 + c252) ≤ 251 ∧ slots + 6 * (5 + c252) ≤ 1506) (h : fL_follows_j601 k252 σ y1 y6 y7 y9 y13 y14 y22 = some r) (hI : x_I X σ s H locs) (hl : lv_has ls 26 [(0, .ref (X.2.2 10 32)), (1, .int y1), (6, .int y6), (7, .int y7), (9, .int y9), (13, .int y13), (14, .long y14), (22, .long y22)]) : W p l e rm_L_follows s m args below meth c H locs cells slots (MQ below (x_Qi X r.1 r.2 s.heap.size) args s 251 1506 (x_A X s.heap.size)) (F0 m 601 ls []) := by
  have hx := F.1
  have hb := F.2.1
  have hml := F.2.2.1
  have hown := F.2.2.2.1
  have hts := F.2.2.2.2.1
  obtain ⟨hf1, hf2⟩ := hf
  unfold fL_follows_j601 at h
  refine lv_iconst (v := 0) hx hb dL_follows_601 (by decide) ?_
  exact wL_follows_j602 F Z k252 c252 hk252 σ y1 y6 y7 y9 y13 y14 y22 (0 : Int32) _ _ _ _ _ ⟨by omega, by omega⟩ h hI (lv_sub hl [0, 1, 2, 3, 4, 5, 6, 7] rfl)
def fL_follows_j537 (k252 : x_S → Int32 → Int32 → Int32 → Int32 → Int32 → Int32 → Option (Int32 × x_S)) (σ : x_S) (y1 : Int32) (y6 : Int32) (y7 : Int32) (y9 : Int32) (y13 : Int32) (y14 : Int64) (y18 : Int64) (y22 : Int64) (z0 : Int32) : Option (Int32 × x_S) := (if z0 = 0 then fL_follows_j604 k252 σ y1 y6 y7 y9 z0 y13 y14 y22 else (if 0 < (lg_cmp y18 (100 : Int64)) then fL_follows_j604 k252 σ y1 y6 y7 y9 z0 y13 y14 y22 else (Option.bind (fL_tick σ (y18).toInt32) fun r179 => (if (lg_cmp r179.1 (0 : Int64)) ≤ 0 then fL_follows_j601 k252 r179.2 y1 y6 y7 y9 y13 y14 y22 else (Option.bind (fL_doingOf r179.2 y13) fun r182 => (if (lg_cmp r182.1 (0 : Int64)) = 0 then (Option.bind (fL_undo r182.2 ) fun r185 => (if (lg_cmp r185.1 (0 : Int64)) = 0 then (Option.bind (fL_ticksLeft r185.2 y13) fun r188 => (if (lg_cmp r188.1 y18) = 0 then fL_follows_j602 k252 r188.2 y1 y6 y7 y9 y13 y14 y22 (1 : Int32) else fL_follows_j601 k252 r188.2 y1 y6 y7 y9 y13 y14 y22)) else fL_follows_j601 k252 r185.2 y1 y6 y7 y9 y13 y14 y22)) else fL_follows_j601 k252 r182.2 y1 y6 y7 y9 y13 y14 y22))))))
set_option maxHeartbeats 4000000 in
set_option maxRecDepth 100000 in
theorem wL_follows_j537 {p : Program} {l : Launch} {e : Env} {s : State} {m : MethodId} {args : Array Value} {below : List Frame} {meth : Method} {c : Code} {X : x_T} {r : (Int32 × x_S)} (F : x_F p s m args meth c cL_follows 26 RL (some .boolean)) (Z : xm_Z l s X) (k252 : x_S → Int32 → Int32 → Int32 → Int32 → Int32 → Int32 → Option (Int32 × x_S)) (c252 : Nat) (hk252 : ∀ (σ : x_S) (y1 : Int32) (y6 : Int32) (y7 : Int32) (y9 : Int32) (y10 : Int32) (y13 : Int32) (H : Heap) (locs : List Loc) (ls : Array Slot) (cells slots : Nat), cells + c252 ≤ 251 ∧ slots + 6 * c252 ≤ 1506 → k252 σ y1 y6 y7 y9 y10 y13 = some r → x_I X σ s H locs → lv_has ls 26 [(0, .ref (X.2.2 10 32)), (1, .int y1), (6, .int y6), (7, .int y7), (9, .int y9), (10, .int y10), (13, .int y13)] → W p l e rm_L_follows s m args below meth c H locs cells slots (MQ below (x_Qi X r.1 r.2 s.heap.size) args s 251 1506 (x_A X s.heap.size)) (F0 m 252 ls [])) (σ : x_S) (y1 : Int32) (y6 : Int32) (y7 : Int32) (y9 : Int32) (y13 : Int32) (y14 : Int64) (y18 : Int64) (y22 : Int64) (z0 : Int32) (H : Heap) (locs : List Loc) (ls : Array Slot) (cells slots : Nat) (hf : cells + (9 + c252) ≤ 251 ∧ slots + 6 * (9 + c252) ≤ 1506) (h : fL_follows_j537 k252 σ y1 y6 y7 y9 y13 y14 y18 y22 z0 = some r) (hI : x_I X σ s H locs) (hl : lv_has ls 26 [(0, .ref (X.2.2 10 32)), (1, .int y1), (6, .int y6), (7, .int y7), (9, .int y9), (13, .int y13), (14, .long y14), (18, .long y18), (22, .long y22)]) : W p l e rm_L_follows s m args below meth c H locs cells slots (MQ below (x_Qi X r.1 r.2 s.heap.size) args s 251 1506 (x_A X s.heap.size)) (F0 m 537 ls [.int z0]) := by
  have hx := F.1
  have hb := F.2.1
  have hml := F.2.2.1
  have hown := F.2.2.2.1
  have hts := F.2.2.2.2.1
  obtain ⟨hf1, hf2⟩ := hf
  unfold fL_follows_j537 at h
  refine lv_istore (lv' := [(10, .int z0), (0, .ref (X.2.2 10 32)), (1, .int y1), (6, .int y6), (7, .int y7), (9, .int y9), (13, .int y13), (14, .long y14), (18, .long y18), (22, .long y22)]) hx hb dL_follows_537 hl (by decide) rfl (fun ls hl => ?_)
  refine lv_iload hx hb dL_follows_539 (lv_at hl 0 rfl) ?_
  refine lv_if_eq (tgt := 604) hx hb dL_follows_541 (by decide) (fun c177 => ?_) (fun c177 => ?_)
  · have h := x_ift h c177
    exact wL_follows_j604 F Z k252 c252 hk252 σ y1 y6 y7 y9 z0 y13 y14 y22 _ _ _ _ _ ⟨by omega, by omega⟩ h hI (lv_sub hl [1, 2, 3, 4, 5, 0, 6, 7, 9] rfl)
  · have h := x_iff h c177
    refine lv_lload hx hb dL_follows_544 (lv_at hl 8 rfl) ?_
    refine lv_ldc2 (v := 100) hx hb hown (hts _ u_cl_L_275) dL_follows_546 ?_
    refine W.lcmp hx hb dL_follows_549 ?_
    refine lv_if_gt (tgt := 604) hx hb dL_follows_550 (by decide) (fun c178 => ?_) (fun c178 => ?_)
    · have h := x_ift h c178
      exact wL_follows_j604 F Z k252 c252 hk252 σ y1 y6 y7 y9 z0 y13 y14 y22 _ _ _ _ _ ⟨by omega, by omega⟩ h hI (lv_sub hl [1, 2, 3, 4, 5, 0, 6, 7, 9] rfl)
    · have h := x_iff h c178
      refine lv_aload_n hx hb dL_follows_553 rfl (lv_at hl 1 rfl) ?_
      refine lv_lload hx hb dL_follows_554 (lv_at hl 8 rfl) ?_
      refine lv_l2i hx hb dL_follows_556 rfl ?_
      obtain ⟨r179, h180, h⟩ := x_bnd h
      refine xm_acl hI (xw_run (rest := []) F Z.2 hI (mL_tick l Z.1 X _ σ (y18).toInt32 r179 h180) gw_L_171 hd_L_tick ⟨by decide, by decide⟩ ⟨rfl, rfl⟩ rfl hl.1 rfl (Nat.le_of_ble_eq_true rfl) dL_follows_557 ⟨(by show _ ≤ (251 : Nat); omega), (by show _ ≤ (1506 : Nat); omega)⟩) (fun H locs hI => ?_)
      refine lv_lconst (v := 0) hx hb dL_follows_560 (by decide) ?_
      refine W.lcmp hx hb dL_follows_561 ?_
      refine lv_if_le (tgt := 601) hx hb dL_follows_562 (by decide) (fun c181 => ?_) (fun c181 => ?_)
      · have h := x_ift h c181
        exact wL_follows_j601 F Z k252 c252 hk252 r179.2 y1 y6 y7 y9 y13 y14 y22 _ _ _ _ _ ⟨by omega, by omega⟩ h hI (lv_sub hl [1, 2, 3, 4, 5, 6, 7, 9] rfl)
      · have h := x_iff h c181
        refine lv_aload_n hx hb dL_follows_565 rfl (lv_at hl 1 rfl) ?_
        refine lv_iload hx hb dL_follows_566 (lv_at hl 6 rfl) ?_
        obtain ⟨r182, h183, h⟩ := x_bnd h
        refine xm_acl hI (xw_run (rest := []) F Z.2 hI (mL_doingOf l Z.1 X _ r179.2 y13 r182 h183) gw_L_179 hd_L_doingOf ⟨by decide, by decide⟩ ⟨rfl, rfl⟩ rfl hl.1 rfl (Nat.le_of_ble_eq_true rfl) dL_follows_568 ⟨(by show _ ≤ (251 : Nat); omega), (by show _ ≤ (1506 : Nat); omega)⟩) (fun H locs hI => ?_)
        refine lv_lconst (v := 0) hx hb dL_follows_571 (by decide) ?_
        refine W.lcmp hx hb dL_follows_572 ?_
        refine lv_if_ne (tgt := 601) hx hb dL_follows_573 (by decide) (fun c184 => ?_) (fun c184 => ?_)
        · have h := x_iff h c184
          exact wL_follows_j601 F Z k252 c252 hk252 r182.2 y1 y6 y7 y9 y13 y14 y22 _ _ _ _ _ ⟨by omega, by omega⟩ h hI (lv_sub hl [1, 2, 3, 4, 5, 6, 7, 9] rfl)
        · have h := x_ift h c184
          refine lv_aload_n hx hb dL_follows_576 rfl (lv_at hl 1 rfl) ?_
          obtain ⟨r185, h186, h⟩ := x_bnd h
          refine xm_acl hI (xw_run (rest := []) F Z.2 hI (mL_undo l Z.1 X _ r182.2  r185 h186) gw_L_273 hd_L_undo ⟨by decide, by decide⟩ ⟨rfl, rfl⟩ rfl hl.1 rfl (Nat.le_of_ble_eq_true rfl) dL_follows_577 ⟨(by show _ ≤ (251 : Nat); omega), (by show _ ≤ (1506 : Nat); omega)⟩) (fun H locs hI => ?_)
          refine lv_lconst (v := 0) hx hb dL_follows_580 (by decide) ?_
          refine W.lcmp hx hb dL_follows_581 ?_
          refine lv_if_ne (tgt := 601) hx hb dL_follows_582 (by decide) (fun c187 => ?_) (fun c187 => ?_)
          · have h := x_iff h c187
            exact wL_follows_j601 F Z k252 c252 hk252 r185.2 y1 y6 y7 y9 y13 y14 y22 _ _ _ _ _ ⟨by omega, by omega⟩ h hI (lv_sub hl [1, 2, 3, 4, 5, 6, 7, 9] rfl)
          · have h := x_ift h c187
            refine lv_aload_n hx hb dL_follows_585 rfl (lv_at hl 1 rfl) ?_
            refine lv_iload hx hb dL_follows_586 (lv_at hl 6 rfl) ?_
            obtain ⟨r188, h189, h⟩ := x_bnd h
            refine xm_acl hI (xw_run (rest := []) F Z.2 hI (mL_ticksLeft l Z.1 X _ r185.2 y13 r188 h189) gw_L_183 hd_L_ticksLeft ⟨by decide, by decide⟩ ⟨rfl, rfl⟩ rfl hl.1 rfl (Nat.le_of_ble_eq_true rfl) dL_follows_588 ⟨(by show _ ≤ (251 : Nat); omega), (by show _ ≤ (1506 : Nat); omega)⟩) (fun H locs hI => ?_)
            refine lv_lload hx hb dL_follows_591 (lv_at hl 8 rfl) ?_
            refine W.lcmp hx hb dL_follows_593 ?_
            refine lv_if_ne (tgt := 601) hx hb dL_follows_594 (by decide) (fun c190 => ?_) (fun c190 => ?_)
            · have h := x_iff h c190
              exact wL_follows_j601 F Z k252 c252 hk252 r188.2 y1 y6 y7 y9 y13 y14 y22 _ _ _ _ _ ⟨by omega, by omega⟩ h hI (lv_sub hl [1, 2, 3, 4, 5, 6, 7, 9] rfl)
            · have h := x_ift h c190
              refine lv_iconst (v := 1) hx hb dL_follows_597 (by decide) ?_
              refine lv_goto (tgt := 602) hx hb dL_follows_598 (by decide) ?_
              exact wL_follows_j602 F Z k252 c252 hk252 r188.2 y1 y6 y7 y9 y13 y14 y22 (1 : Int32) _ _ _ _ _ ⟨by omega, by omega⟩ h hI (lv_sub hl [1, 2, 3, 4, 5, 6, 7, 9] rfl)
def fL_follows_j536 (k252 : x_S → Int32 → Int32 → Int32 → Int32 → Int32 → Int32 → Option (Int32 × x_S)) (σ : x_S) (y1 : Int32) (y6 : Int32) (y7 : Int32) (y9 : Int32) (y13 : Int32) (y14 : Int64) (y18 : Int64) (y22 : Int64) : Option (Int32 × x_S) := fL_follows_j537 k252 σ y1 y6 y7 y9 y13 y14 y18 y22 (0 : Int32)
set_option maxHeartbeats 4000000 in
set_option maxRecDepth 100000 in
theorem wL_follows_j536 {p : Program} {l : Launch} {e : Env} {s : State} {m : MethodId} {args : Array Value} {below : List Frame} {meth : Method} {c : Code} {X : x_T} {r : (Int32 × x_S)} (F : x_F p s m args meth c cL_follows 26 RL (some .boolean)) (Z : xm_Z l s X) (k252 : x_S → Int32 → Int32 → Int32 → Int32 → Int32 → Int32 → Option (Int32 × x_S)) (c252 : Nat) (hk252 : ∀ (σ : x_S) (y1 : Int32) (y6 : Int32) (y7 : Int32) (y9 : Int32) (y10 : Int32) (y13 : Int32) (H : Heap) (locs : List Loc) (ls : Array Slot) (cells slots : Nat), cells + c252 ≤ 251 ∧ slots + 6 * c252 ≤ 1506 → k252 σ y1 y6 y7 y9 y10 y13 = some r → x_I X σ s H locs → lv_has ls 26 [(0, .ref (X.2.2 10 32)), (1, .int y1), (6, .int y6), (7, .int y7), (9, .int y9), (10, .int y10), (13, .int y13)] → W p l e rm_L_follows s m args below meth c H locs cells slots (MQ below (x_Qi X r.1 r.2 s.heap.size) args s 251 1506 (x_A X s.heap.size)) (F0 m 252 ls [])) (σ : x_S) (y1 : Int32) (y6 : Int32) (y7 : Int32) (y9 : Int32) (y13 : Int32) (y14 : Int64) (y18 : Int64) (y22 : Int64) (H : Heap) (locs : List Loc) (ls : Array Slot) (cells slots : Nat) (hf : cells + (9 + c252) ≤ 251 ∧ slots + 6 * (9 + c252) ≤ 1506) (h : fL_follows_j536 k252 σ y1 y6 y7 y9 y13 y14 y18 y22 = some r) (hI : x_I X σ s H locs) (hl : lv_has ls 26 [(0, .ref (X.2.2 10 32)), (1, .int y1), (6, .int y6), (7, .int y7), (9, .int y9), (13, .int y13), (14, .long y14), (18, .long y18), (22, .long y22)]) : W p l e rm_L_follows s m args below meth c H locs cells slots (MQ below (x_Qi X r.1 r.2 s.heap.size) args s 251 1506 (x_A X s.heap.size)) (F0 m 536 ls []) := by
  have hx := F.1
  have hb := F.2.1
  have hml := F.2.2.1
  have hown := F.2.2.2.1
  have hts := F.2.2.2.2.1
  obtain ⟨hf1, hf2⟩ := hf
  unfold fL_follows_j536 at h
  refine lv_iconst (v := 0) hx hb dL_follows_536 (by decide) ?_
  exact wL_follows_j537 F Z k252 c252 hk252 σ y1 y6 y7 y9 y13 y14 y18 y22 (0 : Int32) _ _ _ _ _ ⟨by omega, by omega⟩ h hI (lv_sub hl [0, 1, 2, 3, 4, 5, 6, 7, 8] rfl)
def fL_follows_j454 (k252 : x_S → Int32 → Int32 → Int32 → Int32 → Int32 → Int32 → Option (Int32 × x_S)) (σ : x_S) (y1 : Int32) (y6 : Int32) (y7 : Int32) (y9 : Int32) (y10 : Int32) (y13 : Int32) (y14 : Int64) : Option (Int32 × x_S) := (if (lg_cmp y14 (3 : Int64)) = 0 then (Option.bind (fL_ticksLeft σ y13) fun r135 => (Option.bind (fL_roomOf r135.2 y13) fun r137 => (Option.bind (fL_toRenewal r137.2 y13) fun r139 => (Option.bind (fL_leave r139.2 y13) fun r141 => (if (lg_cmp r141.1 r137.1) = 0 then (Option.bind (fL_doingOf r141.2 y13) fun r144 => (if (lg_cmp r144.1 (0 : Int64)) = 0 then (Option.bind (fL_undo r144.2 ) fun r147 => (if (lg_cmp r147.1 (0 : Int64)) = 0 then (Option.bind (fL_doingOf r147.2 y13) fun r150 => (if (lg_cmp r150.1 (3 : Int64)) = 0 then fL_follows_j537 k252 r150.2 y1 y6 y7 y9 y13 y14 r135.1 r139.1 (1 : Int32) else fL_follows_j536 k252 r150.2 y1 y6 y7 y9 y13 y14 r135.1 r139.1)) else fL_follows_j536 k252 r147.2 y1 y6 y7 y9 y13 y14 r135.1 r139.1)) else fL_follows_j536 k252 r144.2 y1 y6 y7 y9 y13 y14 r135.1 r139.1)) else fL_follows_j536 k252 r141.2 y1 y6 y7 y9 y13 y14 r135.1 r139.1))))) else fL_follows_j680 k252 σ y1 y6 y7 y9 y10 y13 y14)
set_option maxHeartbeats 4000000 in
set_option maxRecDepth 100000 in
theorem wL_follows_j454 {p : Program} {l : Launch} {e : Env} {s : State} {m : MethodId} {args : Array Value} {below : List Frame} {meth : Method} {c : Code} {X : x_T} {r : (Int32 × x_S)} (F : x_F p s m args meth c cL_follows 26 RL (some .boolean)) (Z : xm_Z l s X) (k252 : x_S → Int32 → Int32 → Int32 → Int32 → Int32 → Int32 → Option (Int32 × x_S)) (c252 : Nat) (hk252 : ∀ (σ : x_S) (y1 : Int32) (y6 : Int32) (y7 : Int32) (y9 : Int32) (y10 : Int32) (y13 : Int32) (H : Heap) (locs : List Loc) (ls : Array Slot) (cells slots : Nat), cells + c252 ≤ 251 ∧ slots + 6 * c252 ≤ 1506 → k252 σ y1 y6 y7 y9 y10 y13 = some r → x_I X σ s H locs → lv_has ls 26 [(0, .ref (X.2.2 10 32)), (1, .int y1), (6, .int y6), (7, .int y7), (9, .int y9), (10, .int y10), (13, .int y13)] → W p l e rm_L_follows s m args below meth c H locs cells slots (MQ below (x_Qi X r.1 r.2 s.heap.size) args s 251 1506 (x_A X s.heap.size)) (F0 m 252 ls [])) (σ : x_S) (y1 : Int32) (y6 : Int32) (y7 : Int32) (y9 : Int32) (y10 : Int32) (y13 : Int32) (y14 : Int64) (H : Heap) (locs : List Loc) (ls : Array Slot) (cells slots : Nat) (hf : cells + (16 + c252) ≤ 251 ∧ slots + 6 * (16 + c252) ≤ 1506) (h : fL_follows_j454 k252 σ y1 y6 y7 y9 y10 y13 y14 = some r) (hI : x_I X σ s H locs) (hl : lv_has ls 26 [(0, .ref (X.2.2 10 32)), (1, .int y1), (6, .int y6), (7, .int y7), (9, .int y9), (10, .int y10), (13, .int y13), (14, .long y14)]) : W p l e rm_L_follows s m args below meth c H locs cells slots (MQ below (x_Qi X r.1 r.2 s.heap.size) args s 251 1506 (x_A X s.heap.size)) (F0 m 454 ls []) := by
  have hx := F.1
  have hb := F.2.1
  have hml := F.2.2.1
  have hown := F.2.2.2.1
  have hts := F.2.2.2.2.1
  obtain ⟨hf1, hf2⟩ := hf
  unfold fL_follows_j454 at h
  refine lv_lload hx hb dL_follows_454 (lv_at hl 7 rfl) ?_
  refine lv_ldc2 (v := 3) hx hb hown (hts _ u_cl_L_222) dL_follows_456 ?_
  refine W.lcmp hx hb dL_follows_459 ?_
  refine lv_if_ne (tgt := 680) hx hb dL_follows_460 (by decide) (fun c134 => ?_) (fun c134 => ?_)
  · have h := x_iff h c134
    exact wL_follows_j680 F Z k252 c252 hk252 σ y1 y6 y7 y9 y10 y13 y14 _ _ _ _ _ ⟨by omega, by omega⟩ h hI (lv_sub hl [0, 1, 2, 3, 4, 5, 6, 7] rfl)
  · have h := x_ift h c134
    refine lv_aload_n hx hb dL_follows_463 rfl (lv_at hl 0 rfl) ?_
    refine lv_iload hx hb dL_follows_464 (lv_at hl 6 rfl) ?_
    obtain ⟨r135, h136, h⟩ := x_bnd h
    refine xm_acl hI (xw_run (rest := []) F Z.2 hI (mL_ticksLeft l Z.1 X _ σ y13 r135 h136) gw_L_183 hd_L_ticksLeft ⟨by decide, by decide⟩ ⟨rfl, rfl⟩ rfl hl.1 rfl (Nat.le_of_ble_eq_true rfl) dL_follows_466 ⟨(by show _ ≤ (251 : Nat); omega), (by show _ ≤ (1506 : Nat); omega)⟩) (fun H locs hI => ?_)
    refine lv_lstore (lv' := [(18, .long r135.1), (0, .ref (X.2.2 10 32)), (1, .int y1), (6, .int y6), (7, .int y7), (9, .int y9), (10, .int y10), (13, .int y13), (14, .long y14)]) hx hb dL_follows_469 hl (by decide) rfl (fun ls hl => ?_)
    refine lv_aload_n hx hb dL_follows_471 rfl (lv_at hl 1 rfl) ?_
    refine lv_iload hx hb dL_follows_472 (lv_at hl 7 rfl) ?_
    obtain ⟨r137, h138, h⟩ := x_bnd h
    refine xm_acl hI (xw_run (rest := []) F Z.2 hI (mL_roomOf l Z.1 X _ r135.2 y13 r137 h138) gw_L_181 hd_L_roomOf ⟨by decide, by decide⟩ ⟨rfl, rfl⟩ rfl hl.1 rfl (Nat.le_of_ble_eq_true rfl) dL_follows_474 ⟨(by show _ ≤ (251 : Nat); omega), (by show _ ≤ (1506 : Nat); omega)⟩) (fun H locs hI => ?_)
    refine lv_lstore (lv' := [(20, .long r137.1), (18, .long r135.1), (0, .ref (X.2.2 10 32)), (1, .int y1), (6, .int y6), (7, .int y7), (9, .int y9), (10, .int y10), (13, .int y13), (14, .long y14)]) hx hb dL_follows_477 hl (by decide) rfl (fun ls hl => ?_)
    refine lv_aload_n hx hb dL_follows_479 rfl (lv_at hl 2 rfl) ?_
    refine lv_iload hx hb dL_follows_480 (lv_at hl 8 rfl) ?_
    obtain ⟨r139, h140, h⟩ := x_bnd h
    refine xm_acl hI (xw_run (rest := []) F Z.2 hI (mL_toRenewal l Z.1 X _ r137.2 y13 r139 h140) gw_L_185 hd_L_toRenewal ⟨by decide, by decide⟩ ⟨rfl, rfl⟩ rfl hl.1 rfl (Nat.le_of_ble_eq_true rfl) dL_follows_482 ⟨(by show _ ≤ (251 : Nat); omega), (by show _ ≤ (1506 : Nat); omega)⟩) (fun H locs hI => ?_)
    refine lv_lstore (lv' := [(22, .long r139.1), (20, .long r137.1), (18, .long r135.1), (0, .ref (X.2.2 10 32)), (1, .int y1), (6, .int y6), (7, .int y7), (9, .int y9), (10, .int y10), (13, .int y13), (14, .long y14)]) hx hb dL_follows_485 hl (by decide) rfl (fun ls hl => ?_)
    refine lv_aload_n hx hb dL_follows_487 rfl (lv_at hl 3 rfl) ?_
    refine lv_iload hx hb dL_follows_488 (lv_at hl 9 rfl) ?_
    obtain ⟨r141, h142, h⟩ := x_bnd h
    refine xm_acl hI (xw_run (rest := []) F Z.2 hI (mL_leave l Z.1 X _ r139.2 y13 r141 h142) gw_L_148 hd_L_leave ⟨by decide, by decide⟩ ⟨rfl, rfl⟩ rfl hl.1 rfl (Nat.le_of_ble_eq_true rfl) dL_follows_490 ⟨(by show _ ≤ (251 : Nat); omega), (by show _ ≤ (1506 : Nat); omega)⟩) (fun H locs hI => ?_)
    refine lv_lload hx hb dL_follows_493 (lv_at hl 1 rfl) ?_
    refine W.lcmp hx hb dL_follows_495 ?_
    refine lv_if_ne (tgt := 536) hx hb dL_follows_496 (by decide) (fun c143 => ?_) (fun c143 => ?_)
    · have h := x_iff h c143
      exact wL_follows_j536 F Z k252 c252 hk252 r141.2 y1 y6 y7 y9 y13 y14 r135.1 r139.1 _ _ _ _ _ ⟨by omega, by omega⟩ h hI (lv_sub hl [3, 4, 5, 6, 7, 9, 10, 2, 0] rfl)
    · have h := x_ift h c143
      refine lv_aload_n hx hb dL_follows_499 rfl (lv_at hl 3 rfl) ?_
      refine lv_iload hx hb dL_follows_500 (lv_at hl 9 rfl) ?_
      obtain ⟨r144, h145, h⟩ := x_bnd h
      refine xm_acl hI (xw_run (rest := []) F Z.2 hI (mL_doingOf l Z.1 X _ r141.2 y13 r144 h145) gw_L_179 hd_L_doingOf ⟨by decide, by decide⟩ ⟨rfl, rfl⟩ rfl hl.1 rfl (Nat.le_of_ble_eq_true rfl) dL_follows_502 ⟨(by show _ ≤ (251 : Nat); omega), (by show _ ≤ (1506 : Nat); omega)⟩) (fun H locs hI => ?_)
      refine lv_lconst (v := 0) hx hb dL_follows_505 (by decide) ?_
      refine W.lcmp hx hb dL_follows_506 ?_
      refine lv_if_ne (tgt := 536) hx hb dL_follows_507 (by decide) (fun c146 => ?_) (fun c146 => ?_)
      · have h := x_iff h c146
        exact wL_follows_j536 F Z k252 c252 hk252 r144.2 y1 y6 y7 y9 y13 y14 r135.1 r139.1 _ _ _ _ _ ⟨by omega, by omega⟩ h hI (lv_sub hl [3, 4, 5, 6, 7, 9, 10, 2, 0] rfl)
      · have h := x_ift h c146
        refine lv_aload_n hx hb dL_follows_510 rfl (lv_at hl 3 rfl) ?_
        obtain ⟨r147, h148, h⟩ := x_bnd h
        refine xm_acl hI (xw_run (rest := []) F Z.2 hI (mL_undo l Z.1 X _ r144.2  r147 h148) gw_L_273 hd_L_undo ⟨by decide, by decide⟩ ⟨rfl, rfl⟩ rfl hl.1 rfl (Nat.le_of_ble_eq_true rfl) dL_follows_511 ⟨(by show _ ≤ (251 : Nat); omega), (by show _ ≤ (1506 : Nat); omega)⟩) (fun H locs hI => ?_)
        refine lv_lconst (v := 0) hx hb dL_follows_514 (by decide) ?_
        refine W.lcmp hx hb dL_follows_515 ?_
        refine lv_if_ne (tgt := 536) hx hb dL_follows_516 (by decide) (fun c149 => ?_) (fun c149 => ?_)
        · have h := x_iff h c149
          exact wL_follows_j536 F Z k252 c252 hk252 r147.2 y1 y6 y7 y9 y13 y14 r135.1 r139.1 _ _ _ _ _ ⟨by omega, by omega⟩ h hI (lv_sub hl [3, 4, 5, 6, 7, 9, 10, 2, 0] rfl)
        · have h := x_ift h c149
          refine lv_aload_n hx hb dL_follows_519 rfl (lv_at hl 3 rfl) ?_
          refine lv_iload hx hb dL_follows_520 (lv_at hl 9 rfl) ?_
          obtain ⟨r150, h151, h⟩ := x_bnd h
          refine xm_acl hI (xw_run (rest := []) F Z.2 hI (mL_doingOf l Z.1 X _ r147.2 y13 r150 h151) gw_L_179 hd_L_doingOf ⟨by decide, by decide⟩ ⟨rfl, rfl⟩ rfl hl.1 rfl (Nat.le_of_ble_eq_true rfl) dL_follows_522 ⟨(by show _ ≤ (251 : Nat); omega), (by show _ ≤ (1506 : Nat); omega)⟩) (fun H locs hI => ?_)
          refine lv_ldc2 (v := 3) hx hb hown (hts _ u_cl_L_222) dL_follows_525 ?_
          refine W.lcmp hx hb dL_follows_528 ?_
          refine lv_if_ne (tgt := 536) hx hb dL_follows_529 (by decide) (fun c152 => ?_) (fun c152 => ?_)
          · have h := x_iff h c152
            exact wL_follows_j536 F Z k252 c252 hk252 r150.2 y1 y6 y7 y9 y13 y14 r135.1 r139.1 _ _ _ _ _ ⟨by omega, by omega⟩ h hI (lv_sub hl [3, 4, 5, 6, 7, 9, 10, 2, 0] rfl)
          · have h := x_ift h c152
            refine lv_iconst (v := 1) hx hb dL_follows_532 (by decide) ?_
            refine lv_goto (tgt := 537) hx hb dL_follows_533 (by decide) ?_
            exact wL_follows_j537 F Z k252 c252 hk252 r150.2 y1 y6 y7 y9 y13 y14 r135.1 r139.1 (1 : Int32) _ _ _ _ _ ⟨by omega, by omega⟩ h hI (lv_sub hl [3, 4, 5, 6, 7, 9, 10, 2, 0] rfl)
def fL_follows_j872 (σ : x_S) (y6 : Int32) (y7 : Int32) (y9 : Int32) (y10 : Int32) : Option (Int32 × x_S) := (if y10 = 0 then some ((0 : Int32), σ) else (Option.bind (fX6_time σ ) fun r207 => (if r207 = y6 then (Option.bind (fX6_housed σ ) fun r210 => (if r210 = y9 then (Option.bind (fL_goBack σ (1 : Int32)) fun r213 => (if (lg_cmp r213.1 (0 : Int64)) = 0 then (Option.bind (fX6_time r213.2 ) fun r216 => (if r216 = y6 then (Option.bind (fX6_messages r213.2 ) fun r219 => (if r219 = y7 then (Option.bind (fL_undo r213.2 ) fun r222 => (if (lg_cmp r222.1 (0 : Int64)) = 0 then some ((1 : Int32), r222.2) else some ((0 : Int32), r222.2))) else some ((0 : Int32), r213.2))) else some ((0 : Int32), r213.2))) else some ((0 : Int32), r213.2))) else some ((0 : Int32), σ))) else some ((0 : Int32), σ))))
set_option maxHeartbeats 4000000 in
set_option maxRecDepth 100000 in
theorem wL_follows_j872 {p : Program} {l : Launch} {e : Env} {s : State} {m : MethodId} {args : Array Value} {below : List Frame} {meth : Method} {c : Code} {X : x_T} {r : (Int32 × x_S)} (F : x_F p s m args meth c cL_follows 26 RL (some .boolean)) (Z : xm_Z l s X) (σ : x_S) (y6 : Int32) (y7 : Int32) (y9 : Int32) (y10 : Int32) (H : Heap) (locs : List Loc) (ls : Array Slot) (cells slots : Nat) (hf : cells + (2) ≤ 251 ∧ slots + 6 * (2) ≤ 1506) (h : fL_follows_j872 σ y6 y7 y9 y10 = some r) (hI : x_I X σ s H locs) (hl : lv_has ls 26 [(0, .ref (X.2.2 10 32)), (6, .int y6), (7, .int y7), (9, .int y9), (10, .int y10)]) : W p l e rm_L_follows s m args below meth c H locs cells slots (MQ below (x_Qi X r.1 r.2 s.heap.size) args s 251 1506 (x_A X s.heap.size)) (F0 m 872 ls []) := by
  have hx := F.1
  have hb := F.2.1
  have hml := F.2.2.1
  have hown := F.2.2.2.1
  have hts := F.2.2.2.2.1
  obtain ⟨hf1, hf2⟩ := hf
  unfold fL_follows_j872 at h
  refine lv_iload hx hb dL_follows_872 (lv_at hl 4 rfl) ?_
  refine lv_if_eq (tgt := 936) hx hb dL_follows_874 (by decide) (fun c206 => ?_) (fun c206 => ?_)
  · have h := x_ift h c206
    refine lv_iconst (v := 0) hx hb dL_follows_936 (by decide) ?_
    rw [x_some h]
    exact W.widen (by omega) (by omega) (x_zret (v := 0) F hI (by decide) dL_follows_937)
  · have h := x_iff h c206
    refine lv_aload_n hx hb dL_follows_877 rfl (lv_at hl 0 rfl) ?_
    obtain ⟨r207, h208, h⟩ := x_bnd h
    refine x_aci hI (x_runV (rest := []) F hI (mX6_time l X _ σ  r207 h208) g_L_267 ⟨rfl, hd_X6_time⟩ ⟨by decide, by decide⟩ ⟨rfl, rfl⟩ (x_inO (by decide)) rfl rfl rfl rfl hl.1 rfl (Nat.le_of_ble_eq_true rfl) dL_follows_878 ⟨(by show _ ≤ (251 : Nat); omega), (by show _ ≤ (1506 : Nat); omega)⟩) (fun H locs hI => ?_)
    refine lv_iload hx hb dL_follows_881 (lv_at hl 1 rfl) ?_
    refine lv_icmp_ne (tgt := 936) hx hb dL_follows_883 (by decide) (fun c209 => ?_) (fun c209 => ?_)
    · have h := x_iff h c209
      refine lv_iconst (v := 0) hx hb dL_follows_936 (by decide) ?_
      rw [x_some h]
      exact W.widen (by omega) (by omega) (x_zret (v := 0) F hI (by decide) dL_follows_937)
    · have h := x_ift h c209
      refine lv_aload_n hx hb dL_follows_886 rfl (lv_at hl 0 rfl) ?_
      obtain ⟨r210, h211, h⟩ := x_bnd h
      refine x_aci hI (x_runV (rest := []) F hI (mX6_housed l X _ σ  r210 h211) g_L_243 ⟨rfl, hd_X6_housed⟩ ⟨by decide, by decide⟩ ⟨rfl, rfl⟩ (x_inO (by decide)) rfl rfl rfl rfl hl.1 rfl (Nat.le_of_ble_eq_true rfl) dL_follows_887 ⟨(by show _ ≤ (251 : Nat); omega), (by show _ ≤ (1506 : Nat); omega)⟩) (fun H locs hI => ?_)
      refine lv_iload hx hb dL_follows_890 (lv_at hl 3 rfl) ?_
      refine lv_icmp_ne (tgt := 936) hx hb dL_follows_892 (by decide) (fun c212 => ?_) (fun c212 => ?_)
      · have h := x_iff h c212
        refine lv_iconst (v := 0) hx hb dL_follows_936 (by decide) ?_
        rw [x_some h]
        exact W.widen (by omega) (by omega) (x_zret (v := 0) F hI (by decide) dL_follows_937)
      · have h := x_ift h c212
        refine lv_aload_n hx hb dL_follows_895 rfl (lv_at hl 0 rfl) ?_
        refine lv_iconst (v := 1) hx hb dL_follows_896 (by decide) ?_
        obtain ⟨r213, h214, h⟩ := x_bnd h
        refine xm_acl hI (xw_run (rest := []) F Z.2 hI (mL_goBack l Z.1 X _ σ (1 : Int32) r213 h214) gw_L_177 hd_L_goBack ⟨by decide, by decide⟩ ⟨rfl, rfl⟩ rfl hl.1 rfl (Nat.le_of_ble_eq_true rfl) dL_follows_897 ⟨(by show _ ≤ (251 : Nat); omega), (by show _ ≤ (1506 : Nat); omega)⟩) (fun H locs hI => ?_)
        refine lv_lconst (v := 0) hx hb dL_follows_900 (by decide) ?_
        refine W.lcmp hx hb dL_follows_901 ?_
        refine lv_if_ne (tgt := 936) hx hb dL_follows_902 (by decide) (fun c215 => ?_) (fun c215 => ?_)
        · have h := x_iff h c215
          refine lv_iconst (v := 0) hx hb dL_follows_936 (by decide) ?_
          rw [x_some h]
          exact W.widen (by omega) (by omega) (x_zret (v := 0) F hI (by decide) dL_follows_937)
        · have h := x_ift h c215
          refine lv_aload_n hx hb dL_follows_905 rfl (lv_at hl 0 rfl) ?_
          obtain ⟨r216, h217, h⟩ := x_bnd h
          refine x_aci hI (x_runV (rest := []) F hI (mX6_time l X _ r213.2  r216 h217) g_L_267 ⟨rfl, hd_X6_time⟩ ⟨by decide, by decide⟩ ⟨rfl, rfl⟩ (x_inO (by decide)) rfl rfl rfl rfl hl.1 rfl (Nat.le_of_ble_eq_true rfl) dL_follows_906 ⟨(by show _ ≤ (251 : Nat); omega), (by show _ ≤ (1506 : Nat); omega)⟩) (fun H locs hI => ?_)
          refine lv_iload hx hb dL_follows_909 (lv_at hl 1 rfl) ?_
          refine lv_icmp_ne (tgt := 936) hx hb dL_follows_911 (by decide) (fun c218 => ?_) (fun c218 => ?_)
          · have h := x_iff h c218
            refine lv_iconst (v := 0) hx hb dL_follows_936 (by decide) ?_
            rw [x_some h]
            exact W.widen (by omega) (by omega) (x_zret (v := 0) F hI (by decide) dL_follows_937)
          · have h := x_ift h c218
            refine lv_aload_n hx hb dL_follows_914 rfl (lv_at hl 0 rfl) ?_
            obtain ⟨r219, h220, h⟩ := x_bnd h
            refine x_aci hI (x_runV (rest := []) F hI (mX6_messages l X _ r213.2  r219 h220) g_L_140 ⟨rfl, hd_X6_messages⟩ ⟨by decide, by decide⟩ ⟨rfl, rfl⟩ (x_inO (by decide)) rfl rfl rfl rfl hl.1 rfl (Nat.le_of_ble_eq_true rfl) dL_follows_915 ⟨(by show _ ≤ (251 : Nat); omega), (by show _ ≤ (1506 : Nat); omega)⟩) (fun H locs hI => ?_)
            refine lv_iload hx hb dL_follows_918 (lv_at hl 2 rfl) ?_
            refine lv_icmp_ne (tgt := 936) hx hb dL_follows_920 (by decide) (fun c221 => ?_) (fun c221 => ?_)
            · have h := x_iff h c221
              refine lv_iconst (v := 0) hx hb dL_follows_936 (by decide) ?_
              rw [x_some h]
              exact W.widen (by omega) (by omega) (x_zret (v := 0) F hI (by decide) dL_follows_937)
            · have h := x_ift h c221
              refine lv_aload_n hx hb dL_follows_923 rfl (lv_at hl 0 rfl) ?_
              obtain ⟨r222, h223, h⟩ := x_bnd h
              refine xm_acl hI (xw_run (rest := []) F Z.2 hI (mL_undo l Z.1 X _ r213.2  r222 h223) gw_L_273 hd_L_undo ⟨by decide, by decide⟩ ⟨rfl, rfl⟩ rfl hl.1 rfl (Nat.le_of_ble_eq_true rfl) dL_follows_924 ⟨(by show _ ≤ (251 : Nat); omega), (by show _ ≤ (1506 : Nat); omega)⟩) (fun H locs hI => ?_)
              refine lv_lconst (v := 0) hx hb dL_follows_927 (by decide) ?_
              refine W.lcmp hx hb dL_follows_928 ?_
              refine lv_if_ne (tgt := 936) hx hb dL_follows_929 (by decide) (fun c224 => ?_) (fun c224 => ?_)
              · have h := x_iff h c224
                refine lv_iconst (v := 0) hx hb dL_follows_936 (by decide) ?_
                rw [x_some h]
                exact W.widen (by omega) (by omega) (x_zret (v := 0) F hI (by decide) dL_follows_937)
              · have h := x_ift h c224
                refine lv_iconst (v := 1) hx hb dL_follows_932 (by decide) ?_
                refine lv_goto (tgt := 937) hx hb dL_follows_933 (by decide) ?_
                rw [x_some h]
                exact W.widen (by omega) (by omega) (x_zret (v := 1) F hI (by decide) dL_follows_937)
def fL_follows_j870 (σ : x_S) (y6 : Int32) (y7 : Int32) (y9 : Int32) (z0 : Int32) : Option (Int32 × x_S) := fL_follows_j872 σ y6 y7 y9 z0
set_option maxHeartbeats 4000000 in
set_option maxRecDepth 100000 in
theorem wL_follows_j870 {p : Program} {l : Launch} {e : Env} {s : State} {m : MethodId} {args : Array Value} {below : List Frame} {meth : Method} {c : Code} {X : x_T} {r : (Int32 × x_S)} (F : x_F p s m args meth c cL_follows 26 RL (some .boolean)) (Z : xm_Z l s X) (σ : x_S) (y6 : Int32) (y7 : Int32) (y9 : Int32) (z0 : Int32) (H : Heap) (locs : List Loc) (ls : Array Slot) (cells slots : Nat) (hf : cells + (2) ≤ 251 ∧ slots + 6 * (2) ≤ 1506) (h : fL_follows_j870 σ y6 y7 y9 z0 = some r) (hI : x_I X σ s H locs) (hl : lv_has ls 26 [(0, .ref (X.2.2 10 32)), (6, .int y6), (7, .int y7), (9, .int y9)]) : W p l e rm_L_follows s m args below meth c H locs cells slots (MQ below (x_Qi X r.1 r.2 s.heap.size) args s 251 1506 (x_A X s.heap.size)) (F0 m 870 ls [.int z0]) := by
  have hx := F.1
  have hb := F.2.1
  have hml := F.2.2.1
  have hown := F.2.2.2.1
  have hts := F.2.2.2.2.1
  obtain ⟨hf1, hf2⟩ := hf
  unfold fL_follows_j870 at h
  refine lv_istore (lv' := [(10, .int z0), (0, .ref (X.2.2 10 32)), (6, .int y6), (7, .int y7), (9, .int y9)]) hx hb dL_follows_870 hl (by decide) rfl (fun ls hl => ?_)
  exact wL_follows_j872 F Z σ y6 y7 y9 z0 _ _ _ _ _ ⟨by omega, by omega⟩ h hI (lv_sub hl [1, 2, 3, 4, 0] rfl)
def fL_follows_j869 (σ : x_S) (y6 : Int32) (y7 : Int32) (y9 : Int32) : Option (Int32 × x_S) := fL_follows_j870 σ y6 y7 y9 (0 : Int32)
set_option maxHeartbeats 4000000 in
set_option maxRecDepth 100000 in
theorem wL_follows_j869 {p : Program} {l : Launch} {e : Env} {s : State} {m : MethodId} {args : Array Value} {below : List Frame} {meth : Method} {c : Code} {X : x_T} {r : (Int32 × x_S)} (F : x_F p s m args meth c cL_follows 26 RL (some .boolean)) (Z : xm_Z l s X) (σ : x_S) (y6 : Int32) (y7 : Int32) (y9 : Int32) (H : Heap) (locs : List Loc) (ls : Array Slot) (cells slots : Nat) (hf : cells + (2) ≤ 251 ∧ slots + 6 * (2) ≤ 1506) (h : fL_follows_j869 σ y6 y7 y9 = some r) (hI : x_I X σ s H locs) (hl : lv_has ls 26 [(0, .ref (X.2.2 10 32)), (6, .int y6), (7, .int y7), (9, .int y9)]) : W p l e rm_L_follows s m args below meth c H locs cells slots (MQ below (x_Qi X r.1 r.2 s.heap.size) args s 251 1506 (x_A X s.heap.size)) (F0 m 869 ls []) := by
  have hx := F.1
  have hb := F.2.1
  have hml := F.2.2.1
  have hown := F.2.2.2.1
  have hts := F.2.2.2.2.1
  obtain ⟨hf1, hf2⟩ := hf
  unfold fL_follows_j869 at h
  refine lv_iconst (v := 0) hx hb dL_follows_869 (by decide) ?_
  exact wL_follows_j870 F Z σ y6 y7 y9 (0 : Int32) _ _ _ _ _ ⟨by omega, by omega⟩ h hI (lv_sub hl [0, 1, 2, 3] rfl)
def fL_follows_j778 (σ : x_S) (y1 : Int32) (y6 : Int32) (y7 : Int32) (y9 : Int32) (z0 : Int32) : Option (Int32 × x_S) := (if z0 = 0 then fL_follows_j872 σ y6 y7 y9 z0 else (if y7 ≤ 0 then fL_follows_j872 σ y6 y7 y9 z0 else (if ¬ y7 = 0 then x_let (y1 - y1 / y7 * y7) fun x156 => (Option.bind (fX6_lost σ ) fun r158 => (Option.bind (fL_kindAt σ x156) fun r160 => (Option.bind (fL_lose r160.2 x156) fun r162 => (if (lg_cmp r162.1 r160.1) = 0 then (Option.bind (fX6_messages r162.2 ) fun r165 => (if r165 = (y7 - (1 : Int32)) then (Option.bind (fX6_lost r162.2 ) fun r168 => (if r168 = (r158 + (1 : Int32)) then (Option.bind (fL_undo r162.2 ) fun r171 => (if (lg_cmp r171.1 (0 : Int64)) = 0 then (Option.bind (fL_kindAt r171.2 x156) fun r174 => (if (lg_cmp r174.1 r160.1) = 0 then fL_follows_j870 r174.2 y6 y7 y9 (1 : Int32) else fL_follows_j869 r174.2 y6 y7 y9)) else fL_follows_j869 r171.2 y6 y7 y9)) else fL_follows_j869 r162.2 y6 y7 y9)) else fL_follows_j869 r162.2 y6 y7 y9)) else fL_follows_j869 r162.2 y6 y7 y9)))) else none)))
set_option maxHeartbeats 4000000 in
set_option maxRecDepth 100000 in
theorem wL_follows_j778 {p : Program} {l : Launch} {e : Env} {s : State} {m : MethodId} {args : Array Value} {below : List Frame} {meth : Method} {c : Code} {X : x_T} {r : (Int32 × x_S)} (F : x_F p s m args meth c cL_follows 26 RL (some .boolean)) (Z : xm_Z l s X) (σ : x_S) (y1 : Int32) (y6 : Int32) (y7 : Int32) (y9 : Int32) (z0 : Int32) (H : Heap) (locs : List Loc) (ls : Array Slot) (cells slots : Nat) (hf : cells + (6) ≤ 251 ∧ slots + 6 * (6) ≤ 1506) (h : fL_follows_j778 σ y1 y6 y7 y9 z0 = some r) (hI : x_I X σ s H locs) (hl : lv_has ls 26 [(0, .ref (X.2.2 10 32)), (1, .int y1), (6, .int y6), (7, .int y7), (9, .int y9)]) : W p l e rm_L_follows s m args below meth c H locs cells slots (MQ below (x_Qi X r.1 r.2 s.heap.size) args s 251 1506 (x_A X s.heap.size)) (F0 m 778 ls [.int z0]) := by
  have hx := F.1
  have hb := F.2.1
  have hml := F.2.2.1
  have hown := F.2.2.2.1
  have hts := F.2.2.2.2.1
  obtain ⟨hf1, hf2⟩ := hf
  unfold fL_follows_j778 at h
  refine lv_istore (lv' := [(10, .int z0), (0, .ref (X.2.2 10 32)), (1, .int y1), (6, .int y6), (7, .int y7), (9, .int y9)]) hx hb dL_follows_778 hl (by decide) rfl (fun ls hl => ?_)
  refine lv_iload hx hb dL_follows_780 (lv_at hl 0 rfl) ?_
  refine lv_if_eq (tgt := 872) hx hb dL_follows_782 (by decide) (fun c153 => ?_) (fun c153 => ?_)
  · have h := x_ift h c153
    exact wL_follows_j872 F Z σ y6 y7 y9 z0 _ _ _ _ _ ⟨by omega, by omega⟩ h hI (lv_sub hl [1, 3, 4, 5, 0] rfl)
  · have h := x_iff h c153
    refine lv_iload hx hb dL_follows_785 (lv_at hl 4 rfl) ?_
    refine lv_if_le (tgt := 872) hx hb dL_follows_787 (by decide) (fun c154 => ?_) (fun c154 => ?_)
    · have h := x_ift h c154
      exact wL_follows_j872 F Z σ y6 y7 y9 z0 _ _ _ _ _ ⟨by omega, by omega⟩ h hI (lv_sub hl [1, 3, 4, 5, 0] rfl)
    · have h := x_iff h c154
      refine lv_iload_n hx hb dL_follows_790 rfl (lv_at hl 2 rfl) ?_
      refine lv_iload hx hb dL_follows_791 (lv_at hl 4 rfl) ?_
      obtain ⟨g155, h⟩ := x_chk h
      refine lv_irem hx hb dL_follows_793 g155 ?_
      refine lv_topi (fun x156 e157 => ?_)
      have h := x_let_at h e157
      refine lv_istore (lv' := [(16, .int x156), (10, .int z0), (0, .ref (X.2.2 10 32)), (1, .int y1), (6, .int y6), (7, .int y7), (9, .int y9)]) hx hb dL_follows_794 hl (by decide) rfl (fun ls hl => ?_)
      refine lv_aload_n hx hb dL_follows_796 rfl (lv_at hl 2 rfl) ?_
      obtain ⟨r158, h159, h⟩ := x_bnd h
      refine x_aci hI (x_runV (rest := []) F hI (mX6_lost l X _ σ  r158 h159) g_L_258 ⟨rfl, hd_X6_lost⟩ ⟨by decide, by decide⟩ ⟨rfl, rfl⟩ (x_inO (by decide)) rfl rfl rfl rfl hl.1 rfl (Nat.le_of_ble_eq_true rfl) dL_follows_797 ⟨(by show _ ≤ (251 : Nat); omega), (by show _ ≤ (1506 : Nat); omega)⟩) (fun H locs hI => ?_)
      refine lv_istore (lv' := [(17, .int r158), (16, .int x156), (10, .int z0), (0, .ref (X.2.2 10 32)), (1, .int y1), (6, .int y6), (7, .int y7), (9, .int y9)]) hx hb dL_follows_800 hl (by decide) rfl (fun ls hl => ?_)
      refine lv_aload_n hx hb dL_follows_802 rfl (lv_at hl 3 rfl) ?_
      refine lv_iload hx hb dL_follows_803 (lv_at hl 1 rfl) ?_
      obtain ⟨r160, h161, h⟩ := x_bnd h
      refine xm_acl hI (xw_run (rest := []) F Z.2 hI (mL_kindAt l Z.1 X _ σ x156 r160 h161) gw_L_204 hd_L_kindAt ⟨by decide, by decide⟩ ⟨rfl, rfl⟩ rfl hl.1 rfl (Nat.le_of_ble_eq_true rfl) dL_follows_805 ⟨(by show _ ≤ (251 : Nat); omega), (by show _ ≤ (1506 : Nat); omega)⟩) (fun H locs hI => ?_)
      refine lv_lstore (lv' := [(18, .long r160.1), (17, .int r158), (16, .int x156), (10, .int z0), (0, .ref (X.2.2 10 32)), (1, .int y1), (6, .int y6), (7, .int y7), (9, .int y9)]) hx hb dL_follows_808 hl (by decide) rfl (fun ls hl => ?_)
      refine lv_aload_n hx hb dL_follows_810 rfl (lv_at hl 4 rfl) ?_
      refine lv_iload hx hb dL_follows_811 (lv_at hl 2 rfl) ?_
      obtain ⟨r162, h163, h⟩ := x_bnd h
      refine xm_acl hI (xw_run (rest := []) F Z.2 hI (mL_lose l Z.1 X _ r160.2 x156 r162 h163) gw_L_169 hd_L_lose ⟨by decide, by decide⟩ ⟨rfl, rfl⟩ rfl hl.1 rfl (Nat.le_of_ble_eq_true rfl) dL_follows_813 ⟨(by show _ ≤ (251 : Nat); omega), (by show _ ≤ (1506 : Nat); omega)⟩) (fun H locs hI => ?_)
      refine lv_lload hx hb dL_follows_816 (lv_at hl 0 rfl) ?_
      refine W.lcmp hx hb dL_follows_818 ?_
      refine lv_if_ne (tgt := 869) hx hb dL_follows_819 (by decide) (fun c164 => ?_) (fun c164 => ?_)
      · have h := x_iff h c164
        exact wL_follows_j869 F Z r162.2 y6 y7 y9 _ _ _ _ _ ⟨by omega, by omega⟩ h hI (lv_sub hl [4, 6, 7, 8] rfl)
      · have h := x_ift h c164
        refine lv_aload_n hx hb dL_follows_822 rfl (lv_at hl 4 rfl) ?_
        obtain ⟨r165, h166, h⟩ := x_bnd h
        refine x_aci hI (x_runV (rest := []) F hI (mX6_messages l X _ r162.2  r165 h166) g_L_140 ⟨rfl, hd_X6_messages⟩ ⟨by decide, by decide⟩ ⟨rfl, rfl⟩ (x_inO (by decide)) rfl rfl rfl rfl hl.1 rfl (Nat.le_of_ble_eq_true rfl) dL_follows_823 ⟨(by show _ ≤ (251 : Nat); omega), (by show _ ≤ (1506 : Nat); omega)⟩) (fun H locs hI => ?_)
        refine lv_iload hx hb dL_follows_826 (lv_at hl 7 rfl) ?_
        refine lv_iconst (v := 1) hx hb dL_follows_828 (by decide) ?_
        refine lv_isub hx hb dL_follows_829 ?_
        refine lv_icmp_ne (tgt := 869) hx hb dL_follows_830 (by decide) (fun c167 => ?_) (fun c167 => ?_)
        · have h := x_iff h c167
          exact wL_follows_j869 F Z r162.2 y6 y7 y9 _ _ _ _ _ ⟨by omega, by omega⟩ h hI (lv_sub hl [4, 6, 7, 8] rfl)
        · have h := x_ift h c167
          refine lv_aload_n hx hb dL_follows_833 rfl (lv_at hl 4 rfl) ?_
          obtain ⟨r168, h169, h⟩ := x_bnd h
          refine x_aci hI (x_runV (rest := []) F hI (mX6_lost l X _ r162.2  r168 h169) g_L_258 ⟨rfl, hd_X6_lost⟩ ⟨by decide, by decide⟩ ⟨rfl, rfl⟩ (x_inO (by decide)) rfl rfl rfl rfl hl.1 rfl (Nat.le_of_ble_eq_true rfl) dL_follows_834 ⟨(by show _ ≤ (251 : Nat); omega), (by show _ ≤ (1506 : Nat); omega)⟩) (fun H locs hI => ?_)
          refine lv_iload hx hb dL_follows_837 (lv_at hl 1 rfl) ?_
          refine lv_iconst (v := 1) hx hb dL_follows_839 (by decide) ?_
          refine lv_iadd hx hb dL_follows_840 ?_
          refine lv_icmp_ne (tgt := 869) hx hb dL_follows_841 (by decide) (fun c170 => ?_) (fun c170 => ?_)
          · have h := x_iff h c170
            exact wL_follows_j869 F Z r162.2 y6 y7 y9 _ _ _ _ _ ⟨by omega, by omega⟩ h hI (lv_sub hl [4, 6, 7, 8] rfl)
          · have h := x_ift h c170
            refine lv_aload_n hx hb dL_follows_844 rfl (lv_at hl 4 rfl) ?_
            obtain ⟨r171, h172, h⟩ := x_bnd h
            refine xm_acl hI (xw_run (rest := []) F Z.2 hI (mL_undo l Z.1 X _ r162.2  r171 h172) gw_L_273 hd_L_undo ⟨by decide, by decide⟩ ⟨rfl, rfl⟩ rfl hl.1 rfl (Nat.le_of_ble_eq_true rfl) dL_follows_845 ⟨(by show _ ≤ (251 : Nat); omega), (by show _ ≤ (1506 : Nat); omega)⟩) (fun H locs hI => ?_)
            refine lv_lconst (v := 0) hx hb dL_follows_848 (by decide) ?_
            refine W.lcmp hx hb dL_follows_849 ?_
            refine lv_if_ne (tgt := 869) hx hb dL_follows_850 (by decide) (fun c173 => ?_) (fun c173 => ?_)
            · have h := x_iff h c173
              exact wL_follows_j869 F Z r171.2 y6 y7 y9 _ _ _ _ _ ⟨by omega, by omega⟩ h hI (lv_sub hl [4, 6, 7, 8] rfl)
            · have h := x_ift h c173
              refine lv_aload_n hx hb dL_follows_853 rfl (lv_at hl 4 rfl) ?_
              refine lv_iload hx hb dL_follows_854 (lv_at hl 2 rfl) ?_
              obtain ⟨r174, h175, h⟩ := x_bnd h
              refine xm_acl hI (xw_run (rest := []) F Z.2 hI (mL_kindAt l Z.1 X _ r171.2 x156 r174 h175) gw_L_204 hd_L_kindAt ⟨by decide, by decide⟩ ⟨rfl, rfl⟩ rfl hl.1 rfl (Nat.le_of_ble_eq_true rfl) dL_follows_856 ⟨(by show _ ≤ (251 : Nat); omega), (by show _ ≤ (1506 : Nat); omega)⟩) (fun H locs hI => ?_)
              refine lv_lload hx hb dL_follows_859 (lv_at hl 0 rfl) ?_
              refine W.lcmp hx hb dL_follows_861 ?_
              refine lv_if_ne (tgt := 869) hx hb dL_follows_862 (by decide) (fun c176 => ?_) (fun c176 => ?_)
              · have h := x_iff h c176
                exact wL_follows_j869 F Z r174.2 y6 y7 y9 _ _ _ _ _ ⟨by omega, by omega⟩ h hI (lv_sub hl [4, 6, 7, 8] rfl)
              · have h := x_ift h c176
                refine lv_iconst (v := 1) hx hb dL_follows_865 (by decide) ?_
                refine lv_goto (tgt := 870) hx hb dL_follows_866 (by decide) ?_
                exact wL_follows_j870 F Z r174.2 y6 y7 y9 (1 : Int32) _ _ _ _ _ ⟨by omega, by omega⟩ h hI (lv_sub hl [4, 6, 7, 8] rfl)
def fL_follows_j777 (σ : x_S) (y1 : Int32) (y6 : Int32) (y7 : Int32) (y9 : Int32) : Option (Int32 × x_S) := fL_follows_j778 σ y1 y6 y7 y9 (0 : Int32)
set_option maxHeartbeats 4000000 in
set_option maxRecDepth 100000 in
theorem wL_follows_j777 {p : Program} {l : Launch} {e : Env} {s : State} {m : MethodId} {args : Array Value} {below : List Frame} {meth : Method} {c : Code} {X : x_T} {r : (Int32 × x_S)} (F : x_F p s m args meth c cL_follows 26 RL (some .boolean)) (Z : xm_Z l s X) (σ : x_S) (y1 : Int32) (y6 : Int32) (y7 : Int32) (y9 : Int32) (H : Heap) (locs : List Loc) (ls : Array Slot) (cells slots : Nat) (hf : cells + (6) ≤ 251 ∧ slots + 6 * (6) ≤ 1506) (h : fL_follows_j777 σ y1 y6 y7 y9 = some r) (hI : x_I X σ s H locs) (hl : lv_has ls 26 [(0, .ref (X.2.2 10 32)), (1, .int y1), (6, .int y6), (7, .int y7), (9, .int y9)]) : W p l e rm_L_follows s m args below meth c H locs cells slots (MQ below (x_Qi X r.1 r.2 s.heap.size) args s 251 1506 (x_A X s.heap.size)) (F0 m 777 ls []) := by
  have hx := F.1
  have hb := F.2.1
  have hml := F.2.2.1
  have hown := F.2.2.2.1
  have hts := F.2.2.2.2.1
  obtain ⟨hf1, hf2⟩ := hf
  unfold fL_follows_j777 at h
  refine lv_iconst (v := 0) hx hb dL_follows_777 (by decide) ?_
  exact wL_follows_j778 F Z σ y1 y6 y7 y9 (0 : Int32) _ _ _ _ _ ⟨by omega, by omega⟩ h hI (lv_sub hl [0, 1, 2, 3, 4] rfl)
def fL_follows_j719 (σ : x_S) (y1 : Int32) (y6 : Int32) (y7 : Int32) (y9 : Int32) (y10 : Int32) : Option (Int32 × x_S) := x_let (y1 - y1 / (16 : Int32) * (16 : Int32)) fun x108 => (Option.bind (fL_hasGhost σ x108) fun r110 => (if y10 = 0 then fL_follows_j777 r110.2 y1 y6 y7 y9 else (Option.bind (fL_turnGhost r110.2 x108) fun r113 => (if (lg_cmp r113.1 ((1 : Int64) - r110.1)) = 0 then (Option.bind (fL_undo r113.2 ) fun r116 => (if (lg_cmp r116.1 (0 : Int64)) = 0 then (Option.bind (fL_hasGhost r116.2 x108) fun r119 => (if (lg_cmp r119.1 r110.1) = 0 then fL_follows_j778 r119.2 y1 y6 y7 y9 (1 : Int32) else fL_follows_j777 r119.2 y1 y6 y7 y9)) else fL_follows_j777 r116.2 y1 y6 y7 y9)) else fL_follows_j777 r113.2 y1 y6 y7 y9))))
set_option maxHeartbeats 4000000 in
set_option maxRecDepth 100000 in
theorem wL_follows_j719 {p : Program} {l : Launch} {e : Env} {s : State} {m : MethodId} {args : Array Value} {below : List Frame} {meth : Method} {c : Code} {X : x_T} {r : (Int32 × x_S)} (F : x_F p s m args meth c cL_follows 26 RL (some .boolean)) (Z : xm_Z l s X) (σ : x_S) (y1 : Int32) (y6 : Int32) (y7 : Int32) (y9 : Int32) (y10 : Int32) (H : Heap) (locs : List Loc) (ls : Array Slot) (cells slots : Nat) (hf : cells + (10) ≤ 251 ∧ slots + 6 * (10) ≤ 1506) (h : fL_follows_j719 σ y1 y6 y7 y9 y10 = some r) (hI : x_I X σ s H locs) (hl : lv_has ls 26 [(0, .ref (X.2.2 10 32)), (1, .int y1), (6, .int y6), (7, .int y7), (9, .int y9), (10, .int y10)]) : W p l e rm_L_follows s m args below meth c H locs cells slots (MQ below (x_Qi X r.1 r.2 s.heap.size) args s 251 1506 (x_A X s.heap.size)) (F0 m 719 ls []) := by
  have hx := F.1
  have hb := F.2.1
  have hml := F.2.2.1
  have hown := F.2.2.2.1
  have hts := F.2.2.2.2.1
  obtain ⟨hf1, hf2⟩ := hf
  unfold fL_follows_j719 at h
  refine lv_iload_n hx hb dL_follows_719 rfl (lv_at hl 1 rfl) ?_
  refine lv_bipush (v := 16) hx hb dL_follows_720 (by decide) ?_
  refine lv_irem hx hb dL_follows_722 (by decide) ?_
  refine lv_topi (fun x108 e109 => ?_)
  have h := x_let_at h e109
  refine lv_istore (lv' := [(13, .int x108), (0, .ref (X.2.2 10 32)), (1, .int y1), (6, .int y6), (7, .int y7), (9, .int y9), (10, .int y10)]) hx hb dL_follows_723 hl (by decide) rfl (fun ls hl => ?_)
  refine lv_aload_n hx hb dL_follows_725 rfl (lv_at hl 1 rfl) ?_
  refine lv_iload hx hb dL_follows_726 (lv_at hl 0 rfl) ?_
  obtain ⟨r110, h111, h⟩ := x_bnd h
  refine xm_acl hI (xw_run (rest := []) F Z.2 hI (mL_hasGhost l Z.1 X _ σ x108 r110 h111) gw_L_200 hd_L_hasGhost ⟨by decide, by decide⟩ ⟨rfl, rfl⟩ rfl hl.1 rfl (Nat.le_of_ble_eq_true rfl) dL_follows_728 ⟨(by show _ ≤ (251 : Nat); omega), (by show _ ≤ (1506 : Nat); omega)⟩) (fun H locs hI => ?_)
  refine lv_lstore (lv' := [(14, .long r110.1), (13, .int x108), (0, .ref (X.2.2 10 32)), (1, .int y1), (6, .int y6), (7, .int y7), (9, .int y9), (10, .int y10)]) hx hb dL_follows_731 hl (by decide) rfl (fun ls hl => ?_)
  refine lv_iload hx hb dL_follows_733 (lv_at hl 7 rfl) ?_
  refine lv_if_eq (tgt := 777) hx hb dL_follows_735 (by decide) (fun c112 => ?_) (fun c112 => ?_)
  · have h := x_ift h c112
    exact wL_follows_j777 F Z r110.2 y1 y6 y7 y9 _ _ _ _ _ ⟨by omega, by omega⟩ h hI (lv_sub hl [2, 3, 4, 5, 6] rfl)
  · have h := x_iff h c112
    refine lv_aload_n hx hb dL_follows_738 rfl (lv_at hl 2 rfl) ?_
    refine lv_iload hx hb dL_follows_739 (lv_at hl 1 rfl) ?_
    obtain ⟨r113, h114, h⟩ := x_bnd h
    refine xm_acl hI (xw_run (rest := []) F Z.2 hI (mL_turnGhost l Z.1 X _ r110.2 x108 r113 h114) gw_L_159 hd_L_turnGhost ⟨by decide, by decide⟩ ⟨rfl, rfl⟩ rfl hl.1 rfl (Nat.le_of_ble_eq_true rfl) dL_follows_741 ⟨(by show _ ≤ (251 : Nat); omega), (by show _ ≤ (1506 : Nat); omega)⟩) (fun H locs hI => ?_)
    refine lv_lconst (v := 1) hx hb dL_follows_744 (by decide) ?_
    refine lv_lload hx hb dL_follows_745 (lv_at hl 0 rfl) ?_
    refine lv_lsub hx hb dL_follows_747 ?_
    refine W.lcmp hx hb dL_follows_748 ?_
    refine lv_if_ne (tgt := 777) hx hb dL_follows_749 (by decide) (fun c115 => ?_) (fun c115 => ?_)
    · have h := x_iff h c115
      exact wL_follows_j777 F Z r113.2 y1 y6 y7 y9 _ _ _ _ _ ⟨by omega, by omega⟩ h hI (lv_sub hl [2, 3, 4, 5, 6] rfl)
    · have h := x_ift h c115
      refine lv_aload_n hx hb dL_follows_752 rfl (lv_at hl 2 rfl) ?_
      obtain ⟨r116, h117, h⟩ := x_bnd h
      refine xm_acl hI (xw_run (rest := []) F Z.2 hI (mL_undo l Z.1 X _ r113.2  r116 h117) gw_L_273 hd_L_undo ⟨by decide, by decide⟩ ⟨rfl, rfl⟩ rfl hl.1 rfl (Nat.le_of_ble_eq_true rfl) dL_follows_753 ⟨(by show _ ≤ (251 : Nat); omega), (by show _ ≤ (1506 : Nat); omega)⟩) (fun H locs hI => ?_)
      refine lv_lconst (v := 0) hx hb dL_follows_756 (by decide) ?_
      refine W.lcmp hx hb dL_follows_757 ?_
      refine lv_if_ne (tgt := 777) hx hb dL_follows_758 (by decide) (fun c118 => ?_) (fun c118 => ?_)
      · have h := x_iff h c118
        exact wL_follows_j777 F Z r116.2 y1 y6 y7 y9 _ _ _ _ _ ⟨by omega, by omega⟩ h hI (lv_sub hl [2, 3, 4, 5, 6] rfl)
      · have h := x_ift h c118
        refine lv_aload_n hx hb dL_follows_761 rfl (lv_at hl 2 rfl) ?_
        refine lv_iload hx hb dL_follows_762 (lv_at hl 1 rfl) ?_
        obtain ⟨r119, h120, h⟩ := x_bnd h
        refine xm_acl hI (xw_run (rest := []) F Z.2 hI (mL_hasGhost l Z.1 X _ r116.2 x108 r119 h120) gw_L_200 hd_L_hasGhost ⟨by decide, by decide⟩ ⟨rfl, rfl⟩ rfl hl.1 rfl (Nat.le_of_ble_eq_true rfl) dL_follows_764 ⟨(by show _ ≤ (251 : Nat); omega), (by show _ ≤ (1506 : Nat); omega)⟩) (fun H locs hI => ?_)
        refine lv_lload hx hb dL_follows_767 (lv_at hl 0 rfl) ?_
        refine W.lcmp hx hb dL_follows_769 ?_
        refine lv_if_ne (tgt := 777) hx hb dL_follows_770 (by decide) (fun c121 => ?_) (fun c121 => ?_)
        · have h := x_iff h c121
          exact wL_follows_j777 F Z r119.2 y1 y6 y7 y9 _ _ _ _ _ ⟨by omega, by omega⟩ h hI (lv_sub hl [2, 3, 4, 5, 6] rfl)
        · have h := x_ift h c121
          refine lv_iconst (v := 1) hx hb dL_follows_773 (by decide) ?_
          refine lv_goto (tgt := 778) hx hb dL_follows_774 (by decide) ?_
          exact wL_follows_j778 F Z r119.2 y1 y6 y7 y9 (1 : Int32) _ _ _ _ _ ⟨by omega, by omega⟩ h hI (lv_sub hl [2, 3, 4, 5, 6] rfl)
def fL_follows_b252 : Nat → x_S → Int32 → Int32 → Int32 → Int32 → Int32 → Int32 → Option (Int32 × x_S)
  | 0, _, _, _, _, _, _, _ => none
  | n + 1, σ, y1, y6, y7, y9, y10, y13 => (if (12 : Int32) ≤ y13 then fL_follows_j719 σ y1 y6 y7 y9 y10 else (if y10 = 0 then fL_follows_j719 σ y1 y6 y7 y9 y10 else (Option.bind (fL_doingOf σ y13) fun r72 => (Option.bind (fL_roomFor r72.2 y13) fun r74 => (if (lg_cmp r72.1 (0 : Int64)) = 0 then (if y7 = 0 then (Option.bind (fL_seek r74.2 y13) fun r78 => (if (lg_cmp r78.1 (1 : Int64)) = 0 then (Option.bind (fL_doingOf r78.2 y13) fun r81 => (if (lg_cmp r81.1 (1 : Int64)) = 0 then (Option.bind (fL_deliver r81.2 (0 : Int32)) fun r84 => (if (lg_cmp r84.1 (0 : Int64)) = 0 then (if (lg_cmp r74.1 (-9000000000000000003 : Int64)) = 0 then (Option.bind (fX6_messages r84.2 ) fun r88 => (if r88 = 0 then fL_follows_j406 (fL_follows_b252 n) r84.2 y1 y6 y7 y9 y13 r72.1 else fL_follows_j448 (fL_follows_b252 n) r84.2 y1 y6 y7 y9 y13 r72.1)) else (Option.bind (fL_stateOf r84.2 (r74.1).toInt32) fun r91 => (if (lg_cmp r91.1 (1 : Int64)) = 0 then (Option.bind (fL_guestOf r91.2 (r74.1).toInt32) fun r94 => (if (lg_cmp r94.1 y13.toInt64) = 0 then (Option.bind (fL_ticksOf r94.2 (r74.1).toInt32) fun r97 => (Option.bind (fX6_holdTicks r97.2 ) fun r99 => (if (lg_cmp r97.1 r99.toInt64) = 0 then (Option.bind (fL_kindAt r97.2 (0 : Int32)) fun r102 => (if (lg_cmp r102.1 (1 : Int64)) = 0 then (Option.bind (fL_roomAt r102.2 (0 : Int32)) fun r105 => (if (lg_cmp r105.1 r74.1) = 0 then fL_follows_j406 (fL_follows_b252 n) r105.2 y1 y6 y7 y9 y13 r72.1 else fL_follows_j448 (fL_follows_b252 n) r105.2 y1 y6 y7 y9 y13 r72.1)) else fL_follows_j448 (fL_follows_b252 n) r102.2 y1 y6 y7 y9 y13 r72.1)) else fL_follows_j448 (fL_follows_b252 n) r97.2 y1 y6 y7 y9 y13 r72.1))) else fL_follows_j448 (fL_follows_b252 n) r94.2 y1 y6 y7 y9 y13 r72.1)) else fL_follows_j448 (fL_follows_b252 n) r91.2 y1 y6 y7 y9 y13 r72.1))) else fL_follows_j448 (fL_follows_b252 n) r84.2 y1 y6 y7 y9 y13 r72.1)) else fL_follows_j448 (fL_follows_b252 n) r81.2 y1 y6 y7 y9 y13 r72.1)) else fL_follows_j448 (fL_follows_b252 n) r78.2 y1 y6 y7 y9 y13 r72.1)) else fL_follows_j454 (fL_follows_b252 n) r74.2 y1 y6 y7 y9 y10 y13 r72.1) else fL_follows_j454 (fL_follows_b252 n) r74.2 y1 y6 y7 y9 y10 y13 r72.1)))))
set_option maxHeartbeats 4000000 in
set_option maxRecDepth 100000 in
theorem wL_follows_b252 {p : Program} {l : Launch} {e : Env} {s : State} {m : MethodId} {args : Array Value} {below : List Frame} {meth : Method} {c : Code} {X : x_T} {r : (Int32 × x_S)} (F : x_F p s m args meth c cL_follows 26 RL (some .boolean)) (Z : xm_Z l s X) : ∀ (n : Nat) (σ : x_S) (y1 : Int32) (y6 : Int32) (y7 : Int32) (y9 : Int32) (y10 : Int32) (y13 : Int32) (H : Heap) (locs : List Loc) (ls : Array Slot) (cells slots : Nat), cells + (18 * n + 10) ≤ 251 ∧ slots + 6 * (18 * n + 10) ≤ 1506 → fL_follows_b252 n σ y1 y6 y7 y9 y10 y13 = some r → x_I X σ s H locs → lv_has ls 26 [(0, .ref (X.2.2 10 32)), (1, .int y1), (6, .int y6), (7, .int y7), (9, .int y9), (10, .int y10), (13, .int y13)] → W p l e rm_L_follows s m args below meth c H locs cells slots (MQ below (x_Qi X r.1 r.2 s.heap.size) args s 251 1506 (x_A X s.heap.size)) (F0 m 252 ls []) := by
  have hx := F.1
  have hb := F.2.1
  have hml := F.2.2.1
  have hown := F.2.2.2.1
  have hts := F.2.2.2.2.1
  intro n
  induction n with
  | zero =>
    intro σ y1 y6 y7 y9 y10 y13 H locs ls cells slots hf h
    rw [fL_follows_b252] at h
    cases h
  | succ n ih =>
    intro σ y1 y6 y7 y9 y10 y13 H locs ls cells slots hf h hI hl
    obtain ⟨hf1, hf2⟩ := hf
    rw [fL_follows_b252] at h
    refine lv_iload hx hb dL_follows_252 (lv_at hl 6 rfl) ?_
    refine lv_bipush (v := 12) hx hb dL_follows_254 (by decide) ?_
    refine lv_icmp_ge (tgt := 719) hx hb dL_follows_256 (by decide) (fun c70 => ?_) (fun c70 => ?_)
    · have h := x_ift h c70
      exact wL_follows_j719 F Z σ y1 y6 y7 y9 y10 _ _ _ _ _ ⟨by omega, by omega⟩ h hI (lv_sub hl [0, 1, 2, 3, 4, 5] rfl)
    · have h := x_iff h c70
      refine lv_iload hx hb dL_follows_259 (lv_at hl 5 rfl) ?_
      refine lv_if_eq (tgt := 719) hx hb dL_follows_261 (by decide) (fun c71 => ?_) (fun c71 => ?_)
      · have h := x_ift h c71
        exact wL_follows_j719 F Z σ y1 y6 y7 y9 y10 _ _ _ _ _ ⟨by omega, by omega⟩ h hI (lv_sub hl [0, 1, 2, 3, 4, 5] rfl)
      · have h := x_iff h c71
        refine lv_aload_n hx hb dL_follows_264 rfl (lv_at hl 0 rfl) ?_
        refine lv_iload hx hb dL_follows_265 (lv_at hl 6 rfl) ?_
        obtain ⟨r72, h73, h⟩ := x_bnd h
        refine xm_acl hI (xw_run (rest := []) F Z.2 hI (mL_doingOf l Z.1 X _ σ y13 r72 h73) gw_L_179 hd_L_doingOf ⟨by decide, by decide⟩ ⟨rfl, rfl⟩ rfl hl.1 rfl (Nat.le_of_ble_eq_true rfl) dL_follows_267 ⟨(by show _ ≤ (251 : Nat); omega), (by show _ ≤ (1506 : Nat); omega)⟩) (fun H locs hI => ?_)
        refine lv_lstore (lv' := [(14, .long r72.1), (0, .ref (X.2.2 10 32)), (1, .int y1), (6, .int y6), (7, .int y7), (9, .int y9), (10, .int y10), (13, .int y13)]) hx hb dL_follows_270 hl (by decide) rfl (fun ls hl => ?_)
        refine lv_aload_n hx hb dL_follows_272 rfl (lv_at hl 1 rfl) ?_
        refine lv_iload hx hb dL_follows_273 (lv_at hl 7 rfl) ?_
        obtain ⟨r74, h75, h⟩ := x_bnd h
        refine xm_acl hI (xw_run (rest := []) F Z.2 hI (mL_roomFor l Z.1 X _ r72.2 y13 r74 h75) gw_L_202 hd_L_roomFor ⟨by decide, by decide⟩ ⟨rfl, rfl⟩ rfl hl.1 rfl (Nat.le_of_ble_eq_true rfl) dL_follows_275 ⟨(by show _ ≤ (251 : Nat); omega), (by show _ ≤ (1506 : Nat); omega)⟩) (fun H locs hI => ?_)
        refine lv_lstore (lv' := [(16, .long r74.1), (14, .long r72.1), (0, .ref (X.2.2 10 32)), (1, .int y1), (6, .int y6), (7, .int y7), (9, .int y9), (10, .int y10), (13, .int y13)]) hx hb dL_follows_278 hl (by decide) rfl (fun ls hl => ?_)
        refine lv_lload hx hb dL_follows_280 (lv_at hl 1 rfl) ?_
        refine lv_lconst (v := 0) hx hb dL_follows_282 (by decide) ?_
        refine W.lcmp hx hb dL_follows_283 ?_
        refine lv_if_ne (tgt := 454) hx hb dL_follows_284 (by decide) (fun c76 => ?_) (fun c76 => ?_)
        · have h := x_iff h c76
          exact wL_follows_j454 F Z (fL_follows_b252 n) (18 * n + 10) ih r74.2 y1 y6 y7 y9 y10 y13 r72.1 _ _ _ _ _ ⟨by omega, by omega⟩ h hI (lv_sub hl [2, 3, 4, 5, 6, 7, 8, 1] rfl)
        · have h := x_ift h c76
          refine lv_iload hx hb dL_follows_287 (lv_at hl 5 rfl) ?_
          refine lv_if_ne (tgt := 454) hx hb dL_follows_289 (by decide) (fun c77 => ?_) (fun c77 => ?_)
          · have h := x_iff h c77
            exact wL_follows_j454 F Z (fL_follows_b252 n) (18 * n + 10) ih r74.2 y1 y6 y7 y9 y10 y13 r72.1 _ _ _ _ _ ⟨by omega, by omega⟩ h hI (lv_sub hl [2, 3, 4, 5, 6, 7, 8, 1] rfl)
          · have h := x_ift h c77
            refine lv_aload_n hx hb dL_follows_292 rfl (lv_at hl 2 rfl) ?_
            refine lv_iload hx hb dL_follows_293 (lv_at hl 8 rfl) ?_
            obtain ⟨r78, h79, h⟩ := x_bnd h
            refine xm_acl hI (xw_run (rest := []) F Z.2 hI (mL_seek l Z.1 X _ r74.2 y13 r78 h79) gw_L_143 hd_L_seek ⟨by decide, by decide⟩ ⟨rfl, rfl⟩ rfl hl.1 rfl (Nat.le_of_ble_eq_true rfl) dL_follows_295 ⟨(by show _ ≤ (251 : Nat); omega), (by show _ ≤ (1506 : Nat); omega)⟩) (fun H locs hI => ?_)
            refine lv_lconst (v := 1) hx hb dL_follows_298 (by decide) ?_
            refine W.lcmp hx hb dL_follows_299 ?_
            refine lv_if_ne (tgt := 448) hx hb dL_follows_300 (by decide) (fun c80 => ?_) (fun c80 => ?_)
            · have h := x_iff h c80
              exact wL_follows_j448 F Z (fL_follows_b252 n) (18 * n + 10) ih r78.2 y1 y6 y7 y9 y13 r72.1 _ _ _ _ _ ⟨by omega, by omega⟩ h hI (lv_sub hl [2, 3, 4, 5, 6, 8, 1] rfl)
            · have h := x_ift h c80
              refine lv_aload_n hx hb dL_follows_303 rfl (lv_at hl 2 rfl) ?_
              refine lv_iload hx hb dL_follows_304 (lv_at hl 8 rfl) ?_
              obtain ⟨r81, h82, h⟩ := x_bnd h
              refine xm_acl hI (xw_run (rest := []) F Z.2 hI (mL_doingOf l Z.1 X _ r78.2 y13 r81 h82) gw_L_179 hd_L_doingOf ⟨by decide, by decide⟩ ⟨rfl, rfl⟩ rfl hl.1 rfl (Nat.le_of_ble_eq_true rfl) dL_follows_306 ⟨(by show _ ≤ (251 : Nat); omega), (by show _ ≤ (1506 : Nat); omega)⟩) (fun H locs hI => ?_)
              refine lv_lconst (v := 1) hx hb dL_follows_309 (by decide) ?_
              refine W.lcmp hx hb dL_follows_310 ?_
              refine lv_if_ne (tgt := 448) hx hb dL_follows_311 (by decide) (fun c83 => ?_) (fun c83 => ?_)
              · have h := x_iff h c83
                exact wL_follows_j448 F Z (fL_follows_b252 n) (18 * n + 10) ih r81.2 y1 y6 y7 y9 y13 r72.1 _ _ _ _ _ ⟨by omega, by omega⟩ h hI (lv_sub hl [2, 3, 4, 5, 6, 8, 1] rfl)
              · have h := x_ift h c83
                refine lv_aload_n hx hb dL_follows_314 rfl (lv_at hl 2 rfl) ?_
                refine lv_iconst (v := 0) hx hb dL_follows_315 (by decide) ?_
                obtain ⟨r84, h85, h⟩ := x_bnd h
                refine xm_acl hI (xw_run (rest := []) F Z.2 hI (mL_deliver l Z.1 X _ r81.2 (0 : Int32) r84 h85) gw_L_167 hd_L_deliver ⟨by decide, by decide⟩ ⟨rfl, rfl⟩ rfl hl.1 rfl (Nat.le_of_ble_eq_true rfl) dL_follows_316 ⟨(by show _ ≤ (251 : Nat); omega), (by show _ ≤ (1506 : Nat); omega)⟩) (fun H locs hI => ?_)
                refine lv_lconst (v := 0) hx hb dL_follows_319 (by decide) ?_
                refine W.lcmp hx hb dL_follows_320 ?_
                refine lv_if_ne (tgt := 448) hx hb dL_follows_321 (by decide) (fun c86 => ?_) (fun c86 => ?_)
                · have h := x_iff h c86
                  exact wL_follows_j448 F Z (fL_follows_b252 n) (18 * n + 10) ih r84.2 y1 y6 y7 y9 y13 r72.1 _ _ _ _ _ ⟨by omega, by omega⟩ h hI (lv_sub hl [2, 3, 4, 5, 6, 8, 1] rfl)
                · have h := x_ift h c86
                  refine lv_lload hx hb dL_follows_324 (lv_at hl 0 rfl) ?_
                  refine lv_ldc2 (v := -9000000000000000003) hx hb hown (hts _ u_cl_L_21) dL_follows_326 ?_
                  refine W.lcmp hx hb dL_follows_329 ?_
                  refine lv_if_ne (tgt := 343) hx hb dL_follows_330 (by decide) (fun c87 => ?_) (fun c87 => ?_)
                  · have h := x_iff h c87
                    refine lv_aload_n hx hb dL_follows_343 rfl (lv_at hl 2 rfl) ?_
                    refine lv_lload hx hb dL_follows_344 (lv_at hl 0 rfl) ?_
                    refine lv_l2i hx hb dL_follows_346 rfl ?_
                    obtain ⟨r91, h92, h⟩ := x_bnd h
                    refine xm_acl hI (xw_run (rest := []) F Z.2 hI (mL_stateOf l Z.1 X _ r84.2 (r74.1).toInt32 r91 h92) gw_L_192 hd_L_stateOf ⟨by decide, by decide⟩ ⟨rfl, rfl⟩ rfl hl.1 rfl (Nat.le_of_ble_eq_true rfl) dL_follows_347 ⟨(by show _ ≤ (251 : Nat); omega), (by show _ ≤ (1506 : Nat); omega)⟩) (fun H locs hI => ?_)
                    refine lv_lconst (v := 1) hx hb dL_follows_350 (by decide) ?_
                    refine W.lcmp hx hb dL_follows_351 ?_
                    refine lv_if_ne (tgt := 448) hx hb dL_follows_352 (by decide) (fun c93 => ?_) (fun c93 => ?_)
                    · have h := x_iff h c93
                      exact wL_follows_j448 F Z (fL_follows_b252 n) (18 * n + 10) ih r91.2 y1 y6 y7 y9 y13 r72.1 _ _ _ _ _ ⟨by omega, by omega⟩ h hI (lv_sub hl [2, 3, 4, 5, 6, 8, 1] rfl)
                    · have h := x_ift h c93
                      refine lv_aload_n hx hb dL_follows_355 rfl (lv_at hl 2 rfl) ?_
                      refine lv_lload hx hb dL_follows_356 (lv_at hl 0 rfl) ?_
                      refine lv_l2i hx hb dL_follows_358 rfl ?_
                      obtain ⟨r94, h95, h⟩ := x_bnd h
                      refine xm_acl hI (xw_run (rest := []) F Z.2 hI (mL_guestOf l Z.1 X _ r91.2 (r74.1).toInt32 r94 h95) gw_L_194 hd_L_guestOf ⟨by decide, by decide⟩ ⟨rfl, rfl⟩ rfl hl.1 rfl (Nat.le_of_ble_eq_true rfl) dL_follows_359 ⟨(by show _ ≤ (251 : Nat); omega), (by show _ ≤ (1506 : Nat); omega)⟩) (fun H locs hI => ?_)
                      refine lv_iload hx hb dL_follows_362 (lv_at hl 8 rfl) ?_
                      refine lv_i2l hx hb dL_follows_364 rfl ?_
                      refine W.lcmp hx hb dL_follows_365 ?_
                      refine lv_if_ne (tgt := 448) hx hb dL_follows_366 (by decide) (fun c96 => ?_) (fun c96 => ?_)
                      · have h := x_iff h c96
                        exact wL_follows_j448 F Z (fL_follows_b252 n) (18 * n + 10) ih r94.2 y1 y6 y7 y9 y13 r72.1 _ _ _ _ _ ⟨by omega, by omega⟩ h hI (lv_sub hl [2, 3, 4, 5, 6, 8, 1] rfl)
                      · have h := x_ift h c96
                        refine lv_aload_n hx hb dL_follows_369 rfl (lv_at hl 2 rfl) ?_
                        refine lv_lload hx hb dL_follows_370 (lv_at hl 0 rfl) ?_
                        refine lv_l2i hx hb dL_follows_372 rfl ?_
                        obtain ⟨r97, h98, h⟩ := x_bnd h
                        refine xm_acl hI (xw_run (rest := []) F Z.2 hI (mL_ticksOf l Z.1 X _ r94.2 (r74.1).toInt32 r97 h98) gw_L_196 hd_L_ticksOf ⟨by decide, by decide⟩ ⟨rfl, rfl⟩ rfl hl.1 rfl (Nat.le_of_ble_eq_true rfl) dL_follows_373 ⟨(by show _ ≤ (251 : Nat); omega), (by show _ ≤ (1506 : Nat); omega)⟩) (fun H locs hI => ?_)
                        refine lv_aload_n hx hb dL_follows_376 rfl (lv_at hl 2 rfl) ?_
                        obtain ⟨r99, h100, h⟩ := x_bnd h
                        refine x_aci hI (x_runV (rest := [.long r97.1]) F hI (mX6_holdTicks l X _ r97.2  r99 h100) g_L_277 ⟨rfl, hd_X6_holdTicks⟩ ⟨by decide, by decide⟩ ⟨rfl, rfl⟩ (x_inO (by decide)) rfl rfl rfl rfl hl.1 rfl (Nat.le_of_ble_eq_true rfl) dL_follows_377 ⟨(by show _ ≤ (251 : Nat); omega), (by show _ ≤ (1506 : Nat); omega)⟩) (fun H locs hI => ?_)
                        refine lv_i2l hx hb dL_follows_380 rfl ?_
                        refine W.lcmp hx hb dL_follows_381 ?_
                        refine lv_if_ne (tgt := 448) hx hb dL_follows_382 (by decide) (fun c101 => ?_) (fun c101 => ?_)
                        · have h := x_iff h c101
                          exact wL_follows_j448 F Z (fL_follows_b252 n) (18 * n + 10) ih r97.2 y1 y6 y7 y9 y13 r72.1 _ _ _ _ _ ⟨by omega, by omega⟩ h hI (lv_sub hl [2, 3, 4, 5, 6, 8, 1] rfl)
                        · have h := x_ift h c101
                          refine lv_aload_n hx hb dL_follows_385 rfl (lv_at hl 2 rfl) ?_
                          refine lv_iconst (v := 0) hx hb dL_follows_386 (by decide) ?_
                          obtain ⟨r102, h103, h⟩ := x_bnd h
                          refine xm_acl hI (xw_run (rest := []) F Z.2 hI (mL_kindAt l Z.1 X _ r97.2 (0 : Int32) r102 h103) gw_L_204 hd_L_kindAt ⟨by decide, by decide⟩ ⟨rfl, rfl⟩ rfl hl.1 rfl (Nat.le_of_ble_eq_true rfl) dL_follows_387 ⟨(by show _ ≤ (251 : Nat); omega), (by show _ ≤ (1506 : Nat); omega)⟩) (fun H locs hI => ?_)
                          refine lv_lconst (v := 1) hx hb dL_follows_390 (by decide) ?_
                          refine W.lcmp hx hb dL_follows_391 ?_
                          refine lv_if_ne (tgt := 448) hx hb dL_follows_392 (by decide) (fun c104 => ?_) (fun c104 => ?_)
                          · have h := x_iff h c104
                            exact wL_follows_j448 F Z (fL_follows_b252 n) (18 * n + 10) ih r102.2 y1 y6 y7 y9 y13 r72.1 _ _ _ _ _ ⟨by omega, by omega⟩ h hI (lv_sub hl [2, 3, 4, 5, 6, 8, 1] rfl)
                          · have h := x_ift h c104
                            refine lv_aload_n hx hb dL_follows_395 rfl (lv_at hl 2 rfl) ?_
                            refine lv_iconst (v := 0) hx hb dL_follows_396 (by decide) ?_
                            obtain ⟨r105, h106, h⟩ := x_bnd h
                            refine xm_acl hI (xw_run (rest := []) F Z.2 hI (mL_roomAt l Z.1 X _ r102.2 (0 : Int32) r105 h106) gw_L_208 hd_L_roomAt ⟨by decide, by decide⟩ ⟨rfl, rfl⟩ rfl hl.1 rfl (Nat.le_of_ble_eq_true rfl) dL_follows_397 ⟨(by show _ ≤ (251 : Nat); omega), (by show _ ≤ (1506 : Nat); omega)⟩) (fun H locs hI => ?_)
                            refine lv_lload hx hb dL_follows_400 (lv_at hl 0 rfl) ?_
                            refine W.lcmp hx hb dL_follows_402 ?_
                            refine lv_if_ne (tgt := 448) hx hb dL_follows_403 (by decide) (fun c107 => ?_) (fun c107 => ?_)
                            · have h := x_iff h c107
                              exact wL_follows_j448 F Z (fL_follows_b252 n) (18 * n + 10) ih r105.2 y1 y6 y7 y9 y13 r72.1 _ _ _ _ _ ⟨by omega, by omega⟩ h hI (lv_sub hl [2, 3, 4, 5, 6, 8, 1] rfl)
                            · have h := x_ift h c107
                              exact wL_follows_j406 F Z (fL_follows_b252 n) (18 * n + 10) ih r105.2 y1 y6 y7 y9 y13 r72.1 _ _ _ _ _ ⟨by omega, by omega⟩ h hI (lv_sub hl [2, 3, 4, 5, 6, 8, 1] rfl)
                  · have h := x_ift h c87
                    refine lv_aload_n hx hb dL_follows_333 rfl (lv_at hl 2 rfl) ?_
                    obtain ⟨r88, h89, h⟩ := x_bnd h
                    refine x_aci hI (x_runV (rest := []) F hI (mX6_messages l X _ r84.2  r88 h89) g_L_140 ⟨rfl, hd_X6_messages⟩ ⟨by decide, by decide⟩ ⟨rfl, rfl⟩ (x_inO (by decide)) rfl rfl rfl rfl hl.1 rfl (Nat.le_of_ble_eq_true rfl) dL_follows_334 ⟨(by show _ ≤ (251 : Nat); omega), (by show _ ≤ (1506 : Nat); omega)⟩) (fun H locs hI => ?_)
                    refine lv_if_ne (tgt := 448) hx hb dL_follows_337 (by decide) (fun c90 => ?_) (fun c90 => ?_)
                    · have h := x_iff h c90
                      exact wL_follows_j448 F Z (fL_follows_b252 n) (18 * n + 10) ih r84.2 y1 y6 y7 y9 y13 r72.1 _ _ _ _ _ ⟨by omega, by omega⟩ h hI (lv_sub hl [2, 3, 4, 5, 6, 8, 1] rfl)
                    · have h := x_ift h c90
                      refine lv_goto (tgt := 406) hx hb dL_follows_340 (by decide) ?_
                      exact wL_follows_j406 F Z (fL_follows_b252 n) (18 * n + 10) ih r84.2 y1 y6 y7 y9 y13 r72.1 _ _ _ _ _ ⟨by omega, by omega⟩ h hI (lv_sub hl [2, 3, 4, 5, 6, 8, 1] rfl)
def fL_follows_j121 (σ : x_S) (y1 : Int32) (y6 : Int32) (y7 : Int32) (y9 : Int32) (z0 : Int32) : Option (Int32 × x_S) := (Option.bind (fL_nextByRooms σ ) fun r41 => (if z0 = 0 then fL_follows_b252 13 r41.2 y1 y6 y7 y9 z0 (0 : Int32) else (if (lg_cmp r41.1 (-9000000000000000003 : Int64)) = 0 then fL_follows_b252 13 r41.2 y1 y6 y7 y9 z0 (0 : Int32) else (if 0 < (lg_cmp r41.1 (100 : Int64)) then fL_follows_b252 13 r41.2 y1 y6 y7 y9 z0 (0 : Int32) else (Option.bind (fX6_freeRooms r41.2 ) fun r46 => (Option.bind (fL_tick r41.2 (r41.1).toInt32) fun r48 => (if (lg_cmp r48.1 (0 : Int64)) < 0 then fL_follows_b252 13 r48.2 y1 y6 y7 y9 (0 : Int32) (0 : Int32) else (Option.bind (fX6_freeRooms r48.2 ) fun r51 => (if r51 ≤ r46 then fL_follows_b252 13 r48.2 y1 y6 y7 y9 (0 : Int32) (0 : Int32) else (Option.bind (fX6_time r48.2 ) fun r54 => (if (lg_cmp r54.toInt64 (y6.toInt64 + r41.1)) = 0 then (Option.bind (fL_undo r48.2 ) fun r57 => (if (lg_cmp r57.1 (0 : Int64)) = 0 then (if (lg_cmp r41.1 (1 : Int64)) = 0 then fL_follows_b252 13 r57.2 y1 y6 y7 y9 (1 : Int32) (0 : Int32) else (Option.bind (fL_tick r57.2 ((r41.1).toInt32 - (1 : Int32))) fun r61 => (if (lg_cmp r61.1 (0 : Int64)) < 0 then fL_follows_b252 13 r61.2 y1 y6 y7 y9 (0 : Int32) (0 : Int32) else (Option.bind (fX6_freeRooms r61.2 ) fun r64 => (if r64 = r46 then (Option.bind (fL_undo r61.2 ) fun r67 => (if (lg_cmp r67.1 (0 : Int64)) = 0 then fL_follows_b252 13 r67.2 y1 y6 y7 y9 (1 : Int32) (0 : Int32) else fL_follows_b252 13 r67.2 y1 y6 y7 y9 (0 : Int32) (0 : Int32))) else fL_follows_b252 13 r61.2 y1 y6 y7 y9 (0 : Int32) (0 : Int32)))))) else fL_follows_b252 13 r57.2 y1 y6 y7 y9 (0 : Int32) (0 : Int32))) else fL_follows_b252 13 r48.2 y1 y6 y7 y9 (0 : Int32) (0 : Int32))))))))))))
set_option maxHeartbeats 4000000 in
set_option maxRecDepth 100000 in
theorem wL_follows_j121 {p : Program} {l : Launch} {e : Env} {s : State} {m : MethodId} {args : Array Value} {below : List Frame} {meth : Method} {c : Code} {X : x_T} {r : (Int32 × x_S)} (F : x_F p s m args meth c cL_follows 26 RL (some .boolean)) (Z : xm_Z l s X) (σ : x_S) (y1 : Int32) (y6 : Int32) (y7 : Int32) (y9 : Int32) (z0 : Int32) (H : Heap) (locs : List Loc) (ls : Array Slot) (cells slots : Nat) (hf : cells + (249) ≤ 251 ∧ slots + 6 * (249) ≤ 1506) (h : fL_follows_j121 σ y1 y6 y7 y9 z0 = some r) (hI : x_I X σ s H locs) (hl : lv_has ls 26 [(0, .ref (X.2.2 10 32)), (1, .int y1), (6, .int y6), (7, .int y7), (9, .int y9)]) : W p l e rm_L_follows s m args below meth c H locs cells slots (MQ below (x_Qi X r.1 r.2 s.heap.size) args s 251 1506 (x_A X s.heap.size)) (F0 m 121 ls [.int z0]) := by
  have hx := F.1
  have hb := F.2.1
  have hml := F.2.2.1
  have hown := F.2.2.2.1
  have hts := F.2.2.2.2.1
  obtain ⟨hf1, hf2⟩ := hf
  unfold fL_follows_j121 at h
  refine lv_istore (lv' := [(10, .int z0), (0, .ref (X.2.2 10 32)), (1, .int y1), (6, .int y6), (7, .int y7), (9, .int y9)]) hx hb dL_follows_121 hl (by decide) rfl (fun ls hl => ?_)
  refine lv_aload_n hx hb dL_follows_123 rfl (lv_at hl 1 rfl) ?_
  obtain ⟨r41, h42, h⟩ := x_bnd h
  refine xm_acl hI (xw_run (rest := []) F Z.2 hI (mL_nextByRooms l Z.1 X _ σ  r41 h42) gw_L_215 hd_L_nextByRooms ⟨by decide, by decide⟩ ⟨rfl, rfl⟩ rfl hl.1 rfl (Nat.le_of_ble_eq_true rfl) dL_follows_124 ⟨(by show _ ≤ (251 : Nat); omega), (by show _ ≤ (1506 : Nat); omega)⟩) (fun H locs hI => ?_)
  refine lv_lstore (lv' := [(11, .long r41.1), (10, .int z0), (0, .ref (X.2.2 10 32)), (1, .int y1), (6, .int y6), (7, .int y7), (9, .int y9)]) hx hb dL_follows_127 hl (by decide) rfl (fun ls hl => ?_)
  refine lv_iload hx hb dL_follows_129 (lv_at hl 1 rfl) ?_
  refine lv_if_eq (tgt := 249) hx hb dL_follows_131 (by decide) (fun c43 => ?_) (fun c43 => ?_)
  · have h := x_ift h c43
    refine lv_iconst (v := 0) hx hb dL_follows_249 (by decide) ?_
    refine lv_istore (lv' := [(13, .int (0)), (11, .long r41.1), (10, .int z0), (0, .ref (X.2.2 10 32)), (1, .int y1), (6, .int y6), (7, .int y7), (9, .int y9)]) hx hb dL_follows_250 hl (by decide) rfl (fun ls hl => ?_)
    exact wL_follows_b252 F Z 13 r41.2 y1 y6 y7 y9 z0 (0 : Int32) _ _ _ _ _ ⟨by omega, by omega⟩ h hI (lv_sub hl [3, 4, 5, 6, 7, 2, 0] rfl)
  · have h := x_iff h c43
    refine lv_lload hx hb dL_follows_134 (lv_at hl 0 rfl) ?_
    refine lv_ldc2 (v := -9000000000000000003) hx hb hown (hts _ u_cl_L_21) dL_follows_136 ?_
    refine W.lcmp hx hb dL_follows_139 ?_
    refine lv_if_eq (tgt := 249) hx hb dL_follows_140 (by decide) (fun c44 => ?_) (fun c44 => ?_)
    · have h := x_ift h c44
      refine lv_iconst (v := 0) hx hb dL_follows_249 (by decide) ?_
      refine lv_istore (lv' := [(13, .int (0)), (11, .long r41.1), (10, .int z0), (0, .ref (X.2.2 10 32)), (1, .int y1), (6, .int y6), (7, .int y7), (9, .int y9)]) hx hb dL_follows_250 hl (by decide) rfl (fun ls hl => ?_)
      exact wL_follows_b252 F Z 13 r41.2 y1 y6 y7 y9 z0 (0 : Int32) _ _ _ _ _ ⟨by omega, by omega⟩ h hI (lv_sub hl [3, 4, 5, 6, 7, 2, 0] rfl)
    · have h := x_iff h c44
      refine lv_lload hx hb dL_follows_143 (lv_at hl 0 rfl) ?_
      refine lv_ldc2 (v := 100) hx hb hown (hts _ u_cl_L_275) dL_follows_145 ?_
      refine W.lcmp hx hb dL_follows_148 ?_
      refine lv_if_gt (tgt := 249) hx hb dL_follows_149 (by decide) (fun c45 => ?_) (fun c45 => ?_)
      · have h := x_ift h c45
        refine lv_iconst (v := 0) hx hb dL_follows_249 (by decide) ?_
        refine lv_istore (lv' := [(13, .int (0)), (11, .long r41.1), (10, .int z0), (0, .ref (X.2.2 10 32)), (1, .int y1), (6, .int y6), (7, .int y7), (9, .int y9)]) hx hb dL_follows_250 hl (by decide) rfl (fun ls hl => ?_)
        exact wL_follows_b252 F Z 13 r41.2 y1 y6 y7 y9 z0 (0 : Int32) _ _ _ _ _ ⟨by omega, by omega⟩ h hI (lv_sub hl [3, 4, 5, 6, 7, 2, 0] rfl)
      · have h := x_iff h c45
        refine lv_aload_n hx hb dL_follows_152 rfl (lv_at hl 2 rfl) ?_
        obtain ⟨r46, h47, h⟩ := x_bnd h
        refine x_aci hI (x_runV (rest := []) F hI (mX6_freeRooms l X _ r41.2  r46 h47) g_L_212 ⟨rfl, hd_X6_freeRooms⟩ ⟨by decide, by decide⟩ ⟨rfl, rfl⟩ (x_inO (by decide)) rfl rfl rfl rfl hl.1 rfl (Nat.le_of_ble_eq_true rfl) dL_follows_153 ⟨(by show _ ≤ (251 : Nat); omega), (by show _ ≤ (1506 : Nat); omega)⟩) (fun H locs hI => ?_)
        refine lv_istore (lv' := [(13, .int r46), (11, .long r41.1), (10, .int z0), (0, .ref (X.2.2 10 32)), (1, .int y1), (6, .int y6), (7, .int y7), (9, .int y9)]) hx hb dL_follows_156 hl (by decide) rfl (fun ls hl => ?_)
        refine lv_aload_n hx hb dL_follows_158 rfl (lv_at hl 3 rfl) ?_
        refine lv_lload hx hb dL_follows_159 (lv_at hl 1 rfl) ?_
        refine lv_l2i hx hb dL_follows_161 rfl ?_
        obtain ⟨r48, h49, h⟩ := x_bnd h
        refine xm_acl hI (xw_run (rest := []) F Z.2 hI (mL_tick l Z.1 X _ r41.2 (r41.1).toInt32 r48 h49) gw_L_171 hd_L_tick ⟨by decide, by decide⟩ ⟨rfl, rfl⟩ rfl hl.1 rfl (Nat.le_of_ble_eq_true rfl) dL_follows_162 ⟨(by show _ ≤ (251 : Nat); omega), (by show _ ≤ (1506 : Nat); omega)⟩) (fun H locs hI => ?_)
        refine lv_lconst (v := 0) hx hb dL_follows_165 (by decide) ?_
        refine W.lcmp hx hb dL_follows_166 ?_
        refine lv_if_lt (tgt := 246) hx hb dL_follows_167 (by decide) (fun c50 => ?_) (fun c50 => ?_)
        · have h := x_ift h c50
          refine lv_iconst (v := 0) hx hb dL_follows_246 (by decide) ?_
          refine lv_istore (lv' := [(10, .int (0)), (13, .int r46), (11, .long r41.1), (0, .ref (X.2.2 10 32)), (1, .int y1), (6, .int y6), (7, .int y7), (9, .int y9)]) hx hb dL_follows_247 hl (by decide) rfl (fun ls hl => ?_)
          refine lv_iconst (v := 0) hx hb dL_follows_249 (by decide) ?_
          refine lv_istore (lv' := [(13, .int (0)), (10, .int (0)), (11, .long r41.1), (0, .ref (X.2.2 10 32)), (1, .int y1), (6, .int y6), (7, .int y7), (9, .int y9)]) hx hb dL_follows_250 hl (by decide) rfl (fun ls hl => ?_)
          exact wL_follows_b252 F Z 13 r48.2 y1 y6 y7 y9 (0 : Int32) (0 : Int32) _ _ _ _ _ ⟨by omega, by omega⟩ h hI (lv_sub hl [3, 4, 5, 6, 7, 1, 0] rfl)
        · have h := x_iff h c50
          refine lv_aload_n hx hb dL_follows_170 rfl (lv_at hl 3 rfl) ?_
          obtain ⟨r51, h52, h⟩ := x_bnd h
          refine x_aci hI (x_runV (rest := []) F hI (mX6_freeRooms l X _ r48.2  r51 h52) g_L_212 ⟨rfl, hd_X6_freeRooms⟩ ⟨by decide, by decide⟩ ⟨rfl, rfl⟩ (x_inO (by decide)) rfl rfl rfl rfl hl.1 rfl (Nat.le_of_ble_eq_true rfl) dL_follows_171 ⟨(by show _ ≤ (251 : Nat); omega), (by show _ ≤ (1506 : Nat); omega)⟩) (fun H locs hI => ?_)
          refine lv_iload hx hb dL_follows_174 (lv_at hl 0 rfl) ?_
          refine lv_icmp_le (tgt := 246) hx hb dL_follows_176 (by decide) (fun c53 => ?_) (fun c53 => ?_)
          · have h := x_ift h c53
            refine lv_iconst (v := 0) hx hb dL_follows_246 (by decide) ?_
            refine lv_istore (lv' := [(10, .int (0)), (13, .int r46), (11, .long r41.1), (0, .ref (X.2.2 10 32)), (1, .int y1), (6, .int y6), (7, .int y7), (9, .int y9)]) hx hb dL_follows_247 hl (by decide) rfl (fun ls hl => ?_)
            refine lv_iconst (v := 0) hx hb dL_follows_249 (by decide) ?_
            refine lv_istore (lv' := [(13, .int (0)), (10, .int (0)), (11, .long r41.1), (0, .ref (X.2.2 10 32)), (1, .int y1), (6, .int y6), (7, .int y7), (9, .int y9)]) hx hb dL_follows_250 hl (by decide) rfl (fun ls hl => ?_)
            exact wL_follows_b252 F Z 13 r48.2 y1 y6 y7 y9 (0 : Int32) (0 : Int32) _ _ _ _ _ ⟨by omega, by omega⟩ h hI (lv_sub hl [3, 4, 5, 6, 7, 1, 0] rfl)
          · have h := x_iff h c53
            refine lv_aload_n hx hb dL_follows_179 rfl (lv_at hl 3 rfl) ?_
            obtain ⟨r54, h55, h⟩ := x_bnd h
            refine x_aci hI (x_runV (rest := []) F hI (mX6_time l X _ r48.2  r54 h55) g_L_267 ⟨rfl, hd_X6_time⟩ ⟨by decide, by decide⟩ ⟨rfl, rfl⟩ (x_inO (by decide)) rfl rfl rfl rfl hl.1 rfl (Nat.le_of_ble_eq_true rfl) dL_follows_180 ⟨(by show _ ≤ (251 : Nat); omega), (by show _ ≤ (1506 : Nat); omega)⟩) (fun H locs hI => ?_)
            refine lv_i2l hx hb dL_follows_183 rfl ?_
            refine lv_iload hx hb dL_follows_184 (lv_at hl 5 rfl) ?_
            refine lv_i2l hx hb dL_follows_186 rfl ?_
            refine lv_lload hx hb dL_follows_187 (lv_at hl 1 rfl) ?_
            refine lv_ladd hx hb dL_follows_189 ?_
            refine W.lcmp hx hb dL_follows_190 ?_
            refine lv_if_ne (tgt := 246) hx hb dL_follows_191 (by decide) (fun c56 => ?_) (fun c56 => ?_)
            · have h := x_iff h c56
              refine lv_iconst (v := 0) hx hb dL_follows_246 (by decide) ?_
              refine lv_istore (lv' := [(10, .int (0)), (13, .int r46), (11, .long r41.1), (0, .ref (X.2.2 10 32)), (1, .int y1), (6, .int y6), (7, .int y7), (9, .int y9)]) hx hb dL_follows_247 hl (by decide) rfl (fun ls hl => ?_)
              refine lv_iconst (v := 0) hx hb dL_follows_249 (by decide) ?_
              refine lv_istore (lv' := [(13, .int (0)), (10, .int (0)), (11, .long r41.1), (0, .ref (X.2.2 10 32)), (1, .int y1), (6, .int y6), (7, .int y7), (9, .int y9)]) hx hb dL_follows_250 hl (by decide) rfl (fun ls hl => ?_)
              exact wL_follows_b252 F Z 13 r48.2 y1 y6 y7 y9 (0 : Int32) (0 : Int32) _ _ _ _ _ ⟨by omega, by omega⟩ h hI (lv_sub hl [3, 4, 5, 6, 7, 1, 0] rfl)
            · have h := x_ift h c56
              refine lv_aload_n hx hb dL_follows_194 rfl (lv_at hl 3 rfl) ?_
              obtain ⟨r57, h58, h⟩ := x_bnd h
              refine xm_acl hI (xw_run (rest := []) F Z.2 hI (mL_undo l Z.1 X _ r48.2  r57 h58) gw_L_273 hd_L_undo ⟨by decide, by decide⟩ ⟨rfl, rfl⟩ rfl hl.1 rfl (Nat.le_of_ble_eq_true rfl) dL_follows_195 ⟨(by show _ ≤ (251 : Nat); omega), (by show _ ≤ (1506 : Nat); omega)⟩) (fun H locs hI => ?_)
              refine lv_lconst (v := 0) hx hb dL_follows_198 (by decide) ?_
              refine W.lcmp hx hb dL_follows_199 ?_
              refine lv_if_ne (tgt := 246) hx hb dL_follows_200 (by decide) (fun c59 => ?_) (fun c59 => ?_)
              · have h := x_iff h c59
                refine lv_iconst (v := 0) hx hb dL_follows_246 (by decide) ?_
                refine lv_istore (lv' := [(10, .int (0)), (13, .int r46), (11, .long r41.1), (0, .ref (X.2.2 10 32)), (1, .int y1), (6, .int y6), (7, .int y7), (9, .int y9)]) hx hb dL_follows_247 hl (by decide) rfl (fun ls hl => ?_)
                refine lv_iconst (v := 0) hx hb dL_follows_249 (by decide) ?_
                refine lv_istore (lv' := [(13, .int (0)), (10, .int (0)), (11, .long r41.1), (0, .ref (X.2.2 10 32)), (1, .int y1), (6, .int y6), (7, .int y7), (9, .int y9)]) hx hb dL_follows_250 hl (by decide) rfl (fun ls hl => ?_)
                exact wL_follows_b252 F Z 13 r57.2 y1 y6 y7 y9 (0 : Int32) (0 : Int32) _ _ _ _ _ ⟨by omega, by omega⟩ h hI (lv_sub hl [3, 4, 5, 6, 7, 1, 0] rfl)
              · have h := x_ift h c59
                refine lv_lload hx hb dL_follows_203 (lv_at hl 1 rfl) ?_
                refine lv_lconst (v := 1) hx hb dL_follows_205 (by decide) ?_
                refine W.lcmp hx hb dL_follows_206 ?_
                refine lv_if_eq (tgt := 242) hx hb dL_follows_207 (by decide) (fun c60 => ?_) (fun c60 => ?_)
                · have h := x_ift h c60
                  refine lv_iconst (v := 1) hx hb dL_follows_242 (by decide) ?_
                  refine lv_goto (tgt := 247) hx hb dL_follows_243 (by decide) ?_
                  refine lv_istore (lv' := [(10, .int (1)), (13, .int r46), (11, .long r41.1), (0, .ref (X.2.2 10 32)), (1, .int y1), (6, .int y6), (7, .int y7), (9, .int y9)]) hx hb dL_follows_247 hl (by decide) rfl (fun ls hl => ?_)
                  refine lv_iconst (v := 0) hx hb dL_follows_249 (by decide) ?_
                  refine lv_istore (lv' := [(13, .int (0)), (10, .int (1)), (11, .long r41.1), (0, .ref (X.2.2 10 32)), (1, .int y1), (6, .int y6), (7, .int y7), (9, .int y9)]) hx hb dL_follows_250 hl (by decide) rfl (fun ls hl => ?_)
                  exact wL_follows_b252 F Z 13 r57.2 y1 y6 y7 y9 (1 : Int32) (0 : Int32) _ _ _ _ _ ⟨by omega, by omega⟩ h hI (lv_sub hl [3, 4, 5, 6, 7, 1, 0] rfl)
                · have h := x_iff h c60
                  refine lv_aload_n hx hb dL_follows_210 rfl (lv_at hl 3 rfl) ?_
                  refine lv_lload hx hb dL_follows_211 (lv_at hl 1 rfl) ?_
                  refine lv_l2i hx hb dL_follows_213 rfl ?_
                  refine lv_iconst (v := 1) hx hb dL_follows_214 (by decide) ?_
                  refine lv_isub hx hb dL_follows_215 ?_
                  obtain ⟨r61, h62, h⟩ := x_bnd h
                  refine xm_acl hI (xw_run (rest := []) F Z.2 hI (mL_tick l Z.1 X _ r57.2 ((r41.1).toInt32 - (1 : Int32)) r61 h62) gw_L_171 hd_L_tick ⟨by decide, by decide⟩ ⟨rfl, rfl⟩ rfl hl.1 rfl (Nat.le_of_ble_eq_true rfl) dL_follows_216 ⟨(by show _ ≤ (251 : Nat); omega), (by show _ ≤ (1506 : Nat); omega)⟩) (fun H locs hI => ?_)
                  refine lv_lconst (v := 0) hx hb dL_follows_219 (by decide) ?_
                  refine W.lcmp hx hb dL_follows_220 ?_
                  refine lv_if_lt (tgt := 246) hx hb dL_follows_221 (by decide) (fun c63 => ?_) (fun c63 => ?_)
                  · have h := x_ift h c63
                    refine lv_iconst (v := 0) hx hb dL_follows_246 (by decide) ?_
                    refine lv_istore (lv' := [(10, .int (0)), (13, .int r46), (11, .long r41.1), (0, .ref (X.2.2 10 32)), (1, .int y1), (6, .int y6), (7, .int y7), (9, .int y9)]) hx hb dL_follows_247 hl (by decide) rfl (fun ls hl => ?_)
                    refine lv_iconst (v := 0) hx hb dL_follows_249 (by decide) ?_
                    refine lv_istore (lv' := [(13, .int (0)), (10, .int (0)), (11, .long r41.1), (0, .ref (X.2.2 10 32)), (1, .int y1), (6, .int y6), (7, .int y7), (9, .int y9)]) hx hb dL_follows_250 hl (by decide) rfl (fun ls hl => ?_)
                    exact wL_follows_b252 F Z 13 r61.2 y1 y6 y7 y9 (0 : Int32) (0 : Int32) _ _ _ _ _ ⟨by omega, by omega⟩ h hI (lv_sub hl [3, 4, 5, 6, 7, 1, 0] rfl)
                  · have h := x_iff h c63
                    refine lv_aload_n hx hb dL_follows_224 rfl (lv_at hl 3 rfl) ?_
                    obtain ⟨r64, h65, h⟩ := x_bnd h
                    refine x_aci hI (x_runV (rest := []) F hI (mX6_freeRooms l X _ r61.2  r64 h65) g_L_212 ⟨rfl, hd_X6_freeRooms⟩ ⟨by decide, by decide⟩ ⟨rfl, rfl⟩ (x_inO (by decide)) rfl rfl rfl rfl hl.1 rfl (Nat.le_of_ble_eq_true rfl) dL_follows_225 ⟨(by show _ ≤ (251 : Nat); omega), (by show _ ≤ (1506 : Nat); omega)⟩) (fun H locs hI => ?_)
                    refine lv_iload hx hb dL_follows_228 (lv_at hl 0 rfl) ?_
                    refine lv_icmp_ne (tgt := 246) hx hb dL_follows_230 (by decide) (fun c66 => ?_) (fun c66 => ?_)
                    · have h := x_iff h c66
                      refine lv_iconst (v := 0) hx hb dL_follows_246 (by decide) ?_
                      refine lv_istore (lv' := [(10, .int (0)), (13, .int r46), (11, .long r41.1), (0, .ref (X.2.2 10 32)), (1, .int y1), (6, .int y6), (7, .int y7), (9, .int y9)]) hx hb dL_follows_247 hl (by decide) rfl (fun ls hl => ?_)
                      refine lv_iconst (v := 0) hx hb dL_follows_249 (by decide) ?_
                      refine lv_istore (lv' := [(13, .int (0)), (10, .int (0)), (11, .long r41.1), (0, .ref (X.2.2 10 32)), (1, .int y1), (6, .int y6), (7, .int y7), (9, .int y9)]) hx hb dL_follows_250 hl (by decide) rfl (fun ls hl => ?_)
                      exact wL_follows_b252 F Z 13 r61.2 y1 y6 y7 y9 (0 : Int32) (0 : Int32) _ _ _ _ _ ⟨by omega, by omega⟩ h hI (lv_sub hl [3, 4, 5, 6, 7, 1, 0] rfl)
                    · have h := x_ift h c66
                      refine lv_aload_n hx hb dL_follows_233 rfl (lv_at hl 3 rfl) ?_
                      obtain ⟨r67, h68, h⟩ := x_bnd h
                      refine xm_acl hI (xw_run (rest := []) F Z.2 hI (mL_undo l Z.1 X _ r61.2  r67 h68) gw_L_273 hd_L_undo ⟨by decide, by decide⟩ ⟨rfl, rfl⟩ rfl hl.1 rfl (Nat.le_of_ble_eq_true rfl) dL_follows_234 ⟨(by show _ ≤ (251 : Nat); omega), (by show _ ≤ (1506 : Nat); omega)⟩) (fun H locs hI => ?_)
                      refine lv_lconst (v := 0) hx hb dL_follows_237 (by decide) ?_
                      refine W.lcmp hx hb dL_follows_238 ?_
                      refine lv_if_ne (tgt := 246) hx hb dL_follows_239 (by decide) (fun c69 => ?_) (fun c69 => ?_)
                      · have h := x_iff h c69
                        refine lv_iconst (v := 0) hx hb dL_follows_246 (by decide) ?_
                        refine lv_istore (lv' := [(10, .int (0)), (13, .int r46), (11, .long r41.1), (0, .ref (X.2.2 10 32)), (1, .int y1), (6, .int y6), (7, .int y7), (9, .int y9)]) hx hb dL_follows_247 hl (by decide) rfl (fun ls hl => ?_)
                        refine lv_iconst (v := 0) hx hb dL_follows_249 (by decide) ?_
                        refine lv_istore (lv' := [(13, .int (0)), (10, .int (0)), (11, .long r41.1), (0, .ref (X.2.2 10 32)), (1, .int y1), (6, .int y6), (7, .int y7), (9, .int y9)]) hx hb dL_follows_250 hl (by decide) rfl (fun ls hl => ?_)
                        exact wL_follows_b252 F Z 13 r67.2 y1 y6 y7 y9 (0 : Int32) (0 : Int32) _ _ _ _ _ ⟨by omega, by omega⟩ h hI (lv_sub hl [3, 4, 5, 6, 7, 1, 0] rfl)
                      · have h := x_ift h c69
                        refine lv_iconst (v := 1) hx hb dL_follows_242 (by decide) ?_
                        refine lv_goto (tgt := 247) hx hb dL_follows_243 (by decide) ?_
                        refine lv_istore (lv' := [(10, .int (1)), (13, .int r46), (11, .long r41.1), (0, .ref (X.2.2 10 32)), (1, .int y1), (6, .int y6), (7, .int y7), (9, .int y9)]) hx hb dL_follows_247 hl (by decide) rfl (fun ls hl => ?_)
                        refine lv_iconst (v := 0) hx hb dL_follows_249 (by decide) ?_
                        refine lv_istore (lv' := [(13, .int (0)), (10, .int (1)), (11, .long r41.1), (0, .ref (X.2.2 10 32)), (1, .int y1), (6, .int y6), (7, .int y7), (9, .int y9)]) hx hb dL_follows_250 hl (by decide) rfl (fun ls hl => ?_)
                        exact wL_follows_b252 F Z 13 r67.2 y1 y6 y7 y9 (1 : Int32) (0 : Int32) _ _ _ _ _ ⟨by omega, by omega⟩ h hI (lv_sub hl [3, 4, 5, 6, 7, 1, 0] rfl)
def fL_follows_j120 (σ : x_S) (y1 : Int32) (y6 : Int32) (y7 : Int32) (y9 : Int32) : Option (Int32 × x_S) := fL_follows_j121 σ y1 y6 y7 y9 (0 : Int32)
set_option maxHeartbeats 4000000 in
set_option maxRecDepth 100000 in
theorem wL_follows_j120 {p : Program} {l : Launch} {e : Env} {s : State} {m : MethodId} {args : Array Value} {below : List Frame} {meth : Method} {c : Code} {X : x_T} {r : (Int32 × x_S)} (F : x_F p s m args meth c cL_follows 26 RL (some .boolean)) (Z : xm_Z l s X) (σ : x_S) (y1 : Int32) (y6 : Int32) (y7 : Int32) (y9 : Int32) (H : Heap) (locs : List Loc) (ls : Array Slot) (cells slots : Nat) (hf : cells + (249) ≤ 251 ∧ slots + 6 * (249) ≤ 1506) (h : fL_follows_j120 σ y1 y6 y7 y9 = some r) (hI : x_I X σ s H locs) (hl : lv_has ls 26 [(0, .ref (X.2.2 10 32)), (1, .int y1), (6, .int y6), (7, .int y7), (9, .int y9)]) : W p l e rm_L_follows s m args below meth c H locs cells slots (MQ below (x_Qi X r.1 r.2 s.heap.size) args s 251 1506 (x_A X s.heap.size)) (F0 m 120 ls []) := by
  have hx := F.1
  have hb := F.2.1
  have hml := F.2.2.1
  have hown := F.2.2.2.1
  have hts := F.2.2.2.2.1
  obtain ⟨hf1, hf2⟩ := hf
  unfold fL_follows_j120 at h
  refine lv_iconst (v := 0) hx hb dL_follows_120 (by decide) ?_
  exact wL_follows_j121 F Z σ y1 y6 y7 y9 (0 : Int32) _ _ _ _ _ ⟨by omega, by omega⟩ h hI (lv_sub hl [0, 1, 2, 3, 4] rfl)
def fL_follows (σ : x_S) (a1 : Int32) : Option (Int32 × x_S) := (Option.bind (fX6_wouldDeliver σ ) fun r1 => x_let (r1.1).toInt64 fun x3 => (Option.bind (fX6_wouldHouse r1.2 ) fun r5 => x_let (r5.1).toInt64 fun x7 => (Option.bind (fX6_time r5.2 ) fun r9 => (Option.bind (fX6_messages r5.2 ) fun r11 => (Option.bind (fX6_delivered r5.2 ) fun r13 => (Option.bind (fX6_housed r5.2 ) fun r15 => (Option.bind (fL_keep r5.2 (1 : Int32)) fun r17 => (if (lg_cmp r17.1 (0 : Int64)) = 0 then (Option.bind (fX6_deliverAll r17.2 ) fun r20 => (if (lg_cmp (r20.1).toInt64 x3) = 0 then (Option.bind (fX6_housed r20.2 ) fun r23 => (if (lg_cmp r23.toInt64 x7) = 0 then (Option.bind (fX6_messages r20.2 ) fun r26 => (if r26 = 0 then (Option.bind (fX6_delivered r20.2 ) fun r29 => (if (lg_cmp r29.toInt64 (r13.toInt64 + x3)) = 0 then (Option.bind (fL_undo r20.2 ) fun r32 => (if (lg_cmp r32.1 (0 : Int64)) = 0 then (Option.bind (fX6_messages r32.2 ) fun r35 => (if r35 = r11 then (Option.bind (fX6_housed r32.2 ) fun r38 => (if r38 = r15 then fL_follows_j121 r32.2 a1 r9 r11 r15 (1 : Int32) else fL_follows_j120 r32.2 a1 r9 r11 r15)) else fL_follows_j120 r32.2 a1 r9 r11 r15)) else fL_follows_j120 r32.2 a1 r9 r11 r15)) else fL_follows_j120 r20.2 a1 r9 r11 r15)) else fL_follows_j120 r20.2 a1 r9 r11 r15)) else fL_follows_j120 r20.2 a1 r9 r11 r15)) else fL_follows_j120 r20.2 a1 r9 r11 r15)) else fL_follows_j120 r17.2 a1 r9 r11 r15))))))))
set_option maxHeartbeats 4000000 in
set_option maxRecDepth 100000 in
theorem mL_follows (l : Launch) (hl0 : l.stackTraces = false) (X : x_T) (sz : Nat) (σ : x_S) (a1 : Int32) (r : (Int32 × x_S)) (h : fL_follows σ a1 = some r) : Met l yL_follows (x_ws yL_follows cL_follows 26 (some .boolean)) rm_L_follows (x_PcT X σ sz [.ref (X.2.2 10 32), .int a1]) (x_Qi X r.1 r.2 sz) 251 1506 (x_A X sz) := by
  refine Met.ofW (cc := cL_follows) (maxL := 26) (ret := (some .boolean)) (by decide) rfl ?_
  intro p e s m args below meth c s₁ B hml hv
  obtain ⟨F, Z, hI, rfl, rfl⟩ := xm_begin hl0 B hml hv
  replace F : x_F p s m _ meth c cL_follows 26 RL (some .boolean) := F
  have hx := F.1
  have hb := F.2.1
  have hml := F.2.2.1
  have hown := F.2.2.2.1
  have hts := F.2.2.2.2.1
  refine x_entry (vs := [.ref (X.2.2 10 32), .int a1]) (n := 26) (Nat.le_of_ble_eq_true rfl) (fun ls hl => ?_)
  replace hl : lv_has ls 26 [(0, .ref (X.2.2 10 32)), (1, .int a1)] := hl
  unfold fL_follows at h
  refine lv_aload_n hx hb dL_follows_0 rfl (lv_at hl 0 rfl) ?_
  obtain ⟨r1, h2, h⟩ := x_bnd h
  refine x_aci hI (x_runV (rest := []) F hI (mX6_wouldDeliver l X _ σ  r1 h2) g_L_248 ⟨rfl, hd_X6_wouldDeliver⟩ ⟨by decide, by decide⟩ ⟨rfl, rfl⟩ (x_inO (by decide)) rfl rfl rfl rfl hl.1 rfl (Nat.le_of_ble_eq_true rfl) dL_follows_1 ⟨(by show _ ≤ (251 : Nat); omega), (by show _ ≤ (1506 : Nat); omega)⟩) (fun H locs hI => ?_)
  refine lv_i2l hx hb dL_follows_4 rfl ?_
  refine lv_topl (fun x3 e4 => ?_)
  have h := x_let_at h e4
  refine lv_lstore_n (lv' := [(2, .long x3), (0, .ref (X.2.2 10 32)), (1, .int a1)]) hx hb dL_follows_5 rfl hl (by decide) rfl (fun ls hl => ?_)
  refine lv_aload_n hx hb dL_follows_6 rfl (lv_at hl 1 rfl) ?_
  obtain ⟨r5, h6, h⟩ := x_bnd h
  refine x_aci hI (x_runV (rest := []) F hI (mX6_wouldHouse l X _ r1.2  r5 h6) g_L_251 ⟨rfl, hd_X6_wouldHouse⟩ ⟨by decide, by decide⟩ ⟨rfl, rfl⟩ (x_inO (by decide)) rfl rfl rfl rfl hl.1 rfl (Nat.le_of_ble_eq_true rfl) dL_follows_7 ⟨(by show _ ≤ (251 : Nat); omega), (by show _ ≤ (1506 : Nat); omega)⟩) (fun H locs hI => ?_)
  refine lv_i2l hx hb dL_follows_10 rfl ?_
  refine lv_topl (fun x7 e8 => ?_)
  have h := x_let_at h e8
  refine lv_lstore (lv' := [(4, .long x7), (2, .long x3), (0, .ref (X.2.2 10 32)), (1, .int a1)]) hx hb dL_follows_11 hl (by decide) rfl (fun ls hl => ?_)
  refine lv_aload_n hx hb dL_follows_13 rfl (lv_at hl 2 rfl) ?_
  obtain ⟨r9, h10, h⟩ := x_bnd h
  refine x_aci hI (x_runV (rest := []) F hI (mX6_time l X _ r5.2  r9 h10) g_L_267 ⟨rfl, hd_X6_time⟩ ⟨by decide, by decide⟩ ⟨rfl, rfl⟩ (x_inO (by decide)) rfl rfl rfl rfl hl.1 rfl (Nat.le_of_ble_eq_true rfl) dL_follows_14 ⟨(by show _ ≤ (251 : Nat); omega), (by show _ ≤ (1506 : Nat); omega)⟩) (fun H locs hI => ?_)
  refine lv_istore (lv' := [(6, .int r9), (4, .long x7), (2, .long x3), (0, .ref (X.2.2 10 32)), (1, .int a1)]) hx hb dL_follows_17 hl (by decide) rfl (fun ls hl => ?_)
  refine lv_aload_n hx hb dL_follows_19 rfl (lv_at hl 3 rfl) ?_
  obtain ⟨r11, h12, h⟩ := x_bnd h
  refine x_aci hI (x_runV (rest := []) F hI (mX6_messages l X _ r5.2  r11 h12) g_L_140 ⟨rfl, hd_X6_messages⟩ ⟨by decide, by decide⟩ ⟨rfl, rfl⟩ (x_inO (by decide)) rfl rfl rfl rfl hl.1 rfl (Nat.le_of_ble_eq_true rfl) dL_follows_20 ⟨(by show _ ≤ (251 : Nat); omega), (by show _ ≤ (1506 : Nat); omega)⟩) (fun H locs hI => ?_)
  refine lv_istore (lv' := [(7, .int r11), (6, .int r9), (4, .long x7), (2, .long x3), (0, .ref (X.2.2 10 32)), (1, .int a1)]) hx hb dL_follows_23 hl (by decide) rfl (fun ls hl => ?_)
  refine lv_aload_n hx hb dL_follows_25 rfl (lv_at hl 4 rfl) ?_
  obtain ⟨r13, h14, h⟩ := x_bnd h
  refine x_aci hI (x_runV (rest := []) F hI (mX6_delivered l X _ r5.2  r13 h14) g_L_261 ⟨rfl, hd_X6_delivered⟩ ⟨by decide, by decide⟩ ⟨rfl, rfl⟩ (x_inO (by decide)) rfl rfl rfl rfl hl.1 rfl (Nat.le_of_ble_eq_true rfl) dL_follows_26 ⟨(by show _ ≤ (251 : Nat); omega), (by show _ ≤ (1506 : Nat); omega)⟩) (fun H locs hI => ?_)
  refine lv_istore (lv' := [(8, .int r13), (7, .int r11), (6, .int r9), (4, .long x7), (2, .long x3), (0, .ref (X.2.2 10 32)), (1, .int a1)]) hx hb dL_follows_29 hl (by decide) rfl (fun ls hl => ?_)
  refine lv_aload_n hx hb dL_follows_31 rfl (lv_at hl 5 rfl) ?_
  obtain ⟨r15, h16, h⟩ := x_bnd h
  refine x_aci hI (x_runV (rest := []) F hI (mX6_housed l X _ r5.2  r15 h16) g_L_243 ⟨rfl, hd_X6_housed⟩ ⟨by decide, by decide⟩ ⟨rfl, rfl⟩ (x_inO (by decide)) rfl rfl rfl rfl hl.1 rfl (Nat.le_of_ble_eq_true rfl) dL_follows_32 ⟨(by show _ ≤ (251 : Nat); omega), (by show _ ≤ (1506 : Nat); omega)⟩) (fun H locs hI => ?_)
  refine lv_istore (lv' := [(9, .int r15), (8, .int r13), (7, .int r11), (6, .int r9), (4, .long x7), (2, .long x3), (0, .ref (X.2.2 10 32)), (1, .int a1)]) hx hb dL_follows_35 hl (by decide) rfl (fun ls hl => ?_)
  refine lv_aload_n hx hb dL_follows_37 rfl (lv_at hl 6 rfl) ?_
  refine lv_iconst (v := 1) hx hb dL_follows_38 (by decide) ?_
  obtain ⟨r17, h18, h⟩ := x_bnd h
  refine xm_acl hI (xw_run (rest := []) F Z.2 hI (mL_keep l Z.1 X _ r5.2 (1 : Int32) r17 h18) gw_L_175 hd_L_keep ⟨by decide, by decide⟩ ⟨rfl, rfl⟩ rfl hl.1 rfl (Nat.le_of_ble_eq_true rfl) dL_follows_39 ⟨(by show _ ≤ (251 : Nat); omega), (by show _ ≤ (1506 : Nat); omega)⟩) (fun H locs hI => ?_)
  refine lv_lconst (v := 0) hx hb dL_follows_42 (by decide) ?_
  refine W.lcmp hx hb dL_follows_43 ?_
  refine lv_if_ne (tgt := 120) hx hb dL_follows_44 (by decide) (fun c19 => ?_) (fun c19 => ?_)
  · have h := x_iff h c19
    exact wL_follows_j120 F Z r17.2 a1 r9 r11 r15 _ _ _ _ _ ⟨by omega, by omega⟩ h hI (lv_sub hl [6, 7, 3, 2, 0] rfl)
  · have h := x_ift h c19
    refine lv_aload_n hx hb dL_follows_47 rfl (lv_at hl 6 rfl) ?_
    obtain ⟨r20, h21, h⟩ := x_bnd h
    refine x_aci hI (x_runV (rest := []) F hI (mX6_deliverAll l X _ r17.2  r20 h21) g_L_270 ⟨rfl, hd_X6_deliverAll⟩ ⟨by decide, by decide⟩ ⟨rfl, rfl⟩ (x_inO (by decide)) rfl rfl rfl rfl hl.1 rfl (Nat.le_of_ble_eq_true rfl) dL_follows_48 ⟨(by show _ ≤ (251 : Nat); omega), (by show _ ≤ (1506 : Nat); omega)⟩) (fun H locs hI => ?_)
    refine lv_i2l hx hb dL_follows_51 rfl ?_
    refine lv_lload_n hx hb dL_follows_52 rfl (lv_at hl 5 rfl) ?_
    refine W.lcmp hx hb dL_follows_53 ?_
    refine lv_if_ne (tgt := 120) hx hb dL_follows_54 (by decide) (fun c22 => ?_) (fun c22 => ?_)
    · have h := x_iff h c22
      exact wL_follows_j120 F Z r20.2 a1 r9 r11 r15 _ _ _ _ _ ⟨by omega, by omega⟩ h hI (lv_sub hl [6, 7, 3, 2, 0] rfl)
    · have h := x_ift h c22
      refine lv_aload_n hx hb dL_follows_57 rfl (lv_at hl 6 rfl) ?_
      obtain ⟨r23, h24, h⟩ := x_bnd h
      refine x_aci hI (x_runV (rest := []) F hI (mX6_housed l X _ r20.2  r23 h24) g_L_243 ⟨rfl, hd_X6_housed⟩ ⟨by decide, by decide⟩ ⟨rfl, rfl⟩ (x_inO (by decide)) rfl rfl rfl rfl hl.1 rfl (Nat.le_of_ble_eq_true rfl) dL_follows_58 ⟨(by show _ ≤ (251 : Nat); omega), (by show _ ≤ (1506 : Nat); omega)⟩) (fun H locs hI => ?_)
      refine lv_i2l hx hb dL_follows_61 rfl ?_
      refine lv_lload hx hb dL_follows_62 (lv_at hl 4 rfl) ?_
      refine W.lcmp hx hb dL_follows_64 ?_
      refine lv_if_ne (tgt := 120) hx hb dL_follows_65 (by decide) (fun c25 => ?_) (fun c25 => ?_)
      · have h := x_iff h c25
        exact wL_follows_j120 F Z r20.2 a1 r9 r11 r15 _ _ _ _ _ ⟨by omega, by omega⟩ h hI (lv_sub hl [6, 7, 3, 2, 0] rfl)
      · have h := x_ift h c25
        refine lv_aload_n hx hb dL_follows_68 rfl (lv_at hl 6 rfl) ?_
        obtain ⟨r26, h27, h⟩ := x_bnd h
        refine x_aci hI (x_runV (rest := []) F hI (mX6_messages l X _ r20.2  r26 h27) g_L_140 ⟨rfl, hd_X6_messages⟩ ⟨by decide, by decide⟩ ⟨rfl, rfl⟩ (x_inO (by decide)) rfl rfl rfl rfl hl.1 rfl (Nat.le_of_ble_eq_true rfl) dL_follows_69 ⟨(by show _ ≤ (251 : Nat); omega), (by show _ ≤ (1506 : Nat); omega)⟩) (fun H locs hI => ?_)
        refine lv_if_ne (tgt := 120) hx hb dL_follows_72 (by decide) (fun c28 => ?_) (fun c28 => ?_)
        · have h := x_iff h c28
          exact wL_follows_j120 F Z r20.2 a1 r9 r11 r15 _ _ _ _ _ ⟨by omega, by omega⟩ h hI (lv_sub hl [6, 7, 3, 2, 0] rfl)
        · have h := x_ift h c28
          refine lv_aload_n hx hb dL_follows_75 rfl (lv_at hl 6 rfl) ?_
          obtain ⟨r29, h30, h⟩ := x_bnd h
          refine x_aci hI (x_runV (rest := []) F hI (mX6_delivered l X _ r20.2  r29 h30) g_L_261 ⟨rfl, hd_X6_delivered⟩ ⟨by decide, by decide⟩ ⟨rfl, rfl⟩ (x_inO (by decide)) rfl rfl rfl rfl hl.1 rfl (Nat.le_of_ble_eq_true rfl) dL_follows_76 ⟨(by show _ ≤ (251 : Nat); omega), (by show _ ≤ (1506 : Nat); omega)⟩) (fun H locs hI => ?_)
          refine lv_i2l hx hb dL_follows_79 rfl ?_
          refine lv_iload hx hb dL_follows_80 (lv_at hl 1 rfl) ?_
          refine lv_i2l hx hb dL_follows_82 rfl ?_
          refine lv_lload_n hx hb dL_follows_83 rfl (lv_at hl 5 rfl) ?_
          refine lv_ladd hx hb dL_follows_84 ?_
          refine W.lcmp hx hb dL_follows_85 ?_
          refine lv_if_ne (tgt := 120) hx hb dL_follows_86 (by decide) (fun c31 => ?_) (fun c31 => ?_)
          · have h := x_iff h c31
            exact wL_follows_j120 F Z r20.2 a1 r9 r11 r15 _ _ _ _ _ ⟨by omega, by omega⟩ h hI (lv_sub hl [6, 7, 3, 2, 0] rfl)
          · have h := x_ift h c31
            refine lv_aload_n hx hb dL_follows_89 rfl (lv_at hl 6 rfl) ?_
            obtain ⟨r32, h33, h⟩ := x_bnd h
            refine xm_acl hI (xw_run (rest := []) F Z.2 hI (mL_undo l Z.1 X _ r20.2  r32 h33) gw_L_273 hd_L_undo ⟨by decide, by decide⟩ ⟨rfl, rfl⟩ rfl hl.1 rfl (Nat.le_of_ble_eq_true rfl) dL_follows_90 ⟨(by show _ ≤ (251 : Nat); omega), (by show _ ≤ (1506 : Nat); omega)⟩) (fun H locs hI => ?_)
            refine lv_lconst (v := 0) hx hb dL_follows_93 (by decide) ?_
            refine W.lcmp hx hb dL_follows_94 ?_
            refine lv_if_ne (tgt := 120) hx hb dL_follows_95 (by decide) (fun c34 => ?_) (fun c34 => ?_)
            · have h := x_iff h c34
              exact wL_follows_j120 F Z r32.2 a1 r9 r11 r15 _ _ _ _ _ ⟨by omega, by omega⟩ h hI (lv_sub hl [6, 7, 3, 2, 0] rfl)
            · have h := x_ift h c34
              refine lv_aload_n hx hb dL_follows_98 rfl (lv_at hl 6 rfl) ?_
              obtain ⟨r35, h36, h⟩ := x_bnd h
              refine x_aci hI (x_runV (rest := []) F hI (mX6_messages l X _ r32.2  r35 h36) g_L_140 ⟨rfl, hd_X6_messages⟩ ⟨by decide, by decide⟩ ⟨rfl, rfl⟩ (x_inO (by decide)) rfl rfl rfl rfl hl.1 rfl (Nat.le_of_ble_eq_true rfl) dL_follows_99 ⟨(by show _ ≤ (251 : Nat); omega), (by show _ ≤ (1506 : Nat); omega)⟩) (fun H locs hI => ?_)
              refine lv_iload hx hb dL_follows_102 (lv_at hl 2 rfl) ?_
              refine lv_icmp_ne (tgt := 120) hx hb dL_follows_104 (by decide) (fun c37 => ?_) (fun c37 => ?_)
              · have h := x_iff h c37
                exact wL_follows_j120 F Z r32.2 a1 r9 r11 r15 _ _ _ _ _ ⟨by omega, by omega⟩ h hI (lv_sub hl [6, 7, 3, 2, 0] rfl)
              · have h := x_ift h c37
                refine lv_aload_n hx hb dL_follows_107 rfl (lv_at hl 6 rfl) ?_
                obtain ⟨r38, h39, h⟩ := x_bnd h
                refine x_aci hI (x_runV (rest := []) F hI (mX6_housed l X _ r32.2  r38 h39) g_L_243 ⟨rfl, hd_X6_housed⟩ ⟨by decide, by decide⟩ ⟨rfl, rfl⟩ (x_inO (by decide)) rfl rfl rfl rfl hl.1 rfl (Nat.le_of_ble_eq_true rfl) dL_follows_108 ⟨(by show _ ≤ (251 : Nat); omega), (by show _ ≤ (1506 : Nat); omega)⟩) (fun H locs hI => ?_)
                refine lv_iload hx hb dL_follows_111 (lv_at hl 0 rfl) ?_
                refine lv_icmp_ne (tgt := 120) hx hb dL_follows_113 (by decide) (fun c40 => ?_) (fun c40 => ?_)
                · have h := x_iff h c40
                  exact wL_follows_j120 F Z r32.2 a1 r9 r11 r15 _ _ _ _ _ ⟨by omega, by omega⟩ h hI (lv_sub hl [6, 7, 3, 2, 0] rfl)
                · have h := x_ift h c40
                  refine lv_iconst (v := 1) hx hb dL_follows_116 (by decide) ?_
                  refine lv_goto (tgt := 121) hx hb dL_follows_117 (by decide) ?_
                  exact wL_follows_j121 F Z r32.2 a1 r9 r11 r15 (1 : Int32) _ _ _ _ _ ⟨by omega, by omega⟩ h hI (lv_sub hl [6, 7, 3, 2, 0] rfl)
