abbrev rm_L_errors : Room := { frames := 9, cells := 238, slots := 1428, locals := 161 }
def fL_errors_j725 (k656 : x_S → Int64 → Int32 → Int32 → Option (Int32 × x_S)) (σ : x_S) (y1 : Int64) (y5 : Int32) : Option (Int32 × x_S) := (Option.bind (fL_reservedFor σ y5) fun r190 => (if (lg_cmp r190.1 (-9000000000000000003 : Int64)) = 0 then x_let (y5 + (1 : Int32)) fun x193 => k656 r190.2 y1 (1 : Int32) x193 else (Option.bind (fL_reserve r190.2 (0 : Int32) y5) fun r195 => (if (lg_cmp r195.1 (-9000000000000000003 : Int64)) = 0 then x_let (y5 + (1 : Int32)) fun x198 => k656 r195.2 y1 (1 : Int32) x198 else x_let (y5 + (1 : Int32)) fun x200 => k656 r195.2 y1 (0 : Int32) x200))))
set_option maxHeartbeats 4000000 in
set_option maxRecDepth 100000 in
theorem wL_errors_j725 {p : Program} {l : Launch} {e : Env} {s : State} {m : MethodId} {args : Array Value} {below : List Frame} {meth : Method} {c : Code} {X : x_T} {r : (Int32 × x_S)} (F : x_F p s m args meth c cL_errors 8 RL (some .boolean)) (Z : xm_Z l s X) (k656 : x_S → Int64 → Int32 → Int32 → Option (Int32 × x_S)) (c656 : Nat) (hk656 : ∀ (σ : x_S) (y1 : Int64) (y4 : Int32) (y5 : Int32) (H : Heap) (locs : List Loc) (ls : Array Slot) (cells slots : Nat), cells + c656 ≤ 238 ∧ slots + 6 * c656 ≤ 1428 → k656 σ y1 y4 y5 = some r → x_I X σ s H locs → lv_has ls 8 [(0, .ref (X.2.2 10 32)), (1, .long y1), (4, .int y4), (5, .int y5)] → W p l e rm_L_errors s m args below meth c H locs cells slots (MQ below (x_Qi X r.1 r.2 s.heap.size) args s 238 1428 (x_A X s.heap.size)) (F0 m 656 ls [])) (σ : x_S) (y1 : Int64) (y5 : Int32) (H : Heap) (locs : List Loc) (ls : Array Slot) (cells slots : Nat) (hf : cells + (2 + c656) ≤ 238 ∧ slots + 6 * (2 + c656) ≤ 1428) (h : fL_errors_j725 k656 σ y1 y5 = some r) (hI : x_I X σ s H locs) (hl : lv_has ls 8 [(0, .ref (X.2.2 10 32)), (1, .long y1), (5, .int y5)]) : W p l e rm_L_errors s m args below meth c H locs cells slots (MQ below (x_Qi X r.1 r.2 s.heap.size) args s 238 1428 (x_A X s.heap.size)) (F0 m 725 ls []) := by
  have hx := F.1
  have hb := F.2.1
  have hml := F.2.2.1
  have hown := F.2.2.2.1
  have hts := F.2.2.2.2.1
  obtain ⟨hf1, hf2⟩ := hf
  unfold fL_errors_j725 at h
  refine lv_aload_n hx hb dL_errors_725 rfl (lv_at hl 0 rfl) ?_
  refine lv_iload hx hb dL_errors_726 (lv_at hl 2 rfl) ?_
  obtain ⟨r190, h191, h⟩ := x_bnd h
  refine xm_acl hI (xw_run (rest := []) F Z.2 hI (mL_reservedFor l Z.1 X _ σ y5 r190 h191) gw_L_198 hd_L_reservedFor ⟨by decide, by decide⟩ ⟨rfl, rfl⟩ rfl hl.1 rfl (Nat.le_of_ble_eq_true rfl) dL_errors_728 ⟨(by show _ ≤ (238 : Nat); omega), (by show _ ≤ (1428 : Nat); omega)⟩) (fun H locs hI => ?_)
  refine lv_ldc2 (v := -9000000000000000003) hx hb hown (hts _ u_cl_L_21) dL_errors_731 ?_
  refine W.lcmp hx hb dL_errors_734 ?_
  refine lv_if_eq (tgt := 752) hx hb dL_errors_735 (by decide) (fun c192 => ?_) (fun c192 => ?_)
  · have h := x_ift h c192
    refine lv_iconst (v := 1) hx hb dL_errors_752 (by decide) ?_
    refine lv_goto (tgt := 757) hx hb dL_errors_753 (by decide) ?_
    refine lv_istore (lv' := [(4, .int (1)), (0, .ref (X.2.2 10 32)), (1, .long y1), (5, .int y5)]) hx hb dL_errors_757 hl (by decide) rfl (fun ls hl => ?_)
    obtain ⟨x193, e194⟩ : ∃ z : Int32, z = (y5 + (1 : Int32)) := ⟨_, rfl⟩
    have h := x_let_at h e194
    refine lv_iinc (v := x193) (lv' := [(5, .int x193), (4, .int (1)), (0, .ref (X.2.2 10 32)), (1, .long y1)]) hx hb dL_errors_759 hl (k := 3) rfl (by rw [e194]; rfl) (by decide) rfl (fun ls hl => ?_)
    refine lv_goto (tgt := 656) hx hb dL_errors_762 (by decide) ?_
    exact hk656 r190.2 y1 (1 : Int32) x193 _ _ _ _ _ ⟨by omega, by omega⟩ h hI (lv_sub hl [2, 3, 1, 0] rfl)
  · have h := x_iff h c192
    refine lv_aload_n hx hb dL_errors_738 rfl (lv_at hl 0 rfl) ?_
    refine lv_iconst (v := 0) hx hb dL_errors_739 (by decide) ?_
    refine lv_iload hx hb dL_errors_740 (lv_at hl 2 rfl) ?_
    obtain ⟨r195, h196, h⟩ := x_bnd h
    refine xm_acl hI (xw_run (rest := []) F Z.2 hI (mL_reserve l Z.1 X _ r190.2 (0 : Int32) y5 r195 h196) gw_L_154 hd_L_reserve ⟨by decide, by decide⟩ ⟨rfl, rfl⟩ rfl hl.1 rfl (Nat.le_of_ble_eq_true rfl) dL_errors_742 ⟨(by show _ ≤ (238 : Nat); omega), (by show _ ≤ (1428 : Nat); omega)⟩) (fun H locs hI => ?_)
    refine lv_ldc2 (v := -9000000000000000003) hx hb hown (hts _ u_cl_L_21) dL_errors_745 ?_
    refine W.lcmp hx hb dL_errors_748 ?_
    refine lv_if_ne (tgt := 756) hx hb dL_errors_749 (by decide) (fun c197 => ?_) (fun c197 => ?_)
    · have h := x_iff h c197
      refine lv_iconst (v := 0) hx hb dL_errors_756 (by decide) ?_
      refine lv_istore (lv' := [(4, .int (0)), (0, .ref (X.2.2 10 32)), (1, .long y1), (5, .int y5)]) hx hb dL_errors_757 hl (by decide) rfl (fun ls hl => ?_)
      obtain ⟨x200, e201⟩ : ∃ z : Int32, z = (y5 + (1 : Int32)) := ⟨_, rfl⟩
      have h := x_let_at h e201
      refine lv_iinc (v := x200) (lv' := [(5, .int x200), (4, .int (0)), (0, .ref (X.2.2 10 32)), (1, .long y1)]) hx hb dL_errors_759 hl (k := 3) rfl (by rw [e201]; rfl) (by decide) rfl (fun ls hl => ?_)
      refine lv_goto (tgt := 656) hx hb dL_errors_762 (by decide) ?_
      exact hk656 r195.2 y1 (0 : Int32) x200 _ _ _ _ _ ⟨by omega, by omega⟩ h hI (lv_sub hl [2, 3, 1, 0] rfl)
    · have h := x_ift h c197
      refine lv_iconst (v := 1) hx hb dL_errors_752 (by decide) ?_
      refine lv_goto (tgt := 757) hx hb dL_errors_753 (by decide) ?_
      refine lv_istore (lv' := [(4, .int (1)), (0, .ref (X.2.2 10 32)), (1, .long y1), (5, .int y5)]) hx hb dL_errors_757 hl (by decide) rfl (fun ls hl => ?_)
      obtain ⟨x198, e199⟩ : ∃ z : Int32, z = (y5 + (1 : Int32)) := ⟨_, rfl⟩
      have h := x_let_at h e199
      refine lv_iinc (v := x198) (lv' := [(5, .int x198), (4, .int (1)), (0, .ref (X.2.2 10 32)), (1, .long y1)]) hx hb dL_errors_759 hl (k := 3) rfl (by rw [e199]; rfl) (by decide) rfl (fun ls hl => ?_)
      refine lv_goto (tgt := 656) hx hb dL_errors_762 (by decide) ?_
      exact hk656 r195.2 y1 (1 : Int32) x198 _ _ _ _ _ ⟨by omega, by omega⟩ h hI (lv_sub hl [2, 3, 1, 0] rfl)
def fL_errors_j696 (k656 : x_S → Int64 → Int32 → Int32 → Option (Int32 × x_S)) (σ : x_S) (y1 : Int64) (y5 : Int32) (y6 : Int64) : Option (Int32 × x_S) := (if (lg_cmp y6 (1 : Int64)) = 0 then fL_errors_j725 k656 σ y1 y5 else (if (lg_cmp y6 (2 : Int64)) = 0 then fL_errors_j725 k656 σ y1 y5 else (Option.bind (fL_guestOf σ y5) fun r185 => (if (lg_cmp r185.1 (-9000000000000000003 : Int64)) = 0 then fL_errors_j725 k656 r185.2 y1 y5 else x_let (y5 + (1 : Int32)) fun x188 => k656 r185.2 y1 (0 : Int32) x188))))
set_option maxHeartbeats 4000000 in
set_option maxRecDepth 100000 in
theorem wL_errors_j696 {p : Program} {l : Launch} {e : Env} {s : State} {m : MethodId} {args : Array Value} {below : List Frame} {meth : Method} {c : Code} {X : x_T} {r : (Int32 × x_S)} (F : x_F p s m args meth c cL_errors 8 RL (some .boolean)) (Z : xm_Z l s X) (k656 : x_S → Int64 → Int32 → Int32 → Option (Int32 × x_S)) (c656 : Nat) (hk656 : ∀ (σ : x_S) (y1 : Int64) (y4 : Int32) (y5 : Int32) (H : Heap) (locs : List Loc) (ls : Array Slot) (cells slots : Nat), cells + c656 ≤ 238 ∧ slots + 6 * c656 ≤ 1428 → k656 σ y1 y4 y5 = some r → x_I X σ s H locs → lv_has ls 8 [(0, .ref (X.2.2 10 32)), (1, .long y1), (4, .int y4), (5, .int y5)] → W p l e rm_L_errors s m args below meth c H locs cells slots (MQ below (x_Qi X r.1 r.2 s.heap.size) args s 238 1428 (x_A X s.heap.size)) (F0 m 656 ls [])) (σ : x_S) (y1 : Int64) (y5 : Int32) (y6 : Int64) (H : Heap) (locs : List Loc) (ls : Array Slot) (cells slots : Nat) (hf : cells + (3 + c656) ≤ 238 ∧ slots + 6 * (3 + c656) ≤ 1428) (h : fL_errors_j696 k656 σ y1 y5 y6 = some r) (hI : x_I X σ s H locs) (hl : lv_has ls 8 [(0, .ref (X.2.2 10 32)), (1, .long y1), (5, .int y5), (6, .long y6)]) : W p l e rm_L_errors s m args below meth c H locs cells slots (MQ below (x_Qi X r.1 r.2 s.heap.size) args s 238 1428 (x_A X s.heap.size)) (F0 m 696 ls []) := by
  have hx := F.1
  have hb := F.2.1
  have hml := F.2.2.1
  have hown := F.2.2.2.1
  have hts := F.2.2.2.2.1
  obtain ⟨hf1, hf2⟩ := hf
  unfold fL_errors_j696 at h
  refine lv_lload hx hb dL_errors_696 (lv_at hl 3 rfl) ?_
  refine lv_lconst (v := 1) hx hb dL_errors_698 (by decide) ?_
  refine W.lcmp hx hb dL_errors_699 ?_
  refine lv_if_eq (tgt := 725) hx hb dL_errors_700 (by decide) (fun c183 => ?_) (fun c183 => ?_)
  · have h := x_ift h c183
    exact wL_errors_j725 F Z k656 c656 hk656 σ y1 y5 _ _ _ _ _ ⟨by omega, by omega⟩ h hI (lv_sub hl [0, 1, 2] rfl)
  · have h := x_iff h c183
    refine lv_lload hx hb dL_errors_703 (lv_at hl 3 rfl) ?_
    refine lv_ldc2 (v := 2) hx hb hown (hts _ u_cl_L_224) dL_errors_705 ?_
    refine W.lcmp hx hb dL_errors_708 ?_
    refine lv_if_eq (tgt := 725) hx hb dL_errors_709 (by decide) (fun c184 => ?_) (fun c184 => ?_)
    · have h := x_ift h c184
      exact wL_errors_j725 F Z k656 c656 hk656 σ y1 y5 _ _ _ _ _ ⟨by omega, by omega⟩ h hI (lv_sub hl [0, 1, 2] rfl)
    · have h := x_iff h c184
      refine lv_aload_n hx hb dL_errors_712 rfl (lv_at hl 0 rfl) ?_
      refine lv_iload hx hb dL_errors_713 (lv_at hl 2 rfl) ?_
      obtain ⟨r185, h186, h⟩ := x_bnd h
      refine xm_acl hI (xw_run (rest := []) F Z.2 hI (mL_guestOf l Z.1 X _ σ y5 r185 h186) gw_L_194 hd_L_guestOf ⟨by decide, by decide⟩ ⟨rfl, rfl⟩ rfl hl.1 rfl (Nat.le_of_ble_eq_true rfl) dL_errors_715 ⟨(by show _ ≤ (238 : Nat); omega), (by show _ ≤ (1428 : Nat); omega)⟩) (fun H locs hI => ?_)
      refine lv_ldc2 (v := -9000000000000000003) hx hb hown (hts _ u_cl_L_21) dL_errors_718 ?_
      refine W.lcmp hx hb dL_errors_721 ?_
      refine lv_if_ne (tgt := 756) hx hb dL_errors_722 (by decide) (fun c187 => ?_) (fun c187 => ?_)
      · have h := x_iff h c187
        refine lv_iconst (v := 0) hx hb dL_errors_756 (by decide) ?_
        refine lv_istore (lv' := [(4, .int (0)), (0, .ref (X.2.2 10 32)), (1, .long y1), (5, .int y5), (6, .long y6)]) hx hb dL_errors_757 hl (by decide) rfl (fun ls hl => ?_)
        obtain ⟨x188, e189⟩ : ∃ z : Int32, z = (y5 + (1 : Int32)) := ⟨_, rfl⟩
        have h := x_let_at h e189
        refine lv_iinc (v := x188) (lv' := [(5, .int x188), (4, .int (0)), (0, .ref (X.2.2 10 32)), (1, .long y1), (6, .long y6)]) hx hb dL_errors_759 hl (k := 3) rfl (by rw [e189]; rfl) (by decide) rfl (fun ls hl => ?_)
        refine lv_goto (tgt := 656) hx hb dL_errors_762 (by decide) ?_
        exact hk656 r185.2 y1 (0 : Int32) x188 _ _ _ _ _ ⟨by omega, by omega⟩ h hI (lv_sub hl [2, 3, 1, 0] rfl)
      · have h := x_ift h c187
        exact wL_errors_j725 F Z k656 c656 hk656 r185.2 y1 y5 _ _ _ _ _ ⟨by omega, by omega⟩ h hI (lv_sub hl [0, 1, 2] rfl)
def fL_errors_j765 (σ : x_S) (y1 : Int64) (y4 : Int32) : Option (Int32 × x_S) := (if y4 = 0 then some ((0 : Int32), σ) else (Option.bind (fX6_digest σ ) fun r180 => (if (lg_cmp r180.1 y1) = 0 then some ((1 : Int32), r180.2) else some ((0 : Int32), r180.2))))
set_option maxHeartbeats 4000000 in
set_option maxRecDepth 100000 in
theorem wL_errors_j765 {p : Program} {l : Launch} {e : Env} {s : State} {m : MethodId} {args : Array Value} {below : List Frame} {meth : Method} {c : Code} {X : x_T} {r : (Int32 × x_S)} (F : x_F p s m args meth c cL_errors 8 RL (some .boolean)) (Z : xm_Z l s X) (σ : x_S) (y1 : Int64) (y4 : Int32) (H : Heap) (locs : List Loc) (ls : Array Slot) (cells slots : Nat) (hf : cells + (0) ≤ 238 ∧ slots + 6 * (0) ≤ 1428) (h : fL_errors_j765 σ y1 y4 = some r) (hI : x_I X σ s H locs) (hl : lv_has ls 8 [(0, .ref (X.2.2 10 32)), (1, .long y1), (4, .int y4)]) : W p l e rm_L_errors s m args below meth c H locs cells slots (MQ below (x_Qi X r.1 r.2 s.heap.size) args s 238 1428 (x_A X s.heap.size)) (F0 m 765 ls []) := by
  have hx := F.1
  have hb := F.2.1
  have hml := F.2.2.1
  have hown := F.2.2.2.1
  have hts := F.2.2.2.2.1
  obtain ⟨hf1, hf2⟩ := hf
  unfold fL_errors_j765 at h
  refine lv_iload hx hb dL_errors_765 (lv_at hl 2 rfl) ?_
  refine lv_if_eq (tgt := 783) hx hb dL_errors_767 (by decide) (fun c179 => ?_) (fun c179 => ?_)
  · have h := x_ift h c179
    refine lv_iconst (v := 0) hx hb dL_errors_783 (by decide) ?_
    rw [x_some h]
    exact W.widen (by omega) (by omega) (x_zret (v := 0) F hI (by decide) dL_errors_784)
  · have h := x_iff h c179
    refine lv_aload_n hx hb dL_errors_770 rfl (lv_at hl 0 rfl) ?_
    obtain ⟨r180, h181, h⟩ := x_bnd h
    refine x_acl hI (x_runV (rest := []) F hI (mX6_digest l X _ σ  r180 h181) g_L_136 ⟨rfl, hd_X6_digest⟩ ⟨by decide, by decide⟩ ⟨rfl, rfl⟩ (x_inO (by decide)) rfl rfl rfl rfl hl.1 rfl (Nat.le_of_ble_eq_true rfl) dL_errors_771 ⟨(by show _ ≤ (238 : Nat); omega), (by show _ ≤ (1428 : Nat); omega)⟩) (fun H locs hI => ?_)
    refine lv_lload_n hx hb dL_errors_774 rfl (lv_at hl 1 rfl) ?_
    refine W.lcmp hx hb dL_errors_775 ?_
    refine lv_if_ne (tgt := 783) hx hb dL_errors_776 (by decide) (fun c182 => ?_) (fun c182 => ?_)
    · have h := x_iff h c182
      refine lv_iconst (v := 0) hx hb dL_errors_783 (by decide) ?_
      rw [x_some h]
      exact W.widen (by omega) (by omega) (x_zret (v := 0) F hI (by decide) dL_errors_784)
    · have h := x_ift h c182
      refine lv_iconst (v := 1) hx hb dL_errors_779 (by decide) ?_
      refine lv_goto (tgt := 784) hx hb dL_errors_780 (by decide) ?_
      rw [x_some h]
      exact W.widen (by omega) (by omega) (x_zret (v := 1) F hI (by decide) dL_errors_784)
def fL_errors_b656 : Nat → x_S → Int64 → Int32 → Int32 → Option (Int32 × x_S)
  | 0, _, _, _, _ => none
  | n + 1, σ, y1, y4, y5 => (if (16 : Int32) ≤ y5 then fL_errors_j765 σ y1 y4 else (if y4 = 0 then fL_errors_j765 σ y1 y4 else (Option.bind (fL_stateOf σ y5) fun r171 => (if (lg_cmp r171.1 (0 : Int64)) = 0 then (Option.bind (fL_ticksOf r171.2 y5) fun r174 => (if (lg_cmp r174.1 (-9000000000000000003 : Int64)) = 0 then fL_errors_j696 (fL_errors_b656 n) r174.2 y1 y5 r171.1 else x_let (y5 + (1 : Int32)) fun x177 => (fL_errors_b656 n) r174.2 y1 (0 : Int32) x177)) else fL_errors_j696 (fL_errors_b656 n) r171.2 y1 y5 r171.1))))
set_option maxHeartbeats 4000000 in
set_option maxRecDepth 100000 in
theorem wL_errors_b656 {p : Program} {l : Launch} {e : Env} {s : State} {m : MethodId} {args : Array Value} {below : List Frame} {meth : Method} {c : Code} {X : x_T} {r : (Int32 × x_S)} (F : x_F p s m args meth c cL_errors 8 RL (some .boolean)) (Z : xm_Z l s X) : ∀ (n : Nat) (σ : x_S) (y1 : Int64) (y4 : Int32) (y5 : Int32) (H : Heap) (locs : List Loc) (ls : Array Slot) (cells slots : Nat), cells + (5 * n + 0) ≤ 238 ∧ slots + 6 * (5 * n + 0) ≤ 1428 → fL_errors_b656 n σ y1 y4 y5 = some r → x_I X σ s H locs → lv_has ls 8 [(0, .ref (X.2.2 10 32)), (1, .long y1), (4, .int y4), (5, .int y5)] → W p l e rm_L_errors s m args below meth c H locs cells slots (MQ below (x_Qi X r.1 r.2 s.heap.size) args s 238 1428 (x_A X s.heap.size)) (F0 m 656 ls []) := by
  have hx := F.1
  have hb := F.2.1
  have hml := F.2.2.1
  have hown := F.2.2.2.1
  have hts := F.2.2.2.2.1
  intro n
  induction n with
  | zero =>
    intro σ y1 y4 y5 H locs ls cells slots hf h
    rw [fL_errors_b656] at h
    cases h
  | succ n ih =>
    intro σ y1 y4 y5 H locs ls cells slots hf h hI hl
    obtain ⟨hf1, hf2⟩ := hf
    rw [fL_errors_b656] at h
    refine lv_iload hx hb dL_errors_656 (lv_at hl 3 rfl) ?_
    refine lv_bipush (v := 16) hx hb dL_errors_658 (by decide) ?_
    refine lv_icmp_ge (tgt := 765) hx hb dL_errors_660 (by decide) (fun c169 => ?_) (fun c169 => ?_)
    · have h := x_ift h c169
      exact wL_errors_j765 F Z σ y1 y4 _ _ _ _ _ ⟨by omega, by omega⟩ h hI (lv_sub hl [0, 1, 2] rfl)
    · have h := x_iff h c169
      refine lv_iload hx hb dL_errors_663 (lv_at hl 2 rfl) ?_
      refine lv_if_eq (tgt := 765) hx hb dL_errors_665 (by decide) (fun c170 => ?_) (fun c170 => ?_)
      · have h := x_ift h c170
        exact wL_errors_j765 F Z σ y1 y4 _ _ _ _ _ ⟨by omega, by omega⟩ h hI (lv_sub hl [0, 1, 2] rfl)
      · have h := x_iff h c170
        refine lv_aload_n hx hb dL_errors_668 rfl (lv_at hl 0 rfl) ?_
        refine lv_iload hx hb dL_errors_669 (lv_at hl 3 rfl) ?_
        obtain ⟨r171, h172, h⟩ := x_bnd h
        refine xm_acl hI (xw_run (rest := []) F Z.2 hI (mL_stateOf l Z.1 X _ σ y5 r171 h172) gw_L_192 hd_L_stateOf ⟨by decide, by decide⟩ ⟨rfl, rfl⟩ rfl hl.1 rfl (Nat.le_of_ble_eq_true rfl) dL_errors_671 ⟨(by show _ ≤ (238 : Nat); omega), (by show _ ≤ (1428 : Nat); omega)⟩) (fun H locs hI => ?_)
        refine lv_lstore (lv' := [(6, .long r171.1), (0, .ref (X.2.2 10 32)), (1, .long y1), (4, .int y4), (5, .int y5)]) hx hb dL_errors_674 hl (by decide) rfl (fun ls hl => ?_)
        refine lv_lload hx hb dL_errors_676 (lv_at hl 0 rfl) ?_
        refine lv_lconst (v := 0) hx hb dL_errors_678 (by decide) ?_
        refine W.lcmp hx hb dL_errors_679 ?_
        refine lv_if_ne (tgt := 696) hx hb dL_errors_680 (by decide) (fun c173 => ?_) (fun c173 => ?_)
        · have h := x_iff h c173
          exact wL_errors_j696 F Z (fL_errors_b656 n) (5 * n + 0) ih r171.2 y1 y5 r171.1 _ _ _ _ _ ⟨by omega, by omega⟩ h hI (lv_sub hl [1, 2, 4, 0] rfl)
        · have h := x_ift h c173
          refine lv_aload_n hx hb dL_errors_683 rfl (lv_at hl 1 rfl) ?_
          refine lv_iload hx hb dL_errors_684 (lv_at hl 4 rfl) ?_
          obtain ⟨r174, h175, h⟩ := x_bnd h
          refine xm_acl hI (xw_run (rest := []) F Z.2 hI (mL_ticksOf l Z.1 X _ r171.2 y5 r174 h175) gw_L_196 hd_L_ticksOf ⟨by decide, by decide⟩ ⟨rfl, rfl⟩ rfl hl.1 rfl (Nat.le_of_ble_eq_true rfl) dL_errors_686 ⟨(by show _ ≤ (238 : Nat); omega), (by show _ ≤ (1428 : Nat); omega)⟩) (fun H locs hI => ?_)
          refine lv_ldc2 (v := -9000000000000000003) hx hb hown (hts _ u_cl_L_21) dL_errors_689 ?_
          refine W.lcmp hx hb dL_errors_692 ?_
          refine lv_if_ne (tgt := 756) hx hb dL_errors_693 (by decide) (fun c176 => ?_) (fun c176 => ?_)
          · have h := x_iff h c176
            refine lv_iconst (v := 0) hx hb dL_errors_756 (by decide) ?_
            refine lv_istore (lv' := [(4, .int (0)), (6, .long r171.1), (0, .ref (X.2.2 10 32)), (1, .long y1), (5, .int y5)]) hx hb dL_errors_757 hl (by decide) rfl (fun ls hl => ?_)
            obtain ⟨x177, e178⟩ : ∃ z : Int32, z = (y5 + (1 : Int32)) := ⟨_, rfl⟩
            have h := x_let_at h e178
            refine lv_iinc (v := x177) (lv' := [(5, .int x177), (4, .int (0)), (6, .long r171.1), (0, .ref (X.2.2 10 32)), (1, .long y1)]) hx hb dL_errors_759 hl (k := 4) rfl (by rw [e178]; rfl) (by decide) rfl (fun ls hl => ?_)
            refine lv_goto (tgt := 656) hx hb dL_errors_762 (by decide) ?_
            exact ih r174.2 y1 (0 : Int32) x177 _ _ _ _ _ ⟨by omega, by omega⟩ h hI (lv_sub hl [3, 4, 1, 0] rfl)
          · have h := x_ift h c176
            exact wL_errors_j696 F Z (fL_errors_b656 n) (5 * n + 0) ih r174.2 y1 y5 r171.1 _ _ _ _ _ ⟨by omega, by omega⟩ h hI (lv_sub hl [1, 2, 4, 0] rfl)
def fL_errors_j620 (k479 : x_S → Int64 → Int32 → Int32 → Option (Int32 × x_S)) (σ : x_S) (y1 : Int64) (y5 : Int32) (y6 : Int64) : Option (Int32 × x_S) := (if 0 < (lg_cmp y6 (1 : Int64)) then x_let (y5 + (1 : Int32)) fun x160 => k479 σ y1 (1 : Int32) x160 else (Option.bind (fL_roomOf σ y5) fun r162 => (if (lg_cmp r162.1 (-9000000000000000003 : Int64)) = 0 then x_let (y5 + (1 : Int32)) fun x165 => k479 r162.2 y1 (1 : Int32) x165 else x_let (y5 + (1 : Int32)) fun x167 => k479 r162.2 y1 (0 : Int32) x167)))
set_option maxHeartbeats 4000000 in
set_option maxRecDepth 100000 in
theorem wL_errors_j620 {p : Program} {l : Launch} {e : Env} {s : State} {m : MethodId} {args : Array Value} {below : List Frame} {meth : Method} {c : Code} {X : x_T} {r : (Int32 × x_S)} (F : x_F p s m args meth c cL_errors 8 RL (some .boolean)) (Z : xm_Z l s X) (k479 : x_S → Int64 → Int32 → Int32 → Option (Int32 × x_S)) (c479 : Nat) (hk479 : ∀ (σ : x_S) (y1 : Int64) (y4 : Int32) (y5 : Int32) (H : Heap) (locs : List Loc) (ls : Array Slot) (cells slots : Nat), cells + c479 ≤ 238 ∧ slots + 6 * c479 ≤ 1428 → k479 σ y1 y4 y5 = some r → x_I X σ s H locs → lv_has ls 8 [(0, .ref (X.2.2 10 32)), (1, .long y1), (4, .int y4), (5, .int y5)] → W p l e rm_L_errors s m args below meth c H locs cells slots (MQ below (x_Qi X r.1 r.2 s.heap.size) args s 238 1428 (x_A X s.heap.size)) (F0 m 479 ls [])) (σ : x_S) (y1 : Int64) (y5 : Int32) (y6 : Int64) (H : Heap) (locs : List Loc) (ls : Array Slot) (cells slots : Nat) (hf : cells + (1 + c479) ≤ 238 ∧ slots + 6 * (1 + c479) ≤ 1428) (h : fL_errors_j620 k479 σ y1 y5 y6 = some r) (hI : x_I X σ s H locs) (hl : lv_has ls 8 [(0, .ref (X.2.2 10 32)), (1, .long y1), (5, .int y5), (6, .long y6)]) : W p l e rm_L_errors s m args below meth c H locs cells slots (MQ below (x_Qi X r.1 r.2 s.heap.size) args s 238 1428 (x_A X s.heap.size)) (F0 m 620 ls []) := by
  have hx := F.1
  have hb := F.2.1
  have hml := F.2.2.1
  have hown := F.2.2.2.1
  have hts := F.2.2.2.2.1
  obtain ⟨hf1, hf2⟩ := hf
  unfold fL_errors_j620 at h
  refine lv_lload hx hb dL_errors_620 (lv_at hl 3 rfl) ?_
  refine lv_lconst (v := 1) hx hb dL_errors_622 (by decide) ?_
  refine W.lcmp hx hb dL_errors_623 ?_
  refine lv_if_gt (tgt := 640) hx hb dL_errors_624 (by decide) (fun c159 => ?_) (fun c159 => ?_)
  · have h := x_ift h c159
    refine lv_iconst (v := 1) hx hb dL_errors_640 (by decide) ?_
    refine lv_goto (tgt := 645) hx hb dL_errors_641 (by decide) ?_
    refine lv_istore (lv' := [(4, .int (1)), (0, .ref (X.2.2 10 32)), (1, .long y1), (5, .int y5), (6, .long y6)]) hx hb dL_errors_645 hl (by decide) rfl (fun ls hl => ?_)
    obtain ⟨x160, e161⟩ : ∃ z : Int32, z = (y5 + (1 : Int32)) := ⟨_, rfl⟩
    have h := x_let_at h e161
    refine lv_iinc (v := x160) (lv' := [(5, .int x160), (4, .int (1)), (0, .ref (X.2.2 10 32)), (1, .long y1), (6, .long y6)]) hx hb dL_errors_647 hl (k := 3) rfl (by rw [e161]; rfl) (by decide) rfl (fun ls hl => ?_)
    refine lv_goto (tgt := 479) hx hb dL_errors_650 (by decide) ?_
    exact hk479 σ y1 (1 : Int32) x160 _ _ _ _ _ ⟨by omega, by omega⟩ h hI (lv_sub hl [2, 3, 1, 0] rfl)
  · have h := x_iff h c159
    refine lv_aload_n hx hb dL_errors_627 rfl (lv_at hl 0 rfl) ?_
    refine lv_iload hx hb dL_errors_628 (lv_at hl 2 rfl) ?_
    obtain ⟨r162, h163, h⟩ := x_bnd h
    refine xm_acl hI (xw_run (rest := []) F Z.2 hI (mL_roomOf l Z.1 X _ σ y5 r162 h163) gw_L_181 hd_L_roomOf ⟨by decide, by decide⟩ ⟨rfl, rfl⟩ rfl hl.1 rfl (Nat.le_of_ble_eq_true rfl) dL_errors_630 ⟨(by show _ ≤ (238 : Nat); omega), (by show _ ≤ (1428 : Nat); omega)⟩) (fun H locs hI => ?_)
    refine lv_ldc2 (v := -9000000000000000003) hx hb hown (hts _ u_cl_L_21) dL_errors_633 ?_
    refine W.lcmp hx hb dL_errors_636 ?_
    refine lv_if_ne (tgt := 644) hx hb dL_errors_637 (by decide) (fun c164 => ?_) (fun c164 => ?_)
    · have h := x_iff h c164
      refine lv_iconst (v := 0) hx hb dL_errors_644 (by decide) ?_
      refine lv_istore (lv' := [(4, .int (0)), (0, .ref (X.2.2 10 32)), (1, .long y1), (5, .int y5), (6, .long y6)]) hx hb dL_errors_645 hl (by decide) rfl (fun ls hl => ?_)
      obtain ⟨x167, e168⟩ : ∃ z : Int32, z = (y5 + (1 : Int32)) := ⟨_, rfl⟩
      have h := x_let_at h e168
      refine lv_iinc (v := x167) (lv' := [(5, .int x167), (4, .int (0)), (0, .ref (X.2.2 10 32)), (1, .long y1), (6, .long y6)]) hx hb dL_errors_647 hl (k := 3) rfl (by rw [e168]; rfl) (by decide) rfl (fun ls hl => ?_)
      refine lv_goto (tgt := 479) hx hb dL_errors_650 (by decide) ?_
      exact hk479 r162.2 y1 (0 : Int32) x167 _ _ _ _ _ ⟨by omega, by omega⟩ h hI (lv_sub hl [2, 3, 1, 0] rfl)
    · have h := x_ift h c164
      refine lv_iconst (v := 1) hx hb dL_errors_640 (by decide) ?_
      refine lv_goto (tgt := 645) hx hb dL_errors_641 (by decide) ?_
      refine lv_istore (lv' := [(4, .int (1)), (0, .ref (X.2.2 10 32)), (1, .long y1), (5, .int y5), (6, .long y6)]) hx hb dL_errors_645 hl (by decide) rfl (fun ls hl => ?_)
      obtain ⟨x165, e166⟩ : ∃ z : Int32, z = (y5 + (1 : Int32)) := ⟨_, rfl⟩
      have h := x_let_at h e166
      refine lv_iinc (v := x165) (lv' := [(5, .int x165), (4, .int (1)), (0, .ref (X.2.2 10 32)), (1, .long y1), (6, .long y6)]) hx hb dL_errors_647 hl (k := 3) rfl (by rw [e166]; rfl) (by decide) rfl (fun ls hl => ?_)
      refine lv_goto (tgt := 479) hx hb dL_errors_650 (by decide) ?_
      exact hk479 r162.2 y1 (1 : Int32) x165 _ _ _ _ _ ⟨by omega, by omega⟩ h hI (lv_sub hl [2, 3, 1, 0] rfl)
def fL_errors_j591 (k479 : x_S → Int64 → Int32 → Int32 → Option (Int32 × x_S)) (σ : x_S) (y1 : Int64) (y5 : Int32) (y6 : Int64) : Option (Int32 × x_S) := (if (lg_cmp y6 (1 : Int64)) = 0 then fL_errors_j620 k479 σ y1 y5 y6 else (if (lg_cmp y6 (2 : Int64)) = 0 then fL_errors_j620 k479 σ y1 y5 y6 else (Option.bind (fL_giveUp σ y5) fun r154 => (if (lg_cmp r154.1 (-9000000000000000003 : Int64)) = 0 then fL_errors_j620 k479 r154.2 y1 y5 y6 else x_let (y5 + (1 : Int32)) fun x157 => k479 r154.2 y1 (0 : Int32) x157))))
set_option maxHeartbeats 4000000 in
set_option maxRecDepth 100000 in
theorem wL_errors_j591 {p : Program} {l : Launch} {e : Env} {s : State} {m : MethodId} {args : Array Value} {below : List Frame} {meth : Method} {c : Code} {X : x_T} {r : (Int32 × x_S)} (F : x_F p s m args meth c cL_errors 8 RL (some .boolean)) (Z : xm_Z l s X) (k479 : x_S → Int64 → Int32 → Int32 → Option (Int32 × x_S)) (c479 : Nat) (hk479 : ∀ (σ : x_S) (y1 : Int64) (y4 : Int32) (y5 : Int32) (H : Heap) (locs : List Loc) (ls : Array Slot) (cells slots : Nat), cells + c479 ≤ 238 ∧ slots + 6 * c479 ≤ 1428 → k479 σ y1 y4 y5 = some r → x_I X σ s H locs → lv_has ls 8 [(0, .ref (X.2.2 10 32)), (1, .long y1), (4, .int y4), (5, .int y5)] → W p l e rm_L_errors s m args below meth c H locs cells slots (MQ below (x_Qi X r.1 r.2 s.heap.size) args s 238 1428 (x_A X s.heap.size)) (F0 m 479 ls [])) (σ : x_S) (y1 : Int64) (y5 : Int32) (y6 : Int64) (H : Heap) (locs : List Loc) (ls : Array Slot) (cells slots : Nat) (hf : cells + (2 + c479) ≤ 238 ∧ slots + 6 * (2 + c479) ≤ 1428) (h : fL_errors_j591 k479 σ y1 y5 y6 = some r) (hI : x_I X σ s H locs) (hl : lv_has ls 8 [(0, .ref (X.2.2 10 32)), (1, .long y1), (5, .int y5), (6, .long y6)]) : W p l e rm_L_errors s m args below meth c H locs cells slots (MQ below (x_Qi X r.1 r.2 s.heap.size) args s 238 1428 (x_A X s.heap.size)) (F0 m 591 ls []) := by
  have hx := F.1
  have hb := F.2.1
  have hml := F.2.2.1
  have hown := F.2.2.2.1
  have hts := F.2.2.2.2.1
  obtain ⟨hf1, hf2⟩ := hf
  unfold fL_errors_j591 at h
  refine lv_lload hx hb dL_errors_591 (lv_at hl 3 rfl) ?_
  refine lv_lconst (v := 1) hx hb dL_errors_593 (by decide) ?_
  refine W.lcmp hx hb dL_errors_594 ?_
  refine lv_if_eq (tgt := 620) hx hb dL_errors_595 (by decide) (fun c152 => ?_) (fun c152 => ?_)
  · have h := x_ift h c152
    exact wL_errors_j620 F Z k479 c479 hk479 σ y1 y5 y6 _ _ _ _ _ ⟨by omega, by omega⟩ h hI (lv_sub hl [0, 1, 2, 3] rfl)
  · have h := x_iff h c152
    refine lv_lload hx hb dL_errors_598 (lv_at hl 3 rfl) ?_
    refine lv_ldc2 (v := 2) hx hb hown (hts _ u_cl_L_224) dL_errors_600 ?_
    refine W.lcmp hx hb dL_errors_603 ?_
    refine lv_if_eq (tgt := 620) hx hb dL_errors_604 (by decide) (fun c153 => ?_) (fun c153 => ?_)
    · have h := x_ift h c153
      exact wL_errors_j620 F Z k479 c479 hk479 σ y1 y5 y6 _ _ _ _ _ ⟨by omega, by omega⟩ h hI (lv_sub hl [0, 1, 2, 3] rfl)
    · have h := x_iff h c153
      refine lv_aload_n hx hb dL_errors_607 rfl (lv_at hl 0 rfl) ?_
      refine lv_iload hx hb dL_errors_608 (lv_at hl 2 rfl) ?_
      obtain ⟨r154, h155, h⟩ := x_bnd h
      refine xm_acl hI (xw_run (rest := []) F Z.2 hI (mL_giveUp l Z.1 X _ σ y5 r154 h155) gw_L_150 hd_L_giveUp ⟨by decide, by decide⟩ ⟨rfl, rfl⟩ rfl hl.1 rfl (Nat.le_of_ble_eq_true rfl) dL_errors_610 ⟨(by show _ ≤ (238 : Nat); omega), (by show _ ≤ (1428 : Nat); omega)⟩) (fun H locs hI => ?_)
      refine lv_ldc2 (v := -9000000000000000003) hx hb hown (hts _ u_cl_L_21) dL_errors_613 ?_
      refine W.lcmp hx hb dL_errors_616 ?_
      refine lv_if_ne (tgt := 644) hx hb dL_errors_617 (by decide) (fun c156 => ?_) (fun c156 => ?_)
      · have h := x_iff h c156
        refine lv_iconst (v := 0) hx hb dL_errors_644 (by decide) ?_
        refine lv_istore (lv' := [(4, .int (0)), (0, .ref (X.2.2 10 32)), (1, .long y1), (5, .int y5), (6, .long y6)]) hx hb dL_errors_645 hl (by decide) rfl (fun ls hl => ?_)
        obtain ⟨x157, e158⟩ : ∃ z : Int32, z = (y5 + (1 : Int32)) := ⟨_, rfl⟩
        have h := x_let_at h e158
        refine lv_iinc (v := x157) (lv' := [(5, .int x157), (4, .int (0)), (0, .ref (X.2.2 10 32)), (1, .long y1), (6, .long y6)]) hx hb dL_errors_647 hl (k := 3) rfl (by rw [e158]; rfl) (by decide) rfl (fun ls hl => ?_)
        refine lv_goto (tgt := 479) hx hb dL_errors_650 (by decide) ?_
        exact hk479 r154.2 y1 (0 : Int32) x157 _ _ _ _ _ ⟨by omega, by omega⟩ h hI (lv_sub hl [2, 3, 1, 0] rfl)
      · have h := x_ift h c156
        exact wL_errors_j620 F Z k479 c479 hk479 r154.2 y1 y5 y6 _ _ _ _ _ ⟨by omega, by omega⟩ h hI (lv_sub hl [0, 1, 2, 3] rfl)
def fL_errors_j519 (k479 : x_S → Int64 → Int32 → Int32 → Option (Int32 × x_S)) (σ : x_S) (y1 : Int64) (y5 : Int32) (y6 : Int64) : Option (Int32 × x_S) := (if (lg_cmp y6 (3 : Int64)) = 0 then fL_errors_j591 k479 σ y1 y5 y6 else (Option.bind (fL_leave σ y5) fun r127 => (if (lg_cmp r127.1 (-9000000000000000003 : Int64)) = 0 then (Option.bind (fL_renew r127.2 y5) fun r130 => (if (lg_cmp r130.1 (-9000000000000000003 : Int64)) = 0 then (Option.bind (fL_ticksLeft r130.2 y5) fun r133 => (if (lg_cmp r133.1 (-9000000000000000003 : Int64)) = 0 then (Option.bind (fL_toRenewal r133.2 y5) fun r136 => (if (lg_cmp r136.1 (-9000000000000000003 : Int64)) = 0 then (Option.bind (fL_isHaunted r136.2 y5) fun r139 => (if (lg_cmp r139.1 (0 : Int64)) = 0 then fL_errors_j591 k479 r139.2 y1 y5 y6 else x_let (y5 + (1 : Int32)) fun x142 => k479 r139.2 y1 (0 : Int32) x142)) else x_let (y5 + (1 : Int32)) fun x144 => k479 r136.2 y1 (0 : Int32) x144)) else x_let (y5 + (1 : Int32)) fun x146 => k479 r133.2 y1 (0 : Int32) x146)) else x_let (y5 + (1 : Int32)) fun x148 => k479 r130.2 y1 (0 : Int32) x148)) else x_let (y5 + (1 : Int32)) fun x150 => k479 r127.2 y1 (0 : Int32) x150)))
set_option maxHeartbeats 4000000 in
set_option maxRecDepth 100000 in
theorem wL_errors_j519 {p : Program} {l : Launch} {e : Env} {s : State} {m : MethodId} {args : Array Value} {below : List Frame} {meth : Method} {c : Code} {X : x_T} {r : (Int32 × x_S)} (F : x_F p s m args meth c cL_errors 8 RL (some .boolean)) (Z : xm_Z l s X) (k479 : x_S → Int64 → Int32 → Int32 → Option (Int32 × x_S)) (c479 : Nat) (hk479 : ∀ (σ : x_S) (y1 : Int64) (y4 : Int32) (y5 : Int32) (H : Heap) (locs : List Loc) (ls : Array Slot) (cells slots : Nat), cells + c479 ≤ 238 ∧ slots + 6 * c479 ≤ 1428 → k479 σ y1 y4 y5 = some r → x_I X σ s H locs → lv_has ls 8 [(0, .ref (X.2.2 10 32)), (1, .long y1), (4, .int y4), (5, .int y5)] → W p l e rm_L_errors s m args below meth c H locs cells slots (MQ below (x_Qi X r.1 r.2 s.heap.size) args s 238 1428 (x_A X s.heap.size)) (F0 m 479 ls [])) (σ : x_S) (y1 : Int64) (y5 : Int32) (y6 : Int64) (H : Heap) (locs : List Loc) (ls : Array Slot) (cells slots : Nat) (hf : cells + (7 + c479) ≤ 238 ∧ slots + 6 * (7 + c479) ≤ 1428) (h : fL_errors_j519 k479 σ y1 y5 y6 = some r) (hI : x_I X σ s H locs) (hl : lv_has ls 8 [(0, .ref (X.2.2 10 32)), (1, .long y1), (5, .int y5), (6, .long y6)]) : W p l e rm_L_errors s m args below meth c H locs cells slots (MQ below (x_Qi X r.1 r.2 s.heap.size) args s 238 1428 (x_A X s.heap.size)) (F0 m 519 ls []) := by
  have hx := F.1
  have hb := F.2.1
  have hml := F.2.2.1
  have hown := F.2.2.2.1
  have hts := F.2.2.2.2.1
  obtain ⟨hf1, hf2⟩ := hf
  unfold fL_errors_j519 at h
  refine lv_lload hx hb dL_errors_519 (lv_at hl 3 rfl) ?_
  refine lv_ldc2 (v := 3) hx hb hown (hts _ u_cl_L_222) dL_errors_521 ?_
  refine W.lcmp hx hb dL_errors_524 ?_
  refine lv_if_eq (tgt := 591) hx hb dL_errors_525 (by decide) (fun c126 => ?_) (fun c126 => ?_)
  · have h := x_ift h c126
    exact wL_errors_j591 F Z k479 c479 hk479 σ y1 y5 y6 _ _ _ _ _ ⟨by omega, by omega⟩ h hI (lv_sub hl [0, 1, 2, 3] rfl)
  · have h := x_iff h c126
    refine lv_aload_n hx hb dL_errors_528 rfl (lv_at hl 0 rfl) ?_
    refine lv_iload hx hb dL_errors_529 (lv_at hl 2 rfl) ?_
    obtain ⟨r127, h128, h⟩ := x_bnd h
    refine xm_acl hI (xw_run (rest := []) F Z.2 hI (mL_leave l Z.1 X _ σ y5 r127 h128) gw_L_148 hd_L_leave ⟨by decide, by decide⟩ ⟨rfl, rfl⟩ rfl hl.1 rfl (Nat.le_of_ble_eq_true rfl) dL_errors_531 ⟨(by show _ ≤ (238 : Nat); omega), (by show _ ≤ (1428 : Nat); omega)⟩) (fun H locs hI => ?_)
    refine lv_ldc2 (v := -9000000000000000003) hx hb hown (hts _ u_cl_L_21) dL_errors_534 ?_
    refine W.lcmp hx hb dL_errors_537 ?_
    refine lv_if_ne (tgt := 644) hx hb dL_errors_538 (by decide) (fun c129 => ?_) (fun c129 => ?_)
    · have h := x_iff h c129
      refine lv_iconst (v := 0) hx hb dL_errors_644 (by decide) ?_
      refine lv_istore (lv' := [(4, .int (0)), (0, .ref (X.2.2 10 32)), (1, .long y1), (5, .int y5), (6, .long y6)]) hx hb dL_errors_645 hl (by decide) rfl (fun ls hl => ?_)
      obtain ⟨x150, e151⟩ : ∃ z : Int32, z = (y5 + (1 : Int32)) := ⟨_, rfl⟩
      have h := x_let_at h e151
      refine lv_iinc (v := x150) (lv' := [(5, .int x150), (4, .int (0)), (0, .ref (X.2.2 10 32)), (1, .long y1), (6, .long y6)]) hx hb dL_errors_647 hl (k := 3) rfl (by rw [e151]; rfl) (by decide) rfl (fun ls hl => ?_)
      refine lv_goto (tgt := 479) hx hb dL_errors_650 (by decide) ?_
      exact hk479 r127.2 y1 (0 : Int32) x150 _ _ _ _ _ ⟨by omega, by omega⟩ h hI (lv_sub hl [2, 3, 1, 0] rfl)
    · have h := x_ift h c129
      refine lv_aload_n hx hb dL_errors_541 rfl (lv_at hl 0 rfl) ?_
      refine lv_iload hx hb dL_errors_542 (lv_at hl 2 rfl) ?_
      obtain ⟨r130, h131, h⟩ := x_bnd h
      refine xm_acl hI (xw_run (rest := []) F Z.2 hI (mL_renew l Z.1 X _ r127.2 y5 r130 h131) gw_L_152 hd_L_renew ⟨by decide, by decide⟩ ⟨rfl, rfl⟩ rfl hl.1 rfl (Nat.le_of_ble_eq_true rfl) dL_errors_544 ⟨(by show _ ≤ (238 : Nat); omega), (by show _ ≤ (1428 : Nat); omega)⟩) (fun H locs hI => ?_)
      refine lv_ldc2 (v := -9000000000000000003) hx hb hown (hts _ u_cl_L_21) dL_errors_547 ?_
      refine W.lcmp hx hb dL_errors_550 ?_
      refine lv_if_ne (tgt := 644) hx hb dL_errors_551 (by decide) (fun c132 => ?_) (fun c132 => ?_)
      · have h := x_iff h c132
        refine lv_iconst (v := 0) hx hb dL_errors_644 (by decide) ?_
        refine lv_istore (lv' := [(4, .int (0)), (0, .ref (X.2.2 10 32)), (1, .long y1), (5, .int y5), (6, .long y6)]) hx hb dL_errors_645 hl (by decide) rfl (fun ls hl => ?_)
        obtain ⟨x148, e149⟩ : ∃ z : Int32, z = (y5 + (1 : Int32)) := ⟨_, rfl⟩
        have h := x_let_at h e149
        refine lv_iinc (v := x148) (lv' := [(5, .int x148), (4, .int (0)), (0, .ref (X.2.2 10 32)), (1, .long y1), (6, .long y6)]) hx hb dL_errors_647 hl (k := 3) rfl (by rw [e149]; rfl) (by decide) rfl (fun ls hl => ?_)
        refine lv_goto (tgt := 479) hx hb dL_errors_650 (by decide) ?_
        exact hk479 r130.2 y1 (0 : Int32) x148 _ _ _ _ _ ⟨by omega, by omega⟩ h hI (lv_sub hl [2, 3, 1, 0] rfl)
      · have h := x_ift h c132
        refine lv_aload_n hx hb dL_errors_554 rfl (lv_at hl 0 rfl) ?_
        refine lv_iload hx hb dL_errors_555 (lv_at hl 2 rfl) ?_
        obtain ⟨r133, h134, h⟩ := x_bnd h
        refine xm_acl hI (xw_run (rest := []) F Z.2 hI (mL_ticksLeft l Z.1 X _ r130.2 y5 r133 h134) gw_L_183 hd_L_ticksLeft ⟨by decide, by decide⟩ ⟨rfl, rfl⟩ rfl hl.1 rfl (Nat.le_of_ble_eq_true rfl) dL_errors_557 ⟨(by show _ ≤ (238 : Nat); omega), (by show _ ≤ (1428 : Nat); omega)⟩) (fun H locs hI => ?_)
        refine lv_ldc2 (v := -9000000000000000003) hx hb hown (hts _ u_cl_L_21) dL_errors_560 ?_
        refine W.lcmp hx hb dL_errors_563 ?_
        refine lv_if_ne (tgt := 644) hx hb dL_errors_564 (by decide) (fun c135 => ?_) (fun c135 => ?_)
        · have h := x_iff h c135
          refine lv_iconst (v := 0) hx hb dL_errors_644 (by decide) ?_
          refine lv_istore (lv' := [(4, .int (0)), (0, .ref (X.2.2 10 32)), (1, .long y1), (5, .int y5), (6, .long y6)]) hx hb dL_errors_645 hl (by decide) rfl (fun ls hl => ?_)
          obtain ⟨x146, e147⟩ : ∃ z : Int32, z = (y5 + (1 : Int32)) := ⟨_, rfl⟩
          have h := x_let_at h e147
          refine lv_iinc (v := x146) (lv' := [(5, .int x146), (4, .int (0)), (0, .ref (X.2.2 10 32)), (1, .long y1), (6, .long y6)]) hx hb dL_errors_647 hl (k := 3) rfl (by rw [e147]; rfl) (by decide) rfl (fun ls hl => ?_)
          refine lv_goto (tgt := 479) hx hb dL_errors_650 (by decide) ?_
          exact hk479 r133.2 y1 (0 : Int32) x146 _ _ _ _ _ ⟨by omega, by omega⟩ h hI (lv_sub hl [2, 3, 1, 0] rfl)
        · have h := x_ift h c135
          refine lv_aload_n hx hb dL_errors_567 rfl (lv_at hl 0 rfl) ?_
          refine lv_iload hx hb dL_errors_568 (lv_at hl 2 rfl) ?_
          obtain ⟨r136, h137, h⟩ := x_bnd h
          refine xm_acl hI (xw_run (rest := []) F Z.2 hI (mL_toRenewal l Z.1 X _ r133.2 y5 r136 h137) gw_L_185 hd_L_toRenewal ⟨by decide, by decide⟩ ⟨rfl, rfl⟩ rfl hl.1 rfl (Nat.le_of_ble_eq_true rfl) dL_errors_570 ⟨(by show _ ≤ (238 : Nat); omega), (by show _ ≤ (1428 : Nat); omega)⟩) (fun H locs hI => ?_)
          refine lv_ldc2 (v := -9000000000000000003) hx hb hown (hts _ u_cl_L_21) dL_errors_573 ?_
          refine W.lcmp hx hb dL_errors_576 ?_
          refine lv_if_ne (tgt := 644) hx hb dL_errors_577 (by decide) (fun c138 => ?_) (fun c138 => ?_)
          · have h := x_iff h c138
            refine lv_iconst (v := 0) hx hb dL_errors_644 (by decide) ?_
            refine lv_istore (lv' := [(4, .int (0)), (0, .ref (X.2.2 10 32)), (1, .long y1), (5, .int y5), (6, .long y6)]) hx hb dL_errors_645 hl (by decide) rfl (fun ls hl => ?_)
            obtain ⟨x144, e145⟩ : ∃ z : Int32, z = (y5 + (1 : Int32)) := ⟨_, rfl⟩
            have h := x_let_at h e145
            refine lv_iinc (v := x144) (lv' := [(5, .int x144), (4, .int (0)), (0, .ref (X.2.2 10 32)), (1, .long y1), (6, .long y6)]) hx hb dL_errors_647 hl (k := 3) rfl (by rw [e145]; rfl) (by decide) rfl (fun ls hl => ?_)
            refine lv_goto (tgt := 479) hx hb dL_errors_650 (by decide) ?_
            exact hk479 r136.2 y1 (0 : Int32) x144 _ _ _ _ _ ⟨by omega, by omega⟩ h hI (lv_sub hl [2, 3, 1, 0] rfl)
          · have h := x_ift h c138
            refine lv_aload_n hx hb dL_errors_580 rfl (lv_at hl 0 rfl) ?_
            refine lv_iload hx hb dL_errors_581 (lv_at hl 2 rfl) ?_
            obtain ⟨r139, h140, h⟩ := x_bnd h
            refine xm_acl hI (xw_run (rest := []) F Z.2 hI (mL_isHaunted l Z.1 X _ r136.2 y5 r139 h140) gw_L_188 hd_L_isHaunted ⟨by decide, by decide⟩ ⟨rfl, rfl⟩ rfl hl.1 rfl (Nat.le_of_ble_eq_true rfl) dL_errors_583 ⟨(by show _ ≤ (238 : Nat); omega), (by show _ ≤ (1428 : Nat); omega)⟩) (fun H locs hI => ?_)
            refine lv_lconst (v := 0) hx hb dL_errors_586 (by decide) ?_
            refine W.lcmp hx hb dL_errors_587 ?_
            refine lv_if_ne (tgt := 644) hx hb dL_errors_588 (by decide) (fun c141 => ?_) (fun c141 => ?_)
            · have h := x_iff h c141
              refine lv_iconst (v := 0) hx hb dL_errors_644 (by decide) ?_
              refine lv_istore (lv' := [(4, .int (0)), (0, .ref (X.2.2 10 32)), (1, .long y1), (5, .int y5), (6, .long y6)]) hx hb dL_errors_645 hl (by decide) rfl (fun ls hl => ?_)
              obtain ⟨x142, e143⟩ : ∃ z : Int32, z = (y5 + (1 : Int32)) := ⟨_, rfl⟩
              have h := x_let_at h e143
              refine lv_iinc (v := x142) (lv' := [(5, .int x142), (4, .int (0)), (0, .ref (X.2.2 10 32)), (1, .long y1), (6, .long y6)]) hx hb dL_errors_647 hl (k := 3) rfl (by rw [e143]; rfl) (by decide) rfl (fun ls hl => ?_)
              refine lv_goto (tgt := 479) hx hb dL_errors_650 (by decide) ?_
              exact hk479 r139.2 y1 (0 : Int32) x142 _ _ _ _ _ ⟨by omega, by omega⟩ h hI (lv_sub hl [2, 3, 1, 0] rfl)
            · have h := x_ift h c141
              exact wL_errors_j591 F Z k479 c479 hk479 r139.2 y1 y5 y6 _ _ _ _ _ ⟨by omega, by omega⟩ h hI (lv_sub hl [0, 1, 2, 3] rfl)
def fL_errors_b479 : Nat → x_S → Int64 → Int32 → Int32 → Option (Int32 × x_S)
  | 0, _, _, _, _ => none
  | n + 1, σ, y1, y4, y5 => (if (12 : Int32) ≤ y5 then fL_errors_b656 17 σ y1 y4 (0 : Int32) else (if y4 = 0 then fL_errors_b656 17 σ y1 y4 (0 : Int32) else (Option.bind (fL_doingOf σ y5) fun r118 => (if (lg_cmp r118.1 (0 : Int64)) = 0 then fL_errors_j519 (fL_errors_b479 n) r118.2 y1 y5 r118.1 else (Option.bind (fL_seek r118.2 y5) fun r121 => (if (lg_cmp r121.1 (-9000000000000000003 : Int64)) = 0 then fL_errors_j519 (fL_errors_b479 n) r121.2 y1 y5 r118.1 else x_let (y5 + (1 : Int32)) fun x124 => (fL_errors_b479 n) r121.2 y1 (0 : Int32) x124))))))
set_option maxHeartbeats 4000000 in
set_option maxRecDepth 100000 in
theorem wL_errors_b479 {p : Program} {l : Launch} {e : Env} {s : State} {m : MethodId} {args : Array Value} {below : List Frame} {meth : Method} {c : Code} {X : x_T} {r : (Int32 × x_S)} (F : x_F p s m args meth c cL_errors 8 RL (some .boolean)) (Z : xm_Z l s X) : ∀ (n : Nat) (σ : x_S) (y1 : Int64) (y4 : Int32) (y5 : Int32) (H : Heap) (locs : List Loc) (ls : Array Slot) (cells slots : Nat), cells + (9 * n + 85) ≤ 238 ∧ slots + 6 * (9 * n + 85) ≤ 1428 → fL_errors_b479 n σ y1 y4 y5 = some r → x_I X σ s H locs → lv_has ls 8 [(0, .ref (X.2.2 10 32)), (1, .long y1), (4, .int y4), (5, .int y5)] → W p l e rm_L_errors s m args below meth c H locs cells slots (MQ below (x_Qi X r.1 r.2 s.heap.size) args s 238 1428 (x_A X s.heap.size)) (F0 m 479 ls []) := by
  have hx := F.1
  have hb := F.2.1
  have hml := F.2.2.1
  have hown := F.2.2.2.1
  have hts := F.2.2.2.2.1
  intro n
  induction n with
  | zero =>
    intro σ y1 y4 y5 H locs ls cells slots hf h
    rw [fL_errors_b479] at h
    cases h
  | succ n ih =>
    intro σ y1 y4 y5 H locs ls cells slots hf h hI hl
    obtain ⟨hf1, hf2⟩ := hf
    rw [fL_errors_b479] at h
    refine lv_iload hx hb dL_errors_479 (lv_at hl 3 rfl) ?_
    refine lv_bipush (v := 12) hx hb dL_errors_481 (by decide) ?_
    refine lv_icmp_ge (tgt := 653) hx hb dL_errors_483 (by decide) (fun c116 => ?_) (fun c116 => ?_)
    · have h := x_ift h c116
      refine lv_iconst (v := 0) hx hb dL_errors_653 (by decide) ?_
      refine lv_istore (lv' := [(5, .int (0)), (0, .ref (X.2.2 10 32)), (1, .long y1), (4, .int y4)]) hx hb dL_errors_654 hl (by decide) rfl (fun ls hl => ?_)
      exact wL_errors_b656 F Z 17 σ y1 y4 (0 : Int32) _ _ _ _ _ ⟨by omega, by omega⟩ h hI (lv_sub hl [1, 2, 3, 0] rfl)
    · have h := x_iff h c116
      refine lv_iload hx hb dL_errors_486 (lv_at hl 2 rfl) ?_
      refine lv_if_eq (tgt := 653) hx hb dL_errors_488 (by decide) (fun c117 => ?_) (fun c117 => ?_)
      · have h := x_ift h c117
        refine lv_iconst (v := 0) hx hb dL_errors_653 (by decide) ?_
        refine lv_istore (lv' := [(5, .int (0)), (0, .ref (X.2.2 10 32)), (1, .long y1), (4, .int y4)]) hx hb dL_errors_654 hl (by decide) rfl (fun ls hl => ?_)
        exact wL_errors_b656 F Z 17 σ y1 y4 (0 : Int32) _ _ _ _ _ ⟨by omega, by omega⟩ h hI (lv_sub hl [1, 2, 3, 0] rfl)
      · have h := x_iff h c117
        refine lv_aload_n hx hb dL_errors_491 rfl (lv_at hl 0 rfl) ?_
        refine lv_iload hx hb dL_errors_492 (lv_at hl 3 rfl) ?_
        obtain ⟨r118, h119, h⟩ := x_bnd h
        refine xm_acl hI (xw_run (rest := []) F Z.2 hI (mL_doingOf l Z.1 X _ σ y5 r118 h119) gw_L_179 hd_L_doingOf ⟨by decide, by decide⟩ ⟨rfl, rfl⟩ rfl hl.1 rfl (Nat.le_of_ble_eq_true rfl) dL_errors_494 ⟨(by show _ ≤ (238 : Nat); omega), (by show _ ≤ (1428 : Nat); omega)⟩) (fun H locs hI => ?_)
        refine lv_lstore (lv' := [(6, .long r118.1), (0, .ref (X.2.2 10 32)), (1, .long y1), (4, .int y4), (5, .int y5)]) hx hb dL_errors_497 hl (by decide) rfl (fun ls hl => ?_)
        refine lv_lload hx hb dL_errors_499 (lv_at hl 0 rfl) ?_
        refine lv_lconst (v := 0) hx hb dL_errors_501 (by decide) ?_
        refine W.lcmp hx hb dL_errors_502 ?_
        refine lv_if_eq (tgt := 519) hx hb dL_errors_503 (by decide) (fun c120 => ?_) (fun c120 => ?_)
        · have h := x_ift h c120
          exact wL_errors_j519 F Z (fL_errors_b479 n) (9 * n + 85) ih r118.2 y1 y5 r118.1 _ _ _ _ _ ⟨by omega, by omega⟩ h hI (lv_sub hl [1, 2, 4, 0] rfl)
        · have h := x_iff h c120
          refine lv_aload_n hx hb dL_errors_506 rfl (lv_at hl 1 rfl) ?_
          refine lv_iload hx hb dL_errors_507 (lv_at hl 4 rfl) ?_
          obtain ⟨r121, h122, h⟩ := x_bnd h
          refine xm_acl hI (xw_run (rest := []) F Z.2 hI (mL_seek l Z.1 X _ r118.2 y5 r121 h122) gw_L_143 hd_L_seek ⟨by decide, by decide⟩ ⟨rfl, rfl⟩ rfl hl.1 rfl (Nat.le_of_ble_eq_true rfl) dL_errors_509 ⟨(by show _ ≤ (238 : Nat); omega), (by show _ ≤ (1428 : Nat); omega)⟩) (fun H locs hI => ?_)
          refine lv_ldc2 (v := -9000000000000000003) hx hb hown (hts _ u_cl_L_21) dL_errors_512 ?_
          refine W.lcmp hx hb dL_errors_515 ?_
          refine lv_if_ne (tgt := 644) hx hb dL_errors_516 (by decide) (fun c123 => ?_) (fun c123 => ?_)
          · have h := x_iff h c123
            refine lv_iconst (v := 0) hx hb dL_errors_644 (by decide) ?_
            refine lv_istore (lv' := [(4, .int (0)), (6, .long r118.1), (0, .ref (X.2.2 10 32)), (1, .long y1), (5, .int y5)]) hx hb dL_errors_645 hl (by decide) rfl (fun ls hl => ?_)
            obtain ⟨x124, e125⟩ : ∃ z : Int32, z = (y5 + (1 : Int32)) := ⟨_, rfl⟩
            have h := x_let_at h e125
            refine lv_iinc (v := x124) (lv' := [(5, .int x124), (4, .int (0)), (6, .long r118.1), (0, .ref (X.2.2 10 32)), (1, .long y1)]) hx hb dL_errors_647 hl (k := 4) rfl (by rw [e125]; rfl) (by decide) rfl (fun ls hl => ?_)
            refine lv_goto (tgt := 479) hx hb dL_errors_650 (by decide) ?_
            exact ih r121.2 y1 (0 : Int32) x124 _ _ _ _ _ ⟨by omega, by omega⟩ h hI (lv_sub hl [3, 4, 1, 0] rfl)
          · have h := x_ift h c123
            exact wL_errors_j519 F Z (fL_errors_b479 n) (9 * n + 85) ih r121.2 y1 y5 r118.1 _ _ _ _ _ ⟨by omega, by omega⟩ h hI (lv_sub hl [1, 2, 4, 0] rfl)
def fL_errors (σ : x_S) : Option (Int32 × x_S) := (Option.bind (fX6_digest σ ) fun r1 => (Option.bind (fX6_messages r1.2 ) fun r3 => (Option.bind (fL_seek r1.2 (12 : Int32)) fun r5 => (if (lg_cmp r5.1 (-9000000000000000001 : Int64)) = 0 then (Option.bind (fL_leave r5.2 (-1 : Int32)) fun r8 => (if (lg_cmp r8.1 (-9000000000000000001 : Int64)) = 0 then (Option.bind (fL_giveUp r8.2 (12 : Int32)) fun r11 => (if (lg_cmp r11.1 (-9000000000000000001 : Int64)) = 0 then (Option.bind (fL_renew r11.2 (-1 : Int32)) fun r14 => (if (lg_cmp r14.1 (-9000000000000000001 : Int64)) = 0 then (Option.bind (fL_reserve r14.2 (12 : Int32) (0 : Int32)) fun r17 => (if (lg_cmp r17.1 (-9000000000000000001 : Int64)) = 0 then (Option.bind (fL_reserve r17.2 (0 : Int32) (-1 : Int32)) fun r20 => (if (lg_cmp r20.1 (-9000000000000000001 : Int64)) = 0 then (Option.bind (fL_unreserve r20.2 (12 : Int32)) fun r23 => (if (lg_cmp r23.1 (-9000000000000000001 : Int64)) = 0 then (Option.bind (fL_turnGhost r23.2 (16 : Int32)) fun r26 => (if (lg_cmp r26.1 (-9000000000000000001 : Int64)) = 0 then (Option.bind (fL_changeLease r26.2 (201 : Int32)) fun r29 => (if (lg_cmp r29.1 (-9000000000000000002 : Int64)) = 0 then (Option.bind (fL_changeHold r29.2 (0 : Int32)) fun r32 => (if (lg_cmp r32.1 (-9000000000000000002 : Int64)) = 0 then (Option.bind (fL_changeShut r32.2 (201 : Int32)) fun r35 => (if (lg_cmp r35.1 (-9000000000000000002 : Int64)) = 0 then (Option.bind (fL_deliver r35.2 r3) fun r38 => (if (lg_cmp r38.1 (-9000000000000000001 : Int64)) = 0 then (Option.bind (fL_deliver r38.2 (-1 : Int32)) fun r41 => (if (lg_cmp r41.1 (-9000000000000000001 : Int64)) = 0 then (Option.bind (fL_lose r41.2 r3) fun r44 => (if (lg_cmp r44.1 (-9000000000000000001 : Int64)) = 0 then (Option.bind (fL_tick r44.2 (0 : Int32)) fun r47 => (if (lg_cmp r47.1 (-9000000000000000002 : Int64)) = 0 then (Option.bind (fL_append r47.2 (127 : Int32)) fun r50 => (if (lg_cmp r50.1 (-9000000000000000002 : Int64)) = 0 then (Option.bind (fL_keep r50.2 (-1 : Int32)) fun r53 => (if (lg_cmp r53.1 (-9000000000000000002 : Int64)) = 0 then (Option.bind (fL_goBack r53.2 (2 : Int32)) fun r56 => (if (lg_cmp r56.1 (-9000000000000000002 : Int64)) = 0 then (Option.bind (fL_doingOf r56.2 (12 : Int32)) fun r59 => (if (lg_cmp r59.1 (-9000000000000000001 : Int64)) = 0 then (Option.bind (fL_roomOf r59.2 (-1 : Int32)) fun r62 => (if (lg_cmp r62.1 (-9000000000000000001 : Int64)) = 0 then (Option.bind (fL_ticksLeft r62.2 (12 : Int32)) fun r65 => (if (lg_cmp r65.1 (-9000000000000000001 : Int64)) = 0 then (Option.bind (fL_toRenewal r65.2 (-1 : Int32)) fun r68 => (if (lg_cmp r68.1 (-9000000000000000001 : Int64)) = 0 then (Option.bind (fL_isHaunted r68.2 (12 : Int32)) fun r71 => (if (lg_cmp r71.1 (-9000000000000000001 : Int64)) = 0 then (Option.bind (fL_staysOf r71.2 (12 : Int32)) fun r74 => (if (lg_cmp r74.1 (-9000000000000000001 : Int64)) = 0 then (Option.bind (fL_stateOf r74.2 (16 : Int32)) fun r77 => (if (lg_cmp r77.1 (-9000000000000000001 : Int64)) = 0 then (Option.bind (fL_guestOf r77.2 (-1 : Int32)) fun r80 => (if (lg_cmp r80.1 (-9000000000000000001 : Int64)) = 0 then (Option.bind (fL_ticksOf r80.2 (16 : Int32)) fun r83 => (if (lg_cmp r83.1 (-9000000000000000001 : Int64)) = 0 then (Option.bind (fL_reservedFor r83.2 (-1 : Int32)) fun r86 => (if (lg_cmp r86.1 (-9000000000000000001 : Int64)) = 0 then (Option.bind (fL_hasGhost r86.2 (16 : Int32)) fun r89 => (if (lg_cmp r89.1 (-9000000000000000001 : Int64)) = 0 then (Option.bind (fL_roomFor r89.2 (12 : Int32)) fun r92 => (if (lg_cmp r92.1 (-9000000000000000001 : Int64)) = 0 then (Option.bind (fL_kindAt r92.2 r3) fun r95 => (if (lg_cmp r95.1 (-9000000000000000001 : Int64)) = 0 then (Option.bind (fL_guestAt r95.2 (-1 : Int32)) fun r98 => (if (lg_cmp r98.1 (-9000000000000000001 : Int64)) = 0 then (Option.bind (fL_roomAt r98.2 r3) fun r101 => (if (lg_cmp r101.1 (-9000000000000000001 : Int64)) = 0 then (Option.bind (fL_sent r101.2 (-1 : Int32)) fun r104 => (if (lg_cmp r104.1 (-9000000000000000002 : Int64)) = 0 then (Option.bind (fX6_freeRooms r104.2 ) fun r107 => (if r107 < (16 : Int32) then fL_errors_b479 13 r104.2 r1.1 (1 : Int32) (0 : Int32) else (Option.bind (fL_nextByRooms r104.2 ) fun r110 => (if (lg_cmp r110.1 (-9000000000000000003 : Int64)) = 0 then (Option.bind (fL_nextByTicks r110.2 ) fun r113 => (if (lg_cmp r113.1 (-9000000000000000003 : Int64)) = 0 then fL_errors_b479 13 r113.2 r1.1 (1 : Int32) (0 : Int32) else fL_errors_b479 13 r113.2 r1.1 (0 : Int32) (0 : Int32))) else fL_errors_b479 13 r110.2 r1.1 (0 : Int32) (0 : Int32))))) else fL_errors_b479 13 r104.2 r1.1 (0 : Int32) (0 : Int32))) else fL_errors_b479 13 r101.2 r1.1 (0 : Int32) (0 : Int32))) else fL_errors_b479 13 r98.2 r1.1 (0 : Int32) (0 : Int32))) else fL_errors_b479 13 r95.2 r1.1 (0 : Int32) (0 : Int32))) else fL_errors_b479 13 r92.2 r1.1 (0 : Int32) (0 : Int32))) else fL_errors_b479 13 r89.2 r1.1 (0 : Int32) (0 : Int32))) else fL_errors_b479 13 r86.2 r1.1 (0 : Int32) (0 : Int32))) else fL_errors_b479 13 r83.2 r1.1 (0 : Int32) (0 : Int32))) else fL_errors_b479 13 r80.2 r1.1 (0 : Int32) (0 : Int32))) else fL_errors_b479 13 r77.2 r1.1 (0 : Int32) (0 : Int32))) else fL_errors_b479 13 r74.2 r1.1 (0 : Int32) (0 : Int32))) else fL_errors_b479 13 r71.2 r1.1 (0 : Int32) (0 : Int32))) else fL_errors_b479 13 r68.2 r1.1 (0 : Int32) (0 : Int32))) else fL_errors_b479 13 r65.2 r1.1 (0 : Int32) (0 : Int32))) else fL_errors_b479 13 r62.2 r1.1 (0 : Int32) (0 : Int32))) else fL_errors_b479 13 r59.2 r1.1 (0 : Int32) (0 : Int32))) else fL_errors_b479 13 r56.2 r1.1 (0 : Int32) (0 : Int32))) else fL_errors_b479 13 r53.2 r1.1 (0 : Int32) (0 : Int32))) else fL_errors_b479 13 r50.2 r1.1 (0 : Int32) (0 : Int32))) else fL_errors_b479 13 r47.2 r1.1 (0 : Int32) (0 : Int32))) else fL_errors_b479 13 r44.2 r1.1 (0 : Int32) (0 : Int32))) else fL_errors_b479 13 r41.2 r1.1 (0 : Int32) (0 : Int32))) else fL_errors_b479 13 r38.2 r1.1 (0 : Int32) (0 : Int32))) else fL_errors_b479 13 r35.2 r1.1 (0 : Int32) (0 : Int32))) else fL_errors_b479 13 r32.2 r1.1 (0 : Int32) (0 : Int32))) else fL_errors_b479 13 r29.2 r1.1 (0 : Int32) (0 : Int32))) else fL_errors_b479 13 r26.2 r1.1 (0 : Int32) (0 : Int32))) else fL_errors_b479 13 r23.2 r1.1 (0 : Int32) (0 : Int32))) else fL_errors_b479 13 r20.2 r1.1 (0 : Int32) (0 : Int32))) else fL_errors_b479 13 r17.2 r1.1 (0 : Int32) (0 : Int32))) else fL_errors_b479 13 r14.2 r1.1 (0 : Int32) (0 : Int32))) else fL_errors_b479 13 r11.2 r1.1 (0 : Int32) (0 : Int32))) else fL_errors_b479 13 r8.2 r1.1 (0 : Int32) (0 : Int32))) else fL_errors_b479 13 r5.2 r1.1 (0 : Int32) (0 : Int32)))))
set_option maxHeartbeats 4000000 in
set_option maxRecDepth 100000 in
theorem mL_errors (l : Launch) (hl0 : l.stackTraces = false) (X : x_T) (sz : Nat) (σ : x_S) (r : (Int32 × x_S)) (h : fL_errors σ  = some r) : Met l yL_errors (x_ws yL_errors cL_errors 8 (some .boolean)) rm_L_errors (x_PcT X σ sz [.ref (X.2.2 10 32)]) (x_Qi X r.1 r.2 sz) 238 1428 (x_A X sz) := by
  refine Met.ofW (cc := cL_errors) (maxL := 8) (ret := (some .boolean)) (by decide) rfl ?_
  intro p e s m args below meth c s₁ B hml hv
  obtain ⟨F, Z, hI, rfl, rfl⟩ := xm_begin hl0 B hml hv
  replace F : x_F p s m _ meth c cL_errors 8 RL (some .boolean) := F
  have hx := F.1
  have hb := F.2.1
  have hml := F.2.2.1
  have hown := F.2.2.2.1
  have hts := F.2.2.2.2.1
  refine x_entry (vs := [.ref (X.2.2 10 32)]) (n := 8) (Nat.le_of_ble_eq_true rfl) (fun ls hl => ?_)
  replace hl : lv_has ls 8 [(0, .ref (X.2.2 10 32))] := hl
  unfold fL_errors at h
  refine lv_aload_n hx hb dL_errors_0 rfl (lv_at hl 0 rfl) ?_
  obtain ⟨r1, h2, h⟩ := x_bnd h
  refine x_acl hI (x_runV (rest := []) F hI (mX6_digest l X _ σ  r1 h2) g_L_136 ⟨rfl, hd_X6_digest⟩ ⟨by decide, by decide⟩ ⟨rfl, rfl⟩ (x_inO (by decide)) rfl rfl rfl rfl hl.1 rfl (Nat.le_of_ble_eq_true rfl) dL_errors_1 ⟨(by show _ ≤ (238 : Nat); omega), (by show _ ≤ (1428 : Nat); omega)⟩) (fun H locs hI => ?_)
  refine lv_lstore_n (lv' := [(1, .long r1.1), (0, .ref (X.2.2 10 32))]) hx hb dL_errors_4 rfl hl (by decide) rfl (fun ls hl => ?_)
  refine lv_aload_n hx hb dL_errors_5 rfl (lv_at hl 1 rfl) ?_
  obtain ⟨r3, h4, h⟩ := x_bnd h
  refine x_aci hI (x_runV (rest := []) F hI (mX6_messages l X _ r1.2  r3 h4) g_L_140 ⟨rfl, hd_X6_messages⟩ ⟨by decide, by decide⟩ ⟨rfl, rfl⟩ (x_inO (by decide)) rfl rfl rfl rfl hl.1 rfl (Nat.le_of_ble_eq_true rfl) dL_errors_6 ⟨(by show _ ≤ (238 : Nat); omega), (by show _ ≤ (1428 : Nat); omega)⟩) (fun H locs hI => ?_)
  refine lv_istore_n (lv' := [(3, .int r3), (1, .long r1.1), (0, .ref (X.2.2 10 32))]) hx hb dL_errors_9 rfl hl (by decide) rfl (fun ls hl => ?_)
  refine lv_aload_n hx hb dL_errors_10 rfl (lv_at hl 2 rfl) ?_
  refine lv_bipush (v := 12) hx hb dL_errors_11 (by decide) ?_
  obtain ⟨r5, h6, h⟩ := x_bnd h
  refine xm_acl hI (xw_run (rest := []) F Z.2 hI (mL_seek l Z.1 X _ r1.2 (12 : Int32) r5 h6) gw_L_143 hd_L_seek ⟨by decide, by decide⟩ ⟨rfl, rfl⟩ rfl hl.1 rfl (Nat.le_of_ble_eq_true rfl) dL_errors_13 ⟨(by show _ ≤ (238 : Nat); omega), (by show _ ≤ (1428 : Nat); omega)⟩) (fun H locs hI => ?_)
  refine lv_ldc2 (v := -9000000000000000001) hx hb hown (hts _ u_cl_L_17) dL_errors_16 ?_
  refine W.lcmp hx hb dL_errors_19 ?_
  refine lv_if_ne (tgt := 473) hx hb dL_errors_20 (by decide) (fun c7 => ?_) (fun c7 => ?_)
  · have h := x_iff h c7
    refine lv_iconst (v := 0) hx hb dL_errors_473 (by decide) ?_
    refine lv_istore (lv' := [(4, .int (0)), (3, .int r3), (1, .long r1.1), (0, .ref (X.2.2 10 32))]) hx hb dL_errors_474 hl (by decide) rfl (fun ls hl => ?_)
    refine lv_iconst (v := 0) hx hb dL_errors_476 (by decide) ?_
    refine lv_istore (lv' := [(5, .int (0)), (4, .int (0)), (3, .int r3), (1, .long r1.1), (0, .ref (X.2.2 10 32))]) hx hb dL_errors_477 hl (by decide) rfl (fun ls hl => ?_)
    exact wL_errors_b479 F Z 13 r5.2 r1.1 (0 : Int32) (0 : Int32) _ _ _ _ _ ⟨by omega, by omega⟩ h hI (lv_sub hl [4, 3, 1, 0] rfl)
  · have h := x_ift h c7
    refine lv_aload_n hx hb dL_errors_23 rfl (lv_at hl 2 rfl) ?_
    refine lv_iconst (v := (-1)) hx hb dL_errors_24 (by decide) ?_
    obtain ⟨r8, h9, h⟩ := x_bnd h
    refine xm_acl hI (xw_run (rest := []) F Z.2 hI (mL_leave l Z.1 X _ r5.2 (-1 : Int32) r8 h9) gw_L_148 hd_L_leave ⟨by decide, by decide⟩ ⟨rfl, rfl⟩ rfl hl.1 rfl (Nat.le_of_ble_eq_true rfl) dL_errors_25 ⟨(by show _ ≤ (238 : Nat); omega), (by show _ ≤ (1428 : Nat); omega)⟩) (fun H locs hI => ?_)
    refine lv_ldc2 (v := -9000000000000000001) hx hb hown (hts _ u_cl_L_17) dL_errors_28 ?_
    refine W.lcmp hx hb dL_errors_31 ?_
    refine lv_if_ne (tgt := 473) hx hb dL_errors_32 (by decide) (fun c10 => ?_) (fun c10 => ?_)
    · have h := x_iff h c10
      refine lv_iconst (v := 0) hx hb dL_errors_473 (by decide) ?_
      refine lv_istore (lv' := [(4, .int (0)), (3, .int r3), (1, .long r1.1), (0, .ref (X.2.2 10 32))]) hx hb dL_errors_474 hl (by decide) rfl (fun ls hl => ?_)
      refine lv_iconst (v := 0) hx hb dL_errors_476 (by decide) ?_
      refine lv_istore (lv' := [(5, .int (0)), (4, .int (0)), (3, .int r3), (1, .long r1.1), (0, .ref (X.2.2 10 32))]) hx hb dL_errors_477 hl (by decide) rfl (fun ls hl => ?_)
      exact wL_errors_b479 F Z 13 r8.2 r1.1 (0 : Int32) (0 : Int32) _ _ _ _ _ ⟨by omega, by omega⟩ h hI (lv_sub hl [4, 3, 1, 0] rfl)
    · have h := x_ift h c10
      refine lv_aload_n hx hb dL_errors_35 rfl (lv_at hl 2 rfl) ?_
      refine lv_bipush (v := 12) hx hb dL_errors_36 (by decide) ?_
      obtain ⟨r11, h12, h⟩ := x_bnd h
      refine xm_acl hI (xw_run (rest := []) F Z.2 hI (mL_giveUp l Z.1 X _ r8.2 (12 : Int32) r11 h12) gw_L_150 hd_L_giveUp ⟨by decide, by decide⟩ ⟨rfl, rfl⟩ rfl hl.1 rfl (Nat.le_of_ble_eq_true rfl) dL_errors_38 ⟨(by show _ ≤ (238 : Nat); omega), (by show _ ≤ (1428 : Nat); omega)⟩) (fun H locs hI => ?_)
      refine lv_ldc2 (v := -9000000000000000001) hx hb hown (hts _ u_cl_L_17) dL_errors_41 ?_
      refine W.lcmp hx hb dL_errors_44 ?_
      refine lv_if_ne (tgt := 473) hx hb dL_errors_45 (by decide) (fun c13 => ?_) (fun c13 => ?_)
      · have h := x_iff h c13
        refine lv_iconst (v := 0) hx hb dL_errors_473 (by decide) ?_
        refine lv_istore (lv' := [(4, .int (0)), (3, .int r3), (1, .long r1.1), (0, .ref (X.2.2 10 32))]) hx hb dL_errors_474 hl (by decide) rfl (fun ls hl => ?_)
        refine lv_iconst (v := 0) hx hb dL_errors_476 (by decide) ?_
        refine lv_istore (lv' := [(5, .int (0)), (4, .int (0)), (3, .int r3), (1, .long r1.1), (0, .ref (X.2.2 10 32))]) hx hb dL_errors_477 hl (by decide) rfl (fun ls hl => ?_)
        exact wL_errors_b479 F Z 13 r11.2 r1.1 (0 : Int32) (0 : Int32) _ _ _ _ _ ⟨by omega, by omega⟩ h hI (lv_sub hl [4, 3, 1, 0] rfl)
      · have h := x_ift h c13
        refine lv_aload_n hx hb dL_errors_48 rfl (lv_at hl 2 rfl) ?_
        refine lv_iconst (v := (-1)) hx hb dL_errors_49 (by decide) ?_
        obtain ⟨r14, h15, h⟩ := x_bnd h
        refine xm_acl hI (xw_run (rest := []) F Z.2 hI (mL_renew l Z.1 X _ r11.2 (-1 : Int32) r14 h15) gw_L_152 hd_L_renew ⟨by decide, by decide⟩ ⟨rfl, rfl⟩ rfl hl.1 rfl (Nat.le_of_ble_eq_true rfl) dL_errors_50 ⟨(by show _ ≤ (238 : Nat); omega), (by show _ ≤ (1428 : Nat); omega)⟩) (fun H locs hI => ?_)
        refine lv_ldc2 (v := -9000000000000000001) hx hb hown (hts _ u_cl_L_17) dL_errors_53 ?_
        refine W.lcmp hx hb dL_errors_56 ?_
        refine lv_if_ne (tgt := 473) hx hb dL_errors_57 (by decide) (fun c16 => ?_) (fun c16 => ?_)
        · have h := x_iff h c16
          refine lv_iconst (v := 0) hx hb dL_errors_473 (by decide) ?_
          refine lv_istore (lv' := [(4, .int (0)), (3, .int r3), (1, .long r1.1), (0, .ref (X.2.2 10 32))]) hx hb dL_errors_474 hl (by decide) rfl (fun ls hl => ?_)
          refine lv_iconst (v := 0) hx hb dL_errors_476 (by decide) ?_
          refine lv_istore (lv' := [(5, .int (0)), (4, .int (0)), (3, .int r3), (1, .long r1.1), (0, .ref (X.2.2 10 32))]) hx hb dL_errors_477 hl (by decide) rfl (fun ls hl => ?_)
          exact wL_errors_b479 F Z 13 r14.2 r1.1 (0 : Int32) (0 : Int32) _ _ _ _ _ ⟨by omega, by omega⟩ h hI (lv_sub hl [4, 3, 1, 0] rfl)
        · have h := x_ift h c16
          refine lv_aload_n hx hb dL_errors_60 rfl (lv_at hl 2 rfl) ?_
          refine lv_bipush (v := 12) hx hb dL_errors_61 (by decide) ?_
          refine lv_iconst (v := 0) hx hb dL_errors_63 (by decide) ?_
          obtain ⟨r17, h18, h⟩ := x_bnd h
          refine xm_acl hI (xw_run (rest := []) F Z.2 hI (mL_reserve l Z.1 X _ r14.2 (12 : Int32) (0 : Int32) r17 h18) gw_L_154 hd_L_reserve ⟨by decide, by decide⟩ ⟨rfl, rfl⟩ rfl hl.1 rfl (Nat.le_of_ble_eq_true rfl) dL_errors_64 ⟨(by show _ ≤ (238 : Nat); omega), (by show _ ≤ (1428 : Nat); omega)⟩) (fun H locs hI => ?_)
          refine lv_ldc2 (v := -9000000000000000001) hx hb hown (hts _ u_cl_L_17) dL_errors_67 ?_
          refine W.lcmp hx hb dL_errors_70 ?_
          refine lv_if_ne (tgt := 473) hx hb dL_errors_71 (by decide) (fun c19 => ?_) (fun c19 => ?_)
          · have h := x_iff h c19
            refine lv_iconst (v := 0) hx hb dL_errors_473 (by decide) ?_
            refine lv_istore (lv' := [(4, .int (0)), (3, .int r3), (1, .long r1.1), (0, .ref (X.2.2 10 32))]) hx hb dL_errors_474 hl (by decide) rfl (fun ls hl => ?_)
            refine lv_iconst (v := 0) hx hb dL_errors_476 (by decide) ?_
            refine lv_istore (lv' := [(5, .int (0)), (4, .int (0)), (3, .int r3), (1, .long r1.1), (0, .ref (X.2.2 10 32))]) hx hb dL_errors_477 hl (by decide) rfl (fun ls hl => ?_)
            exact wL_errors_b479 F Z 13 r17.2 r1.1 (0 : Int32) (0 : Int32) _ _ _ _ _ ⟨by omega, by omega⟩ h hI (lv_sub hl [4, 3, 1, 0] rfl)
          · have h := x_ift h c19
            refine lv_aload_n hx hb dL_errors_74 rfl (lv_at hl 2 rfl) ?_
            refine lv_iconst (v := 0) hx hb dL_errors_75 (by decide) ?_
            refine lv_iconst (v := (-1)) hx hb dL_errors_76 (by decide) ?_
            obtain ⟨r20, h21, h⟩ := x_bnd h
            refine xm_acl hI (xw_run (rest := []) F Z.2 hI (mL_reserve l Z.1 X _ r17.2 (0 : Int32) (-1 : Int32) r20 h21) gw_L_154 hd_L_reserve ⟨by decide, by decide⟩ ⟨rfl, rfl⟩ rfl hl.1 rfl (Nat.le_of_ble_eq_true rfl) dL_errors_77 ⟨(by show _ ≤ (238 : Nat); omega), (by show _ ≤ (1428 : Nat); omega)⟩) (fun H locs hI => ?_)
            refine lv_ldc2 (v := -9000000000000000001) hx hb hown (hts _ u_cl_L_17) dL_errors_80 ?_
            refine W.lcmp hx hb dL_errors_83 ?_
            refine lv_if_ne (tgt := 473) hx hb dL_errors_84 (by decide) (fun c22 => ?_) (fun c22 => ?_)
            · have h := x_iff h c22
              refine lv_iconst (v := 0) hx hb dL_errors_473 (by decide) ?_
              refine lv_istore (lv' := [(4, .int (0)), (3, .int r3), (1, .long r1.1), (0, .ref (X.2.2 10 32))]) hx hb dL_errors_474 hl (by decide) rfl (fun ls hl => ?_)
              refine lv_iconst (v := 0) hx hb dL_errors_476 (by decide) ?_
              refine lv_istore (lv' := [(5, .int (0)), (4, .int (0)), (3, .int r3), (1, .long r1.1), (0, .ref (X.2.2 10 32))]) hx hb dL_errors_477 hl (by decide) rfl (fun ls hl => ?_)
              exact wL_errors_b479 F Z 13 r20.2 r1.1 (0 : Int32) (0 : Int32) _ _ _ _ _ ⟨by omega, by omega⟩ h hI (lv_sub hl [4, 3, 1, 0] rfl)
            · have h := x_ift h c22
              refine lv_aload_n hx hb dL_errors_87 rfl (lv_at hl 2 rfl) ?_
              refine lv_bipush (v := 12) hx hb dL_errors_88 (by decide) ?_
              obtain ⟨r23, h24, h⟩ := x_bnd h
              refine xm_acl hI (xw_run (rest := []) F Z.2 hI (mL_unreserve l Z.1 X _ r20.2 (12 : Int32) r23 h24) gw_L_157 hd_L_unreserve ⟨by decide, by decide⟩ ⟨rfl, rfl⟩ rfl hl.1 rfl (Nat.le_of_ble_eq_true rfl) dL_errors_90 ⟨(by show _ ≤ (238 : Nat); omega), (by show _ ≤ (1428 : Nat); omega)⟩) (fun H locs hI => ?_)
              refine lv_ldc2 (v := -9000000000000000001) hx hb hown (hts _ u_cl_L_17) dL_errors_93 ?_
              refine W.lcmp hx hb dL_errors_96 ?_
              refine lv_if_ne (tgt := 473) hx hb dL_errors_97 (by decide) (fun c25 => ?_) (fun c25 => ?_)
              · have h := x_iff h c25
                refine lv_iconst (v := 0) hx hb dL_errors_473 (by decide) ?_
                refine lv_istore (lv' := [(4, .int (0)), (3, .int r3), (1, .long r1.1), (0, .ref (X.2.2 10 32))]) hx hb dL_errors_474 hl (by decide) rfl (fun ls hl => ?_)
                refine lv_iconst (v := 0) hx hb dL_errors_476 (by decide) ?_
                refine lv_istore (lv' := [(5, .int (0)), (4, .int (0)), (3, .int r3), (1, .long r1.1), (0, .ref (X.2.2 10 32))]) hx hb dL_errors_477 hl (by decide) rfl (fun ls hl => ?_)
                exact wL_errors_b479 F Z 13 r23.2 r1.1 (0 : Int32) (0 : Int32) _ _ _ _ _ ⟨by omega, by omega⟩ h hI (lv_sub hl [4, 3, 1, 0] rfl)
              · have h := x_ift h c25
                refine lv_aload_n hx hb dL_errors_100 rfl (lv_at hl 2 rfl) ?_
                refine lv_bipush (v := 16) hx hb dL_errors_101 (by decide) ?_
                obtain ⟨r26, h27, h⟩ := x_bnd h
                refine xm_acl hI (xw_run (rest := []) F Z.2 hI (mL_turnGhost l Z.1 X _ r23.2 (16 : Int32) r26 h27) gw_L_159 hd_L_turnGhost ⟨by decide, by decide⟩ ⟨rfl, rfl⟩ rfl hl.1 rfl (Nat.le_of_ble_eq_true rfl) dL_errors_103 ⟨(by show _ ≤ (238 : Nat); omega), (by show _ ≤ (1428 : Nat); omega)⟩) (fun H locs hI => ?_)
                refine lv_ldc2 (v := -9000000000000000001) hx hb hown (hts _ u_cl_L_17) dL_errors_106 ?_
                refine W.lcmp hx hb dL_errors_109 ?_
                refine lv_if_ne (tgt := 473) hx hb dL_errors_110 (by decide) (fun c28 => ?_) (fun c28 => ?_)
                · have h := x_iff h c28
                  refine lv_iconst (v := 0) hx hb dL_errors_473 (by decide) ?_
                  refine lv_istore (lv' := [(4, .int (0)), (3, .int r3), (1, .long r1.1), (0, .ref (X.2.2 10 32))]) hx hb dL_errors_474 hl (by decide) rfl (fun ls hl => ?_)
                  refine lv_iconst (v := 0) hx hb dL_errors_476 (by decide) ?_
                  refine lv_istore (lv' := [(5, .int (0)), (4, .int (0)), (3, .int r3), (1, .long r1.1), (0, .ref (X.2.2 10 32))]) hx hb dL_errors_477 hl (by decide) rfl (fun ls hl => ?_)
                  exact wL_errors_b479 F Z 13 r26.2 r1.1 (0 : Int32) (0 : Int32) _ _ _ _ _ ⟨by omega, by omega⟩ h hI (lv_sub hl [4, 3, 1, 0] rfl)
                · have h := x_ift h c28
                  refine lv_aload_n hx hb dL_errors_113 rfl (lv_at hl 2 rfl) ?_
                  refine lv_sipush (v := 201) hx hb dL_errors_114 (by decide) ?_
                  obtain ⟨r29, h30, h⟩ := x_bnd h
                  refine xm_acl hI (xw_run (rest := []) F Z.2 hI (mL_changeLease l Z.1 X _ r26.2 (201 : Int32) r29 h30) gw_L_161 hd_L_changeLease ⟨by decide, by decide⟩ ⟨rfl, rfl⟩ rfl hl.1 rfl (Nat.le_of_ble_eq_true rfl) dL_errors_117 ⟨(by show _ ≤ (238 : Nat); omega), (by show _ ≤ (1428 : Nat); omega)⟩) (fun H locs hI => ?_)
                  refine lv_ldc2 (v := -9000000000000000002) hx hb hown (hts _ u_cl_L_44) dL_errors_120 ?_
                  refine W.lcmp hx hb dL_errors_123 ?_
                  refine lv_if_ne (tgt := 473) hx hb dL_errors_124 (by decide) (fun c31 => ?_) (fun c31 => ?_)
                  · have h := x_iff h c31
                    refine lv_iconst (v := 0) hx hb dL_errors_473 (by decide) ?_
                    refine lv_istore (lv' := [(4, .int (0)), (3, .int r3), (1, .long r1.1), (0, .ref (X.2.2 10 32))]) hx hb dL_errors_474 hl (by decide) rfl (fun ls hl => ?_)
                    refine lv_iconst (v := 0) hx hb dL_errors_476 (by decide) ?_
                    refine lv_istore (lv' := [(5, .int (0)), (4, .int (0)), (3, .int r3), (1, .long r1.1), (0, .ref (X.2.2 10 32))]) hx hb dL_errors_477 hl (by decide) rfl (fun ls hl => ?_)
                    exact wL_errors_b479 F Z 13 r29.2 r1.1 (0 : Int32) (0 : Int32) _ _ _ _ _ ⟨by omega, by omega⟩ h hI (lv_sub hl [4, 3, 1, 0] rfl)
                  · have h := x_ift h c31
                    refine lv_aload_n hx hb dL_errors_127 rfl (lv_at hl 2 rfl) ?_
                    refine lv_iconst (v := 0) hx hb dL_errors_128 (by decide) ?_
                    obtain ⟨r32, h33, h⟩ := x_bnd h
                    refine xm_acl hI (xw_run (rest := []) F Z.2 hI (mL_changeHold l Z.1 X _ r29.2 (0 : Int32) r32 h33) gw_L_163 hd_L_changeHold ⟨by decide, by decide⟩ ⟨rfl, rfl⟩ rfl hl.1 rfl (Nat.le_of_ble_eq_true rfl) dL_errors_129 ⟨(by show _ ≤ (238 : Nat); omega), (by show _ ≤ (1428 : Nat); omega)⟩) (fun H locs hI => ?_)
                    refine lv_ldc2 (v := -9000000000000000002) hx hb hown (hts _ u_cl_L_44) dL_errors_132 ?_
                    refine W.lcmp hx hb dL_errors_135 ?_
                    refine lv_if_ne (tgt := 473) hx hb dL_errors_136 (by decide) (fun c34 => ?_) (fun c34 => ?_)
                    · have h := x_iff h c34
                      refine lv_iconst (v := 0) hx hb dL_errors_473 (by decide) ?_
                      refine lv_istore (lv' := [(4, .int (0)), (3, .int r3), (1, .long r1.1), (0, .ref (X.2.2 10 32))]) hx hb dL_errors_474 hl (by decide) rfl (fun ls hl => ?_)
                      refine lv_iconst (v := 0) hx hb dL_errors_476 (by decide) ?_
                      refine lv_istore (lv' := [(5, .int (0)), (4, .int (0)), (3, .int r3), (1, .long r1.1), (0, .ref (X.2.2 10 32))]) hx hb dL_errors_477 hl (by decide) rfl (fun ls hl => ?_)
                      exact wL_errors_b479 F Z 13 r32.2 r1.1 (0 : Int32) (0 : Int32) _ _ _ _ _ ⟨by omega, by omega⟩ h hI (lv_sub hl [4, 3, 1, 0] rfl)
                    · have h := x_ift h c34
                      refine lv_aload_n hx hb dL_errors_139 rfl (lv_at hl 2 rfl) ?_
                      refine lv_sipush (v := 201) hx hb dL_errors_140 (by decide) ?_
                      obtain ⟨r35, h36, h⟩ := x_bnd h
                      refine xm_acl hI (xw_run (rest := []) F Z.2 hI (mL_changeShut l Z.1 X _ r32.2 (201 : Int32) r35 h36) gw_L_165 hd_L_changeShut ⟨by decide, by decide⟩ ⟨rfl, rfl⟩ rfl hl.1 rfl (Nat.le_of_ble_eq_true rfl) dL_errors_143 ⟨(by show _ ≤ (238 : Nat); omega), (by show _ ≤ (1428 : Nat); omega)⟩) (fun H locs hI => ?_)
                      refine lv_ldc2 (v := -9000000000000000002) hx hb hown (hts _ u_cl_L_44) dL_errors_146 ?_
                      refine W.lcmp hx hb dL_errors_149 ?_
                      refine lv_if_ne (tgt := 473) hx hb dL_errors_150 (by decide) (fun c37 => ?_) (fun c37 => ?_)
                      · have h := x_iff h c37
                        refine lv_iconst (v := 0) hx hb dL_errors_473 (by decide) ?_
                        refine lv_istore (lv' := [(4, .int (0)), (3, .int r3), (1, .long r1.1), (0, .ref (X.2.2 10 32))]) hx hb dL_errors_474 hl (by decide) rfl (fun ls hl => ?_)
                        refine lv_iconst (v := 0) hx hb dL_errors_476 (by decide) ?_
                        refine lv_istore (lv' := [(5, .int (0)), (4, .int (0)), (3, .int r3), (1, .long r1.1), (0, .ref (X.2.2 10 32))]) hx hb dL_errors_477 hl (by decide) rfl (fun ls hl => ?_)
                        exact wL_errors_b479 F Z 13 r35.2 r1.1 (0 : Int32) (0 : Int32) _ _ _ _ _ ⟨by omega, by omega⟩ h hI (lv_sub hl [4, 3, 1, 0] rfl)
                      · have h := x_ift h c37
                        refine lv_aload_n hx hb dL_errors_153 rfl (lv_at hl 2 rfl) ?_
                        refine lv_iload_n hx hb dL_errors_154 rfl (lv_at hl 0 rfl) ?_
                        obtain ⟨r38, h39, h⟩ := x_bnd h
                        refine xm_acl hI (xw_run (rest := []) F Z.2 hI (mL_deliver l Z.1 X _ r35.2 r3 r38 h39) gw_L_167 hd_L_deliver ⟨by decide, by decide⟩ ⟨rfl, rfl⟩ rfl hl.1 rfl (Nat.le_of_ble_eq_true rfl) dL_errors_155 ⟨(by show _ ≤ (238 : Nat); omega), (by show _ ≤ (1428 : Nat); omega)⟩) (fun H locs hI => ?_)
                        refine lv_ldc2 (v := -9000000000000000001) hx hb hown (hts _ u_cl_L_17) dL_errors_158 ?_
                        refine W.lcmp hx hb dL_errors_161 ?_
                        refine lv_if_ne (tgt := 473) hx hb dL_errors_162 (by decide) (fun c40 => ?_) (fun c40 => ?_)
                        · have h := x_iff h c40
                          refine lv_iconst (v := 0) hx hb dL_errors_473 (by decide) ?_
                          refine lv_istore (lv' := [(4, .int (0)), (3, .int r3), (1, .long r1.1), (0, .ref (X.2.2 10 32))]) hx hb dL_errors_474 hl (by decide) rfl (fun ls hl => ?_)
                          refine lv_iconst (v := 0) hx hb dL_errors_476 (by decide) ?_
                          refine lv_istore (lv' := [(5, .int (0)), (4, .int (0)), (3, .int r3), (1, .long r1.1), (0, .ref (X.2.2 10 32))]) hx hb dL_errors_477 hl (by decide) rfl (fun ls hl => ?_)
                          exact wL_errors_b479 F Z 13 r38.2 r1.1 (0 : Int32) (0 : Int32) _ _ _ _ _ ⟨by omega, by omega⟩ h hI (lv_sub hl [4, 3, 1, 0] rfl)
                        · have h := x_ift h c40
                          refine lv_aload_n hx hb dL_errors_165 rfl (lv_at hl 2 rfl) ?_
                          refine lv_iconst (v := (-1)) hx hb dL_errors_166 (by decide) ?_
                          obtain ⟨r41, h42, h⟩ := x_bnd h
                          refine xm_acl hI (xw_run (rest := []) F Z.2 hI (mL_deliver l Z.1 X _ r38.2 (-1 : Int32) r41 h42) gw_L_167 hd_L_deliver ⟨by decide, by decide⟩ ⟨rfl, rfl⟩ rfl hl.1 rfl (Nat.le_of_ble_eq_true rfl) dL_errors_167 ⟨(by show _ ≤ (238 : Nat); omega), (by show _ ≤ (1428 : Nat); omega)⟩) (fun H locs hI => ?_)
                          refine lv_ldc2 (v := -9000000000000000001) hx hb hown (hts _ u_cl_L_17) dL_errors_170 ?_
                          refine W.lcmp hx hb dL_errors_173 ?_
                          refine lv_if_ne (tgt := 473) hx hb dL_errors_174 (by decide) (fun c43 => ?_) (fun c43 => ?_)
                          · have h := x_iff h c43
                            refine lv_iconst (v := 0) hx hb dL_errors_473 (by decide) ?_
                            refine lv_istore (lv' := [(4, .int (0)), (3, .int r3), (1, .long r1.1), (0, .ref (X.2.2 10 32))]) hx hb dL_errors_474 hl (by decide) rfl (fun ls hl => ?_)
                            refine lv_iconst (v := 0) hx hb dL_errors_476 (by decide) ?_
                            refine lv_istore (lv' := [(5, .int (0)), (4, .int (0)), (3, .int r3), (1, .long r1.1), (0, .ref (X.2.2 10 32))]) hx hb dL_errors_477 hl (by decide) rfl (fun ls hl => ?_)
                            exact wL_errors_b479 F Z 13 r41.2 r1.1 (0 : Int32) (0 : Int32) _ _ _ _ _ ⟨by omega, by omega⟩ h hI (lv_sub hl [4, 3, 1, 0] rfl)
                          · have h := x_ift h c43
                            refine lv_aload_n hx hb dL_errors_177 rfl (lv_at hl 2 rfl) ?_
                            refine lv_iload_n hx hb dL_errors_178 rfl (lv_at hl 0 rfl) ?_
                            obtain ⟨r44, h45, h⟩ := x_bnd h
                            refine xm_acl hI (xw_run (rest := []) F Z.2 hI (mL_lose l Z.1 X _ r41.2 r3 r44 h45) gw_L_169 hd_L_lose ⟨by decide, by decide⟩ ⟨rfl, rfl⟩ rfl hl.1 rfl (Nat.le_of_ble_eq_true rfl) dL_errors_179 ⟨(by show _ ≤ (238 : Nat); omega), (by show _ ≤ (1428 : Nat); omega)⟩) (fun H locs hI => ?_)
                            refine lv_ldc2 (v := -9000000000000000001) hx hb hown (hts _ u_cl_L_17) dL_errors_182 ?_
                            refine W.lcmp hx hb dL_errors_185 ?_
                            refine lv_if_ne (tgt := 473) hx hb dL_errors_186 (by decide) (fun c46 => ?_) (fun c46 => ?_)
                            · have h := x_iff h c46
                              refine lv_iconst (v := 0) hx hb dL_errors_473 (by decide) ?_
                              refine lv_istore (lv' := [(4, .int (0)), (3, .int r3), (1, .long r1.1), (0, .ref (X.2.2 10 32))]) hx hb dL_errors_474 hl (by decide) rfl (fun ls hl => ?_)
                              refine lv_iconst (v := 0) hx hb dL_errors_476 (by decide) ?_
                              refine lv_istore (lv' := [(5, .int (0)), (4, .int (0)), (3, .int r3), (1, .long r1.1), (0, .ref (X.2.2 10 32))]) hx hb dL_errors_477 hl (by decide) rfl (fun ls hl => ?_)
                              exact wL_errors_b479 F Z 13 r44.2 r1.1 (0 : Int32) (0 : Int32) _ _ _ _ _ ⟨by omega, by omega⟩ h hI (lv_sub hl [4, 3, 1, 0] rfl)
                            · have h := x_ift h c46
                              refine lv_aload_n hx hb dL_errors_189 rfl (lv_at hl 2 rfl) ?_
                              refine lv_iconst (v := 0) hx hb dL_errors_190 (by decide) ?_
                              obtain ⟨r47, h48, h⟩ := x_bnd h
                              refine xm_acl hI (xw_run (rest := []) F Z.2 hI (mL_tick l Z.1 X _ r44.2 (0 : Int32) r47 h48) gw_L_171 hd_L_tick ⟨by decide, by decide⟩ ⟨rfl, rfl⟩ rfl hl.1 rfl (Nat.le_of_ble_eq_true rfl) dL_errors_191 ⟨(by show _ ≤ (238 : Nat); omega), (by show _ ≤ (1428 : Nat); omega)⟩) (fun H locs hI => ?_)
                              refine lv_ldc2 (v := -9000000000000000002) hx hb hown (hts _ u_cl_L_44) dL_errors_194 ?_
                              refine W.lcmp hx hb dL_errors_197 ?_
                              refine lv_if_ne (tgt := 473) hx hb dL_errors_198 (by decide) (fun c49 => ?_) (fun c49 => ?_)
                              · have h := x_iff h c49
                                refine lv_iconst (v := 0) hx hb dL_errors_473 (by decide) ?_
                                refine lv_istore (lv' := [(4, .int (0)), (3, .int r3), (1, .long r1.1), (0, .ref (X.2.2 10 32))]) hx hb dL_errors_474 hl (by decide) rfl (fun ls hl => ?_)
                                refine lv_iconst (v := 0) hx hb dL_errors_476 (by decide) ?_
                                refine lv_istore (lv' := [(5, .int (0)), (4, .int (0)), (3, .int r3), (1, .long r1.1), (0, .ref (X.2.2 10 32))]) hx hb dL_errors_477 hl (by decide) rfl (fun ls hl => ?_)
                                exact wL_errors_b479 F Z 13 r47.2 r1.1 (0 : Int32) (0 : Int32) _ _ _ _ _ ⟨by omega, by omega⟩ h hI (lv_sub hl [4, 3, 1, 0] rfl)
                              · have h := x_ift h c49
                                refine lv_aload_n hx hb dL_errors_201 rfl (lv_at hl 2 rfl) ?_
                                refine lv_bipush (v := 127) hx hb dL_errors_202 (by decide) ?_
                                obtain ⟨r50, h51, h⟩ := x_bnd h
                                refine xm_acl hI (xw_run (rest := []) F Z.2 hI (mL_append l Z.1 X _ r47.2 (127 : Int32) r50 h51) gw_L_173 hd_L_append ⟨by decide, by decide⟩ ⟨rfl, rfl⟩ rfl hl.1 rfl (Nat.le_of_ble_eq_true rfl) dL_errors_204 ⟨(by show _ ≤ (238 : Nat); omega), (by show _ ≤ (1428 : Nat); omega)⟩) (fun H locs hI => ?_)
                                refine lv_ldc2 (v := -9000000000000000002) hx hb hown (hts _ u_cl_L_44) dL_errors_207 ?_
                                refine W.lcmp hx hb dL_errors_210 ?_
                                refine lv_if_ne (tgt := 473) hx hb dL_errors_211 (by decide) (fun c52 => ?_) (fun c52 => ?_)
                                · have h := x_iff h c52
                                  refine lv_iconst (v := 0) hx hb dL_errors_473 (by decide) ?_
                                  refine lv_istore (lv' := [(4, .int (0)), (3, .int r3), (1, .long r1.1), (0, .ref (X.2.2 10 32))]) hx hb dL_errors_474 hl (by decide) rfl (fun ls hl => ?_)
                                  refine lv_iconst (v := 0) hx hb dL_errors_476 (by decide) ?_
                                  refine lv_istore (lv' := [(5, .int (0)), (4, .int (0)), (3, .int r3), (1, .long r1.1), (0, .ref (X.2.2 10 32))]) hx hb dL_errors_477 hl (by decide) rfl (fun ls hl => ?_)
                                  exact wL_errors_b479 F Z 13 r50.2 r1.1 (0 : Int32) (0 : Int32) _ _ _ _ _ ⟨by omega, by omega⟩ h hI (lv_sub hl [4, 3, 1, 0] rfl)
                                · have h := x_ift h c52
                                  refine lv_aload_n hx hb dL_errors_214 rfl (lv_at hl 2 rfl) ?_
                                  refine lv_iconst (v := (-1)) hx hb dL_errors_215 (by decide) ?_
                                  obtain ⟨r53, h54, h⟩ := x_bnd h
                                  refine xm_acl hI (xw_run (rest := []) F Z.2 hI (mL_keep l Z.1 X _ r50.2 (-1 : Int32) r53 h54) gw_L_175 hd_L_keep ⟨by decide, by decide⟩ ⟨rfl, rfl⟩ rfl hl.1 rfl (Nat.le_of_ble_eq_true rfl) dL_errors_216 ⟨(by show _ ≤ (238 : Nat); omega), (by show _ ≤ (1428 : Nat); omega)⟩) (fun H locs hI => ?_)
                                  refine lv_ldc2 (v := -9000000000000000002) hx hb hown (hts _ u_cl_L_44) dL_errors_219 ?_
                                  refine W.lcmp hx hb dL_errors_222 ?_
                                  refine lv_if_ne (tgt := 473) hx hb dL_errors_223 (by decide) (fun c55 => ?_) (fun c55 => ?_)
                                  · have h := x_iff h c55
                                    refine lv_iconst (v := 0) hx hb dL_errors_473 (by decide) ?_
                                    refine lv_istore (lv' := [(4, .int (0)), (3, .int r3), (1, .long r1.1), (0, .ref (X.2.2 10 32))]) hx hb dL_errors_474 hl (by decide) rfl (fun ls hl => ?_)
                                    refine lv_iconst (v := 0) hx hb dL_errors_476 (by decide) ?_
                                    refine lv_istore (lv' := [(5, .int (0)), (4, .int (0)), (3, .int r3), (1, .long r1.1), (0, .ref (X.2.2 10 32))]) hx hb dL_errors_477 hl (by decide) rfl (fun ls hl => ?_)
                                    exact wL_errors_b479 F Z 13 r53.2 r1.1 (0 : Int32) (0 : Int32) _ _ _ _ _ ⟨by omega, by omega⟩ h hI (lv_sub hl [4, 3, 1, 0] rfl)
                                  · have h := x_ift h c55
                                    refine lv_aload_n hx hb dL_errors_226 rfl (lv_at hl 2 rfl) ?_
                                    refine lv_iconst (v := 2) hx hb dL_errors_227 (by decide) ?_
                                    obtain ⟨r56, h57, h⟩ := x_bnd h
                                    refine xm_acl hI (xw_run (rest := []) F Z.2 hI (mL_goBack l Z.1 X _ r53.2 (2 : Int32) r56 h57) gw_L_177 hd_L_goBack ⟨by decide, by decide⟩ ⟨rfl, rfl⟩ rfl hl.1 rfl (Nat.le_of_ble_eq_true rfl) dL_errors_228 ⟨(by show _ ≤ (238 : Nat); omega), (by show _ ≤ (1428 : Nat); omega)⟩) (fun H locs hI => ?_)
                                    refine lv_ldc2 (v := -9000000000000000002) hx hb hown (hts _ u_cl_L_44) dL_errors_231 ?_
                                    refine W.lcmp hx hb dL_errors_234 ?_
                                    refine lv_if_ne (tgt := 473) hx hb dL_errors_235 (by decide) (fun c58 => ?_) (fun c58 => ?_)
                                    · have h := x_iff h c58
                                      refine lv_iconst (v := 0) hx hb dL_errors_473 (by decide) ?_
                                      refine lv_istore (lv' := [(4, .int (0)), (3, .int r3), (1, .long r1.1), (0, .ref (X.2.2 10 32))]) hx hb dL_errors_474 hl (by decide) rfl (fun ls hl => ?_)
                                      refine lv_iconst (v := 0) hx hb dL_errors_476 (by decide) ?_
                                      refine lv_istore (lv' := [(5, .int (0)), (4, .int (0)), (3, .int r3), (1, .long r1.1), (0, .ref (X.2.2 10 32))]) hx hb dL_errors_477 hl (by decide) rfl (fun ls hl => ?_)
                                      exact wL_errors_b479 F Z 13 r56.2 r1.1 (0 : Int32) (0 : Int32) _ _ _ _ _ ⟨by omega, by omega⟩ h hI (lv_sub hl [4, 3, 1, 0] rfl)
                                    · have h := x_ift h c58
                                      refine lv_aload_n hx hb dL_errors_238 rfl (lv_at hl 2 rfl) ?_
                                      refine lv_bipush (v := 12) hx hb dL_errors_239 (by decide) ?_
                                      obtain ⟨r59, h60, h⟩ := x_bnd h
                                      refine xm_acl hI (xw_run (rest := []) F Z.2 hI (mL_doingOf l Z.1 X _ r56.2 (12 : Int32) r59 h60) gw_L_179 hd_L_doingOf ⟨by decide, by decide⟩ ⟨rfl, rfl⟩ rfl hl.1 rfl (Nat.le_of_ble_eq_true rfl) dL_errors_241 ⟨(by show _ ≤ (238 : Nat); omega), (by show _ ≤ (1428 : Nat); omega)⟩) (fun H locs hI => ?_)
                                      refine lv_ldc2 (v := -9000000000000000001) hx hb hown (hts _ u_cl_L_17) dL_errors_244 ?_
                                      refine W.lcmp hx hb dL_errors_247 ?_
                                      refine lv_if_ne (tgt := 473) hx hb dL_errors_248 (by decide) (fun c61 => ?_) (fun c61 => ?_)
                                      · have h := x_iff h c61
                                        refine lv_iconst (v := 0) hx hb dL_errors_473 (by decide) ?_
                                        refine lv_istore (lv' := [(4, .int (0)), (3, .int r3), (1, .long r1.1), (0, .ref (X.2.2 10 32))]) hx hb dL_errors_474 hl (by decide) rfl (fun ls hl => ?_)
                                        refine lv_iconst (v := 0) hx hb dL_errors_476 (by decide) ?_
                                        refine lv_istore (lv' := [(5, .int (0)), (4, .int (0)), (3, .int r3), (1, .long r1.1), (0, .ref (X.2.2 10 32))]) hx hb dL_errors_477 hl (by decide) rfl (fun ls hl => ?_)
                                        exact wL_errors_b479 F Z 13 r59.2 r1.1 (0 : Int32) (0 : Int32) _ _ _ _ _ ⟨by omega, by omega⟩ h hI (lv_sub hl [4, 3, 1, 0] rfl)
                                      · have h := x_ift h c61
                                        refine lv_aload_n hx hb dL_errors_251 rfl (lv_at hl 2 rfl) ?_
                                        refine lv_iconst (v := (-1)) hx hb dL_errors_252 (by decide) ?_
                                        obtain ⟨r62, h63, h⟩ := x_bnd h
                                        refine xm_acl hI (xw_run (rest := []) F Z.2 hI (mL_roomOf l Z.1 X _ r59.2 (-1 : Int32) r62 h63) gw_L_181 hd_L_roomOf ⟨by decide, by decide⟩ ⟨rfl, rfl⟩ rfl hl.1 rfl (Nat.le_of_ble_eq_true rfl) dL_errors_253 ⟨(by show _ ≤ (238 : Nat); omega), (by show _ ≤ (1428 : Nat); omega)⟩) (fun H locs hI => ?_)
                                        refine lv_ldc2 (v := -9000000000000000001) hx hb hown (hts _ u_cl_L_17) dL_errors_256 ?_
                                        refine W.lcmp hx hb dL_errors_259 ?_
                                        refine lv_if_ne (tgt := 473) hx hb dL_errors_260 (by decide) (fun c64 => ?_) (fun c64 => ?_)
                                        · have h := x_iff h c64
                                          refine lv_iconst (v := 0) hx hb dL_errors_473 (by decide) ?_
                                          refine lv_istore (lv' := [(4, .int (0)), (3, .int r3), (1, .long r1.1), (0, .ref (X.2.2 10 32))]) hx hb dL_errors_474 hl (by decide) rfl (fun ls hl => ?_)
                                          refine lv_iconst (v := 0) hx hb dL_errors_476 (by decide) ?_
                                          refine lv_istore (lv' := [(5, .int (0)), (4, .int (0)), (3, .int r3), (1, .long r1.1), (0, .ref (X.2.2 10 32))]) hx hb dL_errors_477 hl (by decide) rfl (fun ls hl => ?_)
                                          exact wL_errors_b479 F Z 13 r62.2 r1.1 (0 : Int32) (0 : Int32) _ _ _ _ _ ⟨by omega, by omega⟩ h hI (lv_sub hl [4, 3, 1, 0] rfl)
                                        · have h := x_ift h c64
                                          refine lv_aload_n hx hb dL_errors_263 rfl (lv_at hl 2 rfl) ?_
                                          refine lv_bipush (v := 12) hx hb dL_errors_264 (by decide) ?_
                                          obtain ⟨r65, h66, h⟩ := x_bnd h
                                          refine xm_acl hI (xw_run (rest := []) F Z.2 hI (mL_ticksLeft l Z.1 X _ r62.2 (12 : Int32) r65 h66) gw_L_183 hd_L_ticksLeft ⟨by decide, by decide⟩ ⟨rfl, rfl⟩ rfl hl.1 rfl (Nat.le_of_ble_eq_true rfl) dL_errors_266 ⟨(by show _ ≤ (238 : Nat); omega), (by show _ ≤ (1428 : Nat); omega)⟩) (fun H locs hI => ?_)
                                          refine lv_ldc2 (v := -9000000000000000001) hx hb hown (hts _ u_cl_L_17) dL_errors_269 ?_
                                          refine W.lcmp hx hb dL_errors_272 ?_
                                          refine lv_if_ne (tgt := 473) hx hb dL_errors_273 (by decide) (fun c67 => ?_) (fun c67 => ?_)
                                          · have h := x_iff h c67
                                            refine lv_iconst (v := 0) hx hb dL_errors_473 (by decide) ?_
                                            refine lv_istore (lv' := [(4, .int (0)), (3, .int r3), (1, .long r1.1), (0, .ref (X.2.2 10 32))]) hx hb dL_errors_474 hl (by decide) rfl (fun ls hl => ?_)
                                            refine lv_iconst (v := 0) hx hb dL_errors_476 (by decide) ?_
                                            refine lv_istore (lv' := [(5, .int (0)), (4, .int (0)), (3, .int r3), (1, .long r1.1), (0, .ref (X.2.2 10 32))]) hx hb dL_errors_477 hl (by decide) rfl (fun ls hl => ?_)
                                            exact wL_errors_b479 F Z 13 r65.2 r1.1 (0 : Int32) (0 : Int32) _ _ _ _ _ ⟨by omega, by omega⟩ h hI (lv_sub hl [4, 3, 1, 0] rfl)
                                          · have h := x_ift h c67
                                            refine lv_aload_n hx hb dL_errors_276 rfl (lv_at hl 2 rfl) ?_
                                            refine lv_iconst (v := (-1)) hx hb dL_errors_277 (by decide) ?_
                                            obtain ⟨r68, h69, h⟩ := x_bnd h
                                            refine xm_acl hI (xw_run (rest := []) F Z.2 hI (mL_toRenewal l Z.1 X _ r65.2 (-1 : Int32) r68 h69) gw_L_185 hd_L_toRenewal ⟨by decide, by decide⟩ ⟨rfl, rfl⟩ rfl hl.1 rfl (Nat.le_of_ble_eq_true rfl) dL_errors_278 ⟨(by show _ ≤ (238 : Nat); omega), (by show _ ≤ (1428 : Nat); omega)⟩) (fun H locs hI => ?_)
                                            refine lv_ldc2 (v := -9000000000000000001) hx hb hown (hts _ u_cl_L_17) dL_errors_281 ?_
                                            refine W.lcmp hx hb dL_errors_284 ?_
                                            refine lv_if_ne (tgt := 473) hx hb dL_errors_285 (by decide) (fun c70 => ?_) (fun c70 => ?_)
                                            · have h := x_iff h c70
                                              refine lv_iconst (v := 0) hx hb dL_errors_473 (by decide) ?_
                                              refine lv_istore (lv' := [(4, .int (0)), (3, .int r3), (1, .long r1.1), (0, .ref (X.2.2 10 32))]) hx hb dL_errors_474 hl (by decide) rfl (fun ls hl => ?_)
                                              refine lv_iconst (v := 0) hx hb dL_errors_476 (by decide) ?_
                                              refine lv_istore (lv' := [(5, .int (0)), (4, .int (0)), (3, .int r3), (1, .long r1.1), (0, .ref (X.2.2 10 32))]) hx hb dL_errors_477 hl (by decide) rfl (fun ls hl => ?_)
                                              exact wL_errors_b479 F Z 13 r68.2 r1.1 (0 : Int32) (0 : Int32) _ _ _ _ _ ⟨by omega, by omega⟩ h hI (lv_sub hl [4, 3, 1, 0] rfl)
                                            · have h := x_ift h c70
                                              refine lv_aload_n hx hb dL_errors_288 rfl (lv_at hl 2 rfl) ?_
                                              refine lv_bipush (v := 12) hx hb dL_errors_289 (by decide) ?_
                                              obtain ⟨r71, h72, h⟩ := x_bnd h
                                              refine xm_acl hI (xw_run (rest := []) F Z.2 hI (mL_isHaunted l Z.1 X _ r68.2 (12 : Int32) r71 h72) gw_L_188 hd_L_isHaunted ⟨by decide, by decide⟩ ⟨rfl, rfl⟩ rfl hl.1 rfl (Nat.le_of_ble_eq_true rfl) dL_errors_291 ⟨(by show _ ≤ (238 : Nat); omega), (by show _ ≤ (1428 : Nat); omega)⟩) (fun H locs hI => ?_)
                                              refine lv_ldc2 (v := -9000000000000000001) hx hb hown (hts _ u_cl_L_17) dL_errors_294 ?_
                                              refine W.lcmp hx hb dL_errors_297 ?_
                                              refine lv_if_ne (tgt := 473) hx hb dL_errors_298 (by decide) (fun c73 => ?_) (fun c73 => ?_)
                                              · have h := x_iff h c73
                                                refine lv_iconst (v := 0) hx hb dL_errors_473 (by decide) ?_
                                                refine lv_istore (lv' := [(4, .int (0)), (3, .int r3), (1, .long r1.1), (0, .ref (X.2.2 10 32))]) hx hb dL_errors_474 hl (by decide) rfl (fun ls hl => ?_)
                                                refine lv_iconst (v := 0) hx hb dL_errors_476 (by decide) ?_
                                                refine lv_istore (lv' := [(5, .int (0)), (4, .int (0)), (3, .int r3), (1, .long r1.1), (0, .ref (X.2.2 10 32))]) hx hb dL_errors_477 hl (by decide) rfl (fun ls hl => ?_)
                                                exact wL_errors_b479 F Z 13 r71.2 r1.1 (0 : Int32) (0 : Int32) _ _ _ _ _ ⟨by omega, by omega⟩ h hI (lv_sub hl [4, 3, 1, 0] rfl)
                                              · have h := x_ift h c73
                                                refine lv_aload_n hx hb dL_errors_301 rfl (lv_at hl 2 rfl) ?_
                                                refine lv_bipush (v := 12) hx hb dL_errors_302 (by decide) ?_
                                                obtain ⟨r74, h75, h⟩ := x_bnd h
                                                refine xm_acl hI (xw_run (rest := []) F Z.2 hI (mL_staysOf l Z.1 X _ r71.2 (12 : Int32) r74 h75) gw_L_190 hd_L_staysOf ⟨by decide, by decide⟩ ⟨rfl, rfl⟩ rfl hl.1 rfl (Nat.le_of_ble_eq_true rfl) dL_errors_304 ⟨(by show _ ≤ (238 : Nat); omega), (by show _ ≤ (1428 : Nat); omega)⟩) (fun H locs hI => ?_)
                                                refine lv_ldc2 (v := -9000000000000000001) hx hb hown (hts _ u_cl_L_17) dL_errors_307 ?_
                                                refine W.lcmp hx hb dL_errors_310 ?_
                                                refine lv_if_ne (tgt := 473) hx hb dL_errors_311 (by decide) (fun c76 => ?_) (fun c76 => ?_)
                                                · have h := x_iff h c76
                                                  refine lv_iconst (v := 0) hx hb dL_errors_473 (by decide) ?_
                                                  refine lv_istore (lv' := [(4, .int (0)), (3, .int r3), (1, .long r1.1), (0, .ref (X.2.2 10 32))]) hx hb dL_errors_474 hl (by decide) rfl (fun ls hl => ?_)
                                                  refine lv_iconst (v := 0) hx hb dL_errors_476 (by decide) ?_
                                                  refine lv_istore (lv' := [(5, .int (0)), (4, .int (0)), (3, .int r3), (1, .long r1.1), (0, .ref (X.2.2 10 32))]) hx hb dL_errors_477 hl (by decide) rfl (fun ls hl => ?_)
                                                  exact wL_errors_b479 F Z 13 r74.2 r1.1 (0 : Int32) (0 : Int32) _ _ _ _ _ ⟨by omega, by omega⟩ h hI (lv_sub hl [4, 3, 1, 0] rfl)
                                                · have h := x_ift h c76
                                                  refine lv_aload_n hx hb dL_errors_314 rfl (lv_at hl 2 rfl) ?_
                                                  refine lv_bipush (v := 16) hx hb dL_errors_315 (by decide) ?_
                                                  obtain ⟨r77, h78, h⟩ := x_bnd h
                                                  refine xm_acl hI (xw_run (rest := []) F Z.2 hI (mL_stateOf l Z.1 X _ r74.2 (16 : Int32) r77 h78) gw_L_192 hd_L_stateOf ⟨by decide, by decide⟩ ⟨rfl, rfl⟩ rfl hl.1 rfl (Nat.le_of_ble_eq_true rfl) dL_errors_317 ⟨(by show _ ≤ (238 : Nat); omega), (by show _ ≤ (1428 : Nat); omega)⟩) (fun H locs hI => ?_)
                                                  refine lv_ldc2 (v := -9000000000000000001) hx hb hown (hts _ u_cl_L_17) dL_errors_320 ?_
                                                  refine W.lcmp hx hb dL_errors_323 ?_
                                                  refine lv_if_ne (tgt := 473) hx hb dL_errors_324 (by decide) (fun c79 => ?_) (fun c79 => ?_)
                                                  · have h := x_iff h c79
                                                    refine lv_iconst (v := 0) hx hb dL_errors_473 (by decide) ?_
                                                    refine lv_istore (lv' := [(4, .int (0)), (3, .int r3), (1, .long r1.1), (0, .ref (X.2.2 10 32))]) hx hb dL_errors_474 hl (by decide) rfl (fun ls hl => ?_)
                                                    refine lv_iconst (v := 0) hx hb dL_errors_476 (by decide) ?_
                                                    refine lv_istore (lv' := [(5, .int (0)), (4, .int (0)), (3, .int r3), (1, .long r1.1), (0, .ref (X.2.2 10 32))]) hx hb dL_errors_477 hl (by decide) rfl (fun ls hl => ?_)
                                                    exact wL_errors_b479 F Z 13 r77.2 r1.1 (0 : Int32) (0 : Int32) _ _ _ _ _ ⟨by omega, by omega⟩ h hI (lv_sub hl [4, 3, 1, 0] rfl)
                                                  · have h := x_ift h c79
                                                    refine lv_aload_n hx hb dL_errors_327 rfl (lv_at hl 2 rfl) ?_
                                                    refine lv_iconst (v := (-1)) hx hb dL_errors_328 (by decide) ?_
                                                    obtain ⟨r80, h81, h⟩ := x_bnd h
                                                    refine xm_acl hI (xw_run (rest := []) F Z.2 hI (mL_guestOf l Z.1 X _ r77.2 (-1 : Int32) r80 h81) gw_L_194 hd_L_guestOf ⟨by decide, by decide⟩ ⟨rfl, rfl⟩ rfl hl.1 rfl (Nat.le_of_ble_eq_true rfl) dL_errors_329 ⟨(by show _ ≤ (238 : Nat); omega), (by show _ ≤ (1428 : Nat); omega)⟩) (fun H locs hI => ?_)
                                                    refine lv_ldc2 (v := -9000000000000000001) hx hb hown (hts _ u_cl_L_17) dL_errors_332 ?_
                                                    refine W.lcmp hx hb dL_errors_335 ?_
                                                    refine lv_if_ne (tgt := 473) hx hb dL_errors_336 (by decide) (fun c82 => ?_) (fun c82 => ?_)
                                                    · have h := x_iff h c82
                                                      refine lv_iconst (v := 0) hx hb dL_errors_473 (by decide) ?_
                                                      refine lv_istore (lv' := [(4, .int (0)), (3, .int r3), (1, .long r1.1), (0, .ref (X.2.2 10 32))]) hx hb dL_errors_474 hl (by decide) rfl (fun ls hl => ?_)
                                                      refine lv_iconst (v := 0) hx hb dL_errors_476 (by decide) ?_
                                                      refine lv_istore (lv' := [(5, .int (0)), (4, .int (0)), (3, .int r3), (1, .long r1.1), (0, .ref (X.2.2 10 32))]) hx hb dL_errors_477 hl (by decide) rfl (fun ls hl => ?_)
                                                      exact wL_errors_b479 F Z 13 r80.2 r1.1 (0 : Int32) (0 : Int32) _ _ _ _ _ ⟨by omega, by omega⟩ h hI (lv_sub hl [4, 3, 1, 0] rfl)
                                                    · have h := x_ift h c82
                                                      refine lv_aload_n hx hb dL_errors_339 rfl (lv_at hl 2 rfl) ?_
                                                      refine lv_bipush (v := 16) hx hb dL_errors_340 (by decide) ?_
                                                      obtain ⟨r83, h84, h⟩ := x_bnd h
                                                      refine xm_acl hI (xw_run (rest := []) F Z.2 hI (mL_ticksOf l Z.1 X _ r80.2 (16 : Int32) r83 h84) gw_L_196 hd_L_ticksOf ⟨by decide, by decide⟩ ⟨rfl, rfl⟩ rfl hl.1 rfl (Nat.le_of_ble_eq_true rfl) dL_errors_342 ⟨(by show _ ≤ (238 : Nat); omega), (by show _ ≤ (1428 : Nat); omega)⟩) (fun H locs hI => ?_)
                                                      refine lv_ldc2 (v := -9000000000000000001) hx hb hown (hts _ u_cl_L_17) dL_errors_345 ?_
                                                      refine W.lcmp hx hb dL_errors_348 ?_
                                                      refine lv_if_ne (tgt := 473) hx hb dL_errors_349 (by decide) (fun c85 => ?_) (fun c85 => ?_)
                                                      · have h := x_iff h c85
                                                        refine lv_iconst (v := 0) hx hb dL_errors_473 (by decide) ?_
                                                        refine lv_istore (lv' := [(4, .int (0)), (3, .int r3), (1, .long r1.1), (0, .ref (X.2.2 10 32))]) hx hb dL_errors_474 hl (by decide) rfl (fun ls hl => ?_)
                                                        refine lv_iconst (v := 0) hx hb dL_errors_476 (by decide) ?_
                                                        refine lv_istore (lv' := [(5, .int (0)), (4, .int (0)), (3, .int r3), (1, .long r1.1), (0, .ref (X.2.2 10 32))]) hx hb dL_errors_477 hl (by decide) rfl (fun ls hl => ?_)
                                                        exact wL_errors_b479 F Z 13 r83.2 r1.1 (0 : Int32) (0 : Int32) _ _ _ _ _ ⟨by omega, by omega⟩ h hI (lv_sub hl [4, 3, 1, 0] rfl)
                                                      · have h := x_ift h c85
                                                        refine lv_aload_n hx hb dL_errors_352 rfl (lv_at hl 2 rfl) ?_
                                                        refine lv_iconst (v := (-1)) hx hb dL_errors_353 (by decide) ?_
                                                        obtain ⟨r86, h87, h⟩ := x_bnd h
                                                        refine xm_acl hI (xw_run (rest := []) F Z.2 hI (mL_reservedFor l Z.1 X _ r83.2 (-1 : Int32) r86 h87) gw_L_198 hd_L_reservedFor ⟨by decide, by decide⟩ ⟨rfl, rfl⟩ rfl hl.1 rfl (Nat.le_of_ble_eq_true rfl) dL_errors_354 ⟨(by show _ ≤ (238 : Nat); omega), (by show _ ≤ (1428 : Nat); omega)⟩) (fun H locs hI => ?_)
                                                        refine lv_ldc2 (v := -9000000000000000001) hx hb hown (hts _ u_cl_L_17) dL_errors_357 ?_
                                                        refine W.lcmp hx hb dL_errors_360 ?_
                                                        refine lv_if_ne (tgt := 473) hx hb dL_errors_361 (by decide) (fun c88 => ?_) (fun c88 => ?_)
                                                        · have h := x_iff h c88
                                                          refine lv_iconst (v := 0) hx hb dL_errors_473 (by decide) ?_
                                                          refine lv_istore (lv' := [(4, .int (0)), (3, .int r3), (1, .long r1.1), (0, .ref (X.2.2 10 32))]) hx hb dL_errors_474 hl (by decide) rfl (fun ls hl => ?_)
                                                          refine lv_iconst (v := 0) hx hb dL_errors_476 (by decide) ?_
                                                          refine lv_istore (lv' := [(5, .int (0)), (4, .int (0)), (3, .int r3), (1, .long r1.1), (0, .ref (X.2.2 10 32))]) hx hb dL_errors_477 hl (by decide) rfl (fun ls hl => ?_)
                                                          exact wL_errors_b479 F Z 13 r86.2 r1.1 (0 : Int32) (0 : Int32) _ _ _ _ _ ⟨by omega, by omega⟩ h hI (lv_sub hl [4, 3, 1, 0] rfl)
                                                        · have h := x_ift h c88
                                                          refine lv_aload_n hx hb dL_errors_364 rfl (lv_at hl 2 rfl) ?_
                                                          refine lv_bipush (v := 16) hx hb dL_errors_365 (by decide) ?_
                                                          obtain ⟨r89, h90, h⟩ := x_bnd h
                                                          refine xm_acl hI (xw_run (rest := []) F Z.2 hI (mL_hasGhost l Z.1 X _ r86.2 (16 : Int32) r89 h90) gw_L_200 hd_L_hasGhost ⟨by decide, by decide⟩ ⟨rfl, rfl⟩ rfl hl.1 rfl (Nat.le_of_ble_eq_true rfl) dL_errors_367 ⟨(by show _ ≤ (238 : Nat); omega), (by show _ ≤ (1428 : Nat); omega)⟩) (fun H locs hI => ?_)
                                                          refine lv_ldc2 (v := -9000000000000000001) hx hb hown (hts _ u_cl_L_17) dL_errors_370 ?_
                                                          refine W.lcmp hx hb dL_errors_373 ?_
                                                          refine lv_if_ne (tgt := 473) hx hb dL_errors_374 (by decide) (fun c91 => ?_) (fun c91 => ?_)
                                                          · have h := x_iff h c91
                                                            refine lv_iconst (v := 0) hx hb dL_errors_473 (by decide) ?_
                                                            refine lv_istore (lv' := [(4, .int (0)), (3, .int r3), (1, .long r1.1), (0, .ref (X.2.2 10 32))]) hx hb dL_errors_474 hl (by decide) rfl (fun ls hl => ?_)
                                                            refine lv_iconst (v := 0) hx hb dL_errors_476 (by decide) ?_
                                                            refine lv_istore (lv' := [(5, .int (0)), (4, .int (0)), (3, .int r3), (1, .long r1.1), (0, .ref (X.2.2 10 32))]) hx hb dL_errors_477 hl (by decide) rfl (fun ls hl => ?_)
                                                            exact wL_errors_b479 F Z 13 r89.2 r1.1 (0 : Int32) (0 : Int32) _ _ _ _ _ ⟨by omega, by omega⟩ h hI (lv_sub hl [4, 3, 1, 0] rfl)
                                                          · have h := x_ift h c91
                                                            refine lv_aload_n hx hb dL_errors_377 rfl (lv_at hl 2 rfl) ?_
                                                            refine lv_bipush (v := 12) hx hb dL_errors_378 (by decide) ?_
                                                            obtain ⟨r92, h93, h⟩ := x_bnd h
                                                            refine xm_acl hI (xw_run (rest := []) F Z.2 hI (mL_roomFor l Z.1 X _ r89.2 (12 : Int32) r92 h93) gw_L_202 hd_L_roomFor ⟨by decide, by decide⟩ ⟨rfl, rfl⟩ rfl hl.1 rfl (Nat.le_of_ble_eq_true rfl) dL_errors_380 ⟨(by show _ ≤ (238 : Nat); omega), (by show _ ≤ (1428 : Nat); omega)⟩) (fun H locs hI => ?_)
                                                            refine lv_ldc2 (v := -9000000000000000001) hx hb hown (hts _ u_cl_L_17) dL_errors_383 ?_
                                                            refine W.lcmp hx hb dL_errors_386 ?_
                                                            refine lv_if_ne (tgt := 473) hx hb dL_errors_387 (by decide) (fun c94 => ?_) (fun c94 => ?_)
                                                            · have h := x_iff h c94
                                                              refine lv_iconst (v := 0) hx hb dL_errors_473 (by decide) ?_
                                                              refine lv_istore (lv' := [(4, .int (0)), (3, .int r3), (1, .long r1.1), (0, .ref (X.2.2 10 32))]) hx hb dL_errors_474 hl (by decide) rfl (fun ls hl => ?_)
                                                              refine lv_iconst (v := 0) hx hb dL_errors_476 (by decide) ?_
                                                              refine lv_istore (lv' := [(5, .int (0)), (4, .int (0)), (3, .int r3), (1, .long r1.1), (0, .ref (X.2.2 10 32))]) hx hb dL_errors_477 hl (by decide) rfl (fun ls hl => ?_)
                                                              exact wL_errors_b479 F Z 13 r92.2 r1.1 (0 : Int32) (0 : Int32) _ _ _ _ _ ⟨by omega, by omega⟩ h hI (lv_sub hl [4, 3, 1, 0] rfl)
                                                            · have h := x_ift h c94
                                                              refine lv_aload_n hx hb dL_errors_390 rfl (lv_at hl 2 rfl) ?_
                                                              refine lv_iload_n hx hb dL_errors_391 rfl (lv_at hl 0 rfl) ?_
                                                              obtain ⟨r95, h96, h⟩ := x_bnd h
                                                              refine xm_acl hI (xw_run (rest := []) F Z.2 hI (mL_kindAt l Z.1 X _ r92.2 r3 r95 h96) gw_L_204 hd_L_kindAt ⟨by decide, by decide⟩ ⟨rfl, rfl⟩ rfl hl.1 rfl (Nat.le_of_ble_eq_true rfl) dL_errors_392 ⟨(by show _ ≤ (238 : Nat); omega), (by show _ ≤ (1428 : Nat); omega)⟩) (fun H locs hI => ?_)
                                                              refine lv_ldc2 (v := -9000000000000000001) hx hb hown (hts _ u_cl_L_17) dL_errors_395 ?_
                                                              refine W.lcmp hx hb dL_errors_398 ?_
                                                              refine lv_if_ne (tgt := 473) hx hb dL_errors_399 (by decide) (fun c97 => ?_) (fun c97 => ?_)
                                                              · have h := x_iff h c97
                                                                refine lv_iconst (v := 0) hx hb dL_errors_473 (by decide) ?_
                                                                refine lv_istore (lv' := [(4, .int (0)), (3, .int r3), (1, .long r1.1), (0, .ref (X.2.2 10 32))]) hx hb dL_errors_474 hl (by decide) rfl (fun ls hl => ?_)
                                                                refine lv_iconst (v := 0) hx hb dL_errors_476 (by decide) ?_
                                                                refine lv_istore (lv' := [(5, .int (0)), (4, .int (0)), (3, .int r3), (1, .long r1.1), (0, .ref (X.2.2 10 32))]) hx hb dL_errors_477 hl (by decide) rfl (fun ls hl => ?_)
                                                                exact wL_errors_b479 F Z 13 r95.2 r1.1 (0 : Int32) (0 : Int32) _ _ _ _ _ ⟨by omega, by omega⟩ h hI (lv_sub hl [4, 3, 1, 0] rfl)
                                                              · have h := x_ift h c97
                                                                refine lv_aload_n hx hb dL_errors_402 rfl (lv_at hl 2 rfl) ?_
                                                                refine lv_iconst (v := (-1)) hx hb dL_errors_403 (by decide) ?_
                                                                obtain ⟨r98, h99, h⟩ := x_bnd h
                                                                refine xm_acl hI (xw_run (rest := []) F Z.2 hI (mL_guestAt l Z.1 X _ r95.2 (-1 : Int32) r98 h99) gw_L_206 hd_L_guestAt ⟨by decide, by decide⟩ ⟨rfl, rfl⟩ rfl hl.1 rfl (Nat.le_of_ble_eq_true rfl) dL_errors_404 ⟨(by show _ ≤ (238 : Nat); omega), (by show _ ≤ (1428 : Nat); omega)⟩) (fun H locs hI => ?_)
                                                                refine lv_ldc2 (v := -9000000000000000001) hx hb hown (hts _ u_cl_L_17) dL_errors_407 ?_
                                                                refine W.lcmp hx hb dL_errors_410 ?_
                                                                refine lv_if_ne (tgt := 473) hx hb dL_errors_411 (by decide) (fun c100 => ?_) (fun c100 => ?_)
                                                                · have h := x_iff h c100
                                                                  refine lv_iconst (v := 0) hx hb dL_errors_473 (by decide) ?_
                                                                  refine lv_istore (lv' := [(4, .int (0)), (3, .int r3), (1, .long r1.1), (0, .ref (X.2.2 10 32))]) hx hb dL_errors_474 hl (by decide) rfl (fun ls hl => ?_)
                                                                  refine lv_iconst (v := 0) hx hb dL_errors_476 (by decide) ?_
                                                                  refine lv_istore (lv' := [(5, .int (0)), (4, .int (0)), (3, .int r3), (1, .long r1.1), (0, .ref (X.2.2 10 32))]) hx hb dL_errors_477 hl (by decide) rfl (fun ls hl => ?_)
                                                                  exact wL_errors_b479 F Z 13 r98.2 r1.1 (0 : Int32) (0 : Int32) _ _ _ _ _ ⟨by omega, by omega⟩ h hI (lv_sub hl [4, 3, 1, 0] rfl)
                                                                · have h := x_ift h c100
                                                                  refine lv_aload_n hx hb dL_errors_414 rfl (lv_at hl 2 rfl) ?_
                                                                  refine lv_iload_n hx hb dL_errors_415 rfl (lv_at hl 0 rfl) ?_
                                                                  obtain ⟨r101, h102, h⟩ := x_bnd h
                                                                  refine xm_acl hI (xw_run (rest := []) F Z.2 hI (mL_roomAt l Z.1 X _ r98.2 r3 r101 h102) gw_L_208 hd_L_roomAt ⟨by decide, by decide⟩ ⟨rfl, rfl⟩ rfl hl.1 rfl (Nat.le_of_ble_eq_true rfl) dL_errors_416 ⟨(by show _ ≤ (238 : Nat); omega), (by show _ ≤ (1428 : Nat); omega)⟩) (fun H locs hI => ?_)
                                                                  refine lv_ldc2 (v := -9000000000000000001) hx hb hown (hts _ u_cl_L_17) dL_errors_419 ?_
                                                                  refine W.lcmp hx hb dL_errors_422 ?_
                                                                  refine lv_if_ne (tgt := 473) hx hb dL_errors_423 (by decide) (fun c103 => ?_) (fun c103 => ?_)
                                                                  · have h := x_iff h c103
                                                                    refine lv_iconst (v := 0) hx hb dL_errors_473 (by decide) ?_
                                                                    refine lv_istore (lv' := [(4, .int (0)), (3, .int r3), (1, .long r1.1), (0, .ref (X.2.2 10 32))]) hx hb dL_errors_474 hl (by decide) rfl (fun ls hl => ?_)
                                                                    refine lv_iconst (v := 0) hx hb dL_errors_476 (by decide) ?_
                                                                    refine lv_istore (lv' := [(5, .int (0)), (4, .int (0)), (3, .int r3), (1, .long r1.1), (0, .ref (X.2.2 10 32))]) hx hb dL_errors_477 hl (by decide) rfl (fun ls hl => ?_)
                                                                    exact wL_errors_b479 F Z 13 r101.2 r1.1 (0 : Int32) (0 : Int32) _ _ _ _ _ ⟨by omega, by omega⟩ h hI (lv_sub hl [4, 3, 1, 0] rfl)
                                                                  · have h := x_ift h c103
                                                                    refine lv_aload_n hx hb dL_errors_426 rfl (lv_at hl 2 rfl) ?_
                                                                    refine lv_iconst (v := (-1)) hx hb dL_errors_427 (by decide) ?_
                                                                    obtain ⟨r104, h105, h⟩ := x_bnd h
                                                                    refine xm_acl hI (xw_run (rest := []) F Z.2 hI (mL_sent l Z.1 X _ r101.2 (-1 : Int32) r104 h105) gw_L_210 hd_L_sent ⟨by decide, by decide⟩ ⟨rfl, rfl⟩ rfl hl.1 rfl (Nat.le_of_ble_eq_true rfl) dL_errors_428 ⟨(by show _ ≤ (238 : Nat); omega), (by show _ ≤ (1428 : Nat); omega)⟩) (fun H locs hI => ?_)
                                                                    refine lv_ldc2 (v := -9000000000000000002) hx hb hown (hts _ u_cl_L_44) dL_errors_431 ?_
                                                                    refine W.lcmp hx hb dL_errors_434 ?_
                                                                    refine lv_if_ne (tgt := 473) hx hb dL_errors_435 (by decide) (fun c106 => ?_) (fun c106 => ?_)
                                                                    · have h := x_iff h c106
                                                                      refine lv_iconst (v := 0) hx hb dL_errors_473 (by decide) ?_
                                                                      refine lv_istore (lv' := [(4, .int (0)), (3, .int r3), (1, .long r1.1), (0, .ref (X.2.2 10 32))]) hx hb dL_errors_474 hl (by decide) rfl (fun ls hl => ?_)
                                                                      refine lv_iconst (v := 0) hx hb dL_errors_476 (by decide) ?_
                                                                      refine lv_istore (lv' := [(5, .int (0)), (4, .int (0)), (3, .int r3), (1, .long r1.1), (0, .ref (X.2.2 10 32))]) hx hb dL_errors_477 hl (by decide) rfl (fun ls hl => ?_)
                                                                      exact wL_errors_b479 F Z 13 r104.2 r1.1 (0 : Int32) (0 : Int32) _ _ _ _ _ ⟨by omega, by omega⟩ h hI (lv_sub hl [4, 3, 1, 0] rfl)
                                                                    · have h := x_ift h c106
                                                                      refine lv_aload_n hx hb dL_errors_438 rfl (lv_at hl 2 rfl) ?_
                                                                      obtain ⟨r107, h108, h⟩ := x_bnd h
                                                                      refine x_aci hI (x_runV (rest := []) F hI (mX6_freeRooms l X _ r104.2  r107 h108) g_L_212 ⟨rfl, hd_X6_freeRooms⟩ ⟨by decide, by decide⟩ ⟨rfl, rfl⟩ (x_inO (by decide)) rfl rfl rfl rfl hl.1 rfl (Nat.le_of_ble_eq_true rfl) dL_errors_439 ⟨(by show _ ≤ (238 : Nat); omega), (by show _ ≤ (1428 : Nat); omega)⟩) (fun H locs hI => ?_)
                                                                      refine lv_bipush (v := 16) hx hb dL_errors_442 (by decide) ?_
                                                                      refine lv_icmp_lt (tgt := 469) hx hb dL_errors_444 (by decide) (fun c109 => ?_) (fun c109 => ?_)
                                                                      · have h := x_ift h c109
                                                                        refine lv_iconst (v := 1) hx hb dL_errors_469 (by decide) ?_
                                                                        refine lv_goto (tgt := 474) hx hb dL_errors_470 (by decide) ?_
                                                                        refine lv_istore (lv' := [(4, .int (1)), (3, .int r3), (1, .long r1.1), (0, .ref (X.2.2 10 32))]) hx hb dL_errors_474 hl (by decide) rfl (fun ls hl => ?_)
                                                                        refine lv_iconst (v := 0) hx hb dL_errors_476 (by decide) ?_
                                                                        refine lv_istore (lv' := [(5, .int (0)), (4, .int (1)), (3, .int r3), (1, .long r1.1), (0, .ref (X.2.2 10 32))]) hx hb dL_errors_477 hl (by decide) rfl (fun ls hl => ?_)
                                                                        exact wL_errors_b479 F Z 13 r104.2 r1.1 (1 : Int32) (0 : Int32) _ _ _ _ _ ⟨by omega, by omega⟩ h hI (lv_sub hl [4, 3, 1, 0] rfl)
                                                                      · have h := x_iff h c109
                                                                        refine lv_aload_n hx hb dL_errors_447 rfl (lv_at hl 2 rfl) ?_
                                                                        obtain ⟨r110, h111, h⟩ := x_bnd h
                                                                        refine xm_acl hI (xw_run (rest := []) F Z.2 hI (mL_nextByRooms l Z.1 X _ r104.2  r110 h111) gw_L_215 hd_L_nextByRooms ⟨by decide, by decide⟩ ⟨rfl, rfl⟩ rfl hl.1 rfl (Nat.le_of_ble_eq_true rfl) dL_errors_448 ⟨(by show _ ≤ (238 : Nat); omega), (by show _ ≤ (1428 : Nat); omega)⟩) (fun H locs hI => ?_)
                                                                        refine lv_ldc2 (v := -9000000000000000003) hx hb hown (hts _ u_cl_L_21) dL_errors_451 ?_
                                                                        refine W.lcmp hx hb dL_errors_454 ?_
                                                                        refine lv_if_ne (tgt := 473) hx hb dL_errors_455 (by decide) (fun c112 => ?_) (fun c112 => ?_)
                                                                        · have h := x_iff h c112
                                                                          refine lv_iconst (v := 0) hx hb dL_errors_473 (by decide) ?_
                                                                          refine lv_istore (lv' := [(4, .int (0)), (3, .int r3), (1, .long r1.1), (0, .ref (X.2.2 10 32))]) hx hb dL_errors_474 hl (by decide) rfl (fun ls hl => ?_)
                                                                          refine lv_iconst (v := 0) hx hb dL_errors_476 (by decide) ?_
                                                                          refine lv_istore (lv' := [(5, .int (0)), (4, .int (0)), (3, .int r3), (1, .long r1.1), (0, .ref (X.2.2 10 32))]) hx hb dL_errors_477 hl (by decide) rfl (fun ls hl => ?_)
                                                                          exact wL_errors_b479 F Z 13 r110.2 r1.1 (0 : Int32) (0 : Int32) _ _ _ _ _ ⟨by omega, by omega⟩ h hI (lv_sub hl [4, 3, 1, 0] rfl)
                                                                        · have h := x_ift h c112
                                                                          refine lv_aload_n hx hb dL_errors_458 rfl (lv_at hl 2 rfl) ?_
                                                                          obtain ⟨r113, h114, h⟩ := x_bnd h
                                                                          refine xm_acl hI (xw_run (rest := []) F Z.2 hI (mL_nextByTicks l Z.1 X _ r110.2  r113 h114) gw_L_219 hd_L_nextByTicks ⟨by decide, by decide⟩ ⟨rfl, rfl⟩ rfl hl.1 rfl (Nat.le_of_ble_eq_true rfl) dL_errors_459 ⟨(by show _ ≤ (238 : Nat); omega), (by show _ ≤ (1428 : Nat); omega)⟩) (fun H locs hI => ?_)
                                                                          refine lv_ldc2 (v := -9000000000000000003) hx hb hown (hts _ u_cl_L_21) dL_errors_462 ?_
                                                                          refine W.lcmp hx hb dL_errors_465 ?_
                                                                          refine lv_if_ne (tgt := 473) hx hb dL_errors_466 (by decide) (fun c115 => ?_) (fun c115 => ?_)
                                                                          · have h := x_iff h c115
                                                                            refine lv_iconst (v := 0) hx hb dL_errors_473 (by decide) ?_
                                                                            refine lv_istore (lv' := [(4, .int (0)), (3, .int r3), (1, .long r1.1), (0, .ref (X.2.2 10 32))]) hx hb dL_errors_474 hl (by decide) rfl (fun ls hl => ?_)
                                                                            refine lv_iconst (v := 0) hx hb dL_errors_476 (by decide) ?_
                                                                            refine lv_istore (lv' := [(5, .int (0)), (4, .int (0)), (3, .int r3), (1, .long r1.1), (0, .ref (X.2.2 10 32))]) hx hb dL_errors_477 hl (by decide) rfl (fun ls hl => ?_)
                                                                            exact wL_errors_b479 F Z 13 r113.2 r1.1 (0 : Int32) (0 : Int32) _ _ _ _ _ ⟨by omega, by omega⟩ h hI (lv_sub hl [4, 3, 1, 0] rfl)
                                                                          · have h := x_ift h c115
                                                                            refine lv_iconst (v := 1) hx hb dL_errors_469 (by decide) ?_
                                                                            refine lv_goto (tgt := 474) hx hb dL_errors_470 (by decide) ?_
                                                                            refine lv_istore (lv' := [(4, .int (1)), (3, .int r3), (1, .long r1.1), (0, .ref (X.2.2 10 32))]) hx hb dL_errors_474 hl (by decide) rfl (fun ls hl => ?_)
                                                                            refine lv_iconst (v := 0) hx hb dL_errors_476 (by decide) ?_
                                                                            refine lv_istore (lv' := [(5, .int (0)), (4, .int (1)), (3, .int r3), (1, .long r1.1), (0, .ref (X.2.2 10 32))]) hx hb dL_errors_477 hl (by decide) rfl (fun ls hl => ?_)
                                                                            exact wL_errors_b479 F Z 13 r113.2 r1.1 (1 : Int32) (0 : Int32) _ _ _ _ _ ⟨by omega, by omega⟩ h hI (lv_sub hl [4, 3, 1, 0] rfl)
