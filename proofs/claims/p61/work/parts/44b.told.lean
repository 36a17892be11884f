abbrev rm_L_digits : Room := { frames := 9, cells := 2, slots := 12, locals := 147 }
def fL_digits_j22 (σ : x_S) (y1 : Int32) : Option (Int32 × x_S) := (Option.bind (fL_append σ ((48 : Int32) + (y1 - y1 / (10 : Int32) * (10 : Int32)))) fun r5 => (if (lg_cmp r5.1 (0 : Int64)) ≤ 0 then some ((0 : Int32), r5.2) else some ((1 : Int32), r5.2)))
set_option maxHeartbeats 4000000 in
set_option maxRecDepth 100000 in
theorem wL_digits_j22 {p : Program} {l : Launch} {e : Env} {s : State} {m : MethodId} {args : Array Value} {below : List Frame} {meth : Method} {c : Code} {X : x_T} {r : (Int32 × x_S)} (F : x_F p s m args meth c cL_digits 2 RL (some .boolean)) (Z : xm_Z l s X) (σ : x_S) (y1 : Int32) (H : Heap) (locs : List Loc) (ls : Array Slot) (cells slots : Nat) (hf : cells + (1) ≤ 2 ∧ slots + 6 * (1) ≤ 12) (h : fL_digits_j22 σ y1 = some r) (hI : x_I X σ s H locs) (hl : lv_has ls 2 [(0, .ref (X.2.2 10 32)), (1, .int y1)]) : W p l e rm_L_digits s m args below meth c H locs cells slots (MQ below (x_Qi X r.1 r.2 s.heap.size) args s 2 12 (x_A X s.heap.size)) (F0 m 22 ls []) := by
  have hx := F.1
  have hb := F.2.1
  have hml := F.2.2.1
  have hown := F.2.2.2.1
  have hts := F.2.2.2.2.1
  obtain ⟨hf1, hf2⟩ := hf
  unfold fL_digits_j22 at h
  refine lv_aload_n hx hb dL_digits_22 rfl (lv_at hl 0 rfl) ?_
  refine lv_bipush (v := 48) hx hb dL_digits_23 (by decide) ?_
  refine lv_iload_n hx hb dL_digits_25 rfl (lv_at hl 1 rfl) ?_
  refine lv_bipush (v := 10) hx hb dL_digits_26 (by decide) ?_
  refine lv_irem hx hb dL_digits_28 (by decide) ?_
  refine lv_iadd hx hb dL_digits_29 ?_
  obtain ⟨r5, h6, h⟩ := x_bnd h
  refine xm_acl hI (xw_run (rest := []) F Z.2 hI (mL_append l Z.1 X _ σ ((48 : Int32) + (y1 - y1 / (10 : Int32) * (10 : Int32))) r5 h6) gw_L_173 hd_L_append ⟨by decide, by decide⟩ ⟨rfl, rfl⟩ rfl hl.1 rfl (Nat.le_of_ble_eq_true rfl) dL_digits_30 ⟨(by show _ ≤ (2 : Nat); omega), (by show _ ≤ (12 : Nat); omega)⟩) (fun H locs hI => ?_)
  refine lv_lconst (v := 0) hx hb dL_digits_33 (by decide) ?_
  refine W.lcmp hx hb dL_digits_34 ?_
  refine lv_if_le (tgt := 42) hx hb dL_digits_35 (by decide) (fun c7 => ?_) (fun c7 => ?_)
  · have h := x_ift h c7
    refine lv_iconst (v := 0) hx hb dL_digits_42 (by decide) ?_
    rw [x_some h]
    exact W.widen (by omega) (by omega) (x_zret (v := 0) F hI (by decide) dL_digits_43)
  · have h := x_iff h c7
    refine lv_iconst (v := 1) hx hb dL_digits_38 (by decide) ?_
    refine lv_goto (tgt := 43) hx hb dL_digits_39 (by decide) ?_
    rw [x_some h]
    exact W.widen (by omega) (by omega) (x_zret (v := 1) F hI (by decide) dL_digits_43)
def fL_digits (σ : x_S) (a1 : Int32) : Option (Int32 × x_S) := (if a1 < (10 : Int32) then fL_digits_j22 σ a1 else (Option.bind (fL_append σ ((48 : Int32) + (a1 / (10 : Int32)))) fun r2 => (if (lg_cmp r2.1 (0 : Int64)) ≤ 0 then some ((0 : Int32), r2.2) else fL_digits_j22 r2.2 a1)))
set_option maxHeartbeats 4000000 in
set_option maxRecDepth 100000 in
theorem mL_digits (l : Launch) (hl0 : l.stackTraces = false) (X : x_T) (sz : Nat) (σ : x_S) (a1 : Int32) (r : (Int32 × x_S)) (h : fL_digits σ a1 = some r) : Met l yL_digits (x_ws yL_digits cL_digits 2 (some .boolean)) rm_L_digits (x_PcT X σ sz [.ref (X.2.2 10 32), .int a1]) (x_Qi X r.1 r.2 sz) 2 12 (x_A X sz) := by
  refine Met.ofW (cc := cL_digits) (maxL := 2) (ret := (some .boolean)) (by decide) rfl ?_
  intro p e s m args below meth c s₁ B hml hv
  obtain ⟨F, Z, hI, rfl, rfl⟩ := xm_begin hl0 B hml hv
  replace F : x_F p s m _ meth c cL_digits 2 RL (some .boolean) := F
  have hx := F.1
  have hb := F.2.1
  have hml := F.2.2.1
  have hown := F.2.2.2.1
  have hts := F.2.2.2.2.1
  refine x_entry (vs := [.ref (X.2.2 10 32), .int a1]) (n := 2) (Nat.le_of_ble_eq_true rfl) (fun ls hl => ?_)
  replace hl : lv_has ls 2 [(0, .ref (X.2.2 10 32)), (1, .int a1)] := hl
  unfold fL_digits at h
  refine lv_iload_n hx hb dL_digits_0 rfl (lv_at hl 1 rfl) ?_
  refine lv_bipush (v := 10) hx hb dL_digits_1 (by decide) ?_
  refine lv_icmp_lt (tgt := 22) hx hb dL_digits_3 (by decide) (fun c1 => ?_) (fun c1 => ?_)
  · have h := x_ift h c1
    exact wL_digits_j22 F Z σ a1 _ _ _ _ _ ⟨by omega, by omega⟩ h hI (lv_sub hl [0, 1] rfl)
  · have h := x_iff h c1
    refine lv_aload_n hx hb dL_digits_6 rfl (lv_at hl 0 rfl) ?_
    refine lv_bipush (v := 48) hx hb dL_digits_7 (by decide) ?_
    refine lv_iload_n hx hb dL_digits_9 rfl (lv_at hl 1 rfl) ?_
    refine lv_bipush (v := 10) hx hb dL_digits_10 (by decide) ?_
    refine lv_idiv hx hb dL_digits_12 (by decide) ?_
    refine lv_iadd hx hb dL_digits_13 ?_
    obtain ⟨r2, h3, h⟩ := x_bnd h
    refine xm_acl hI (xw_run (rest := []) F Z.2 hI (mL_append l Z.1 X _ σ ((48 : Int32) + (a1 / (10 : Int32))) r2 h3) gw_L_173 hd_L_append ⟨by decide, by decide⟩ ⟨rfl, rfl⟩ rfl hl.1 rfl (Nat.le_of_ble_eq_true rfl) dL_digits_14 ⟨(by show _ ≤ (2 : Nat); omega), (by show _ ≤ (12 : Nat); omega)⟩) (fun H locs hI => ?_)
    refine lv_lconst (v := 0) hx hb dL_digits_17 (by decide) ?_
    refine W.lcmp hx hb dL_digits_18 ?_
    refine lv_if_le (tgt := 42) hx hb dL_digits_19 (by decide) (fun c4 => ?_) (fun c4 => ?_)
    · have h := x_ift h c4
      refine lv_iconst (v := 0) hx hb dL_digits_42 (by decide) ?_
      rw [x_some h]
      exact W.widen (by omega) (by omega) (x_zret (v := 0) F hI (by decide) dL_digits_43)
    · have h := x_iff h c4
      exact wL_digits_j22 F Z r2.2 a1 _ _ _ _ _ ⟨by omega, by omega⟩ h hI (lv_sub hl [0, 1] rfl)
abbrev rm_L_told : Room := { frames := 10, cells := 25, slots := 150, locals := 184 }
def fL_told_j147 (k15 : x_S → Int32 → Int32 → Int32 → Option (Int64 × x_S)) (σ : x_S) (y1 : Int32) (y3 : Int32) (z0 : Int32) : Option (Int64 × x_S) := (Option.bind (fL_digits σ z0) fun r30 => (if r30.1 = 0 then x_let (y3 + (1 : Int32)) fun x33 => k15 r30.2 y1 (0 : Int32) x33 else x_let (y3 + (1 : Int32)) fun x35 => k15 r30.2 y1 (1 : Int32) x35))
set_option maxHeartbeats 4000000 in
set_option maxRecDepth 100000 in
theorem wL_told_j147 {p : Program} {l : Launch} {e : Env} {s : State} {m : MethodId} {args : Array Value} {below : List Frame} {meth : Method} {c : Code} {X : x_T} {r : (Int64 × x_S)} (F : x_F p s m args meth c cL_told 6 RL (some .long)) (Z : xm_Z l s X) (k15 : x_S → Int32 → Int32 → Int32 → Option (Int64 × x_S)) (c15 : Nat) (hk15 : ∀ (σ : x_S) (y1 : Int32) (y2 : Int32) (y3 : Int32) (H : Heap) (locs : List Loc) (ls : Array Slot) (cells slots : Nat), cells + c15 ≤ 25 ∧ slots + 6 * c15 ≤ 150 → k15 σ y1 y2 y3 = some r → x_I X σ s H locs → lv_has ls 6 [(0, .ref (X.2.2 10 32)), (1, .int y1), (2, .int y2), (3, .int y3)] → W p l e rm_L_told s m args below meth c H locs cells slots (MQ below (x_Ql X r.1 r.2 s.heap.size) args s 25 150 (x_A X s.heap.size)) (F0 m 15 ls [])) (σ : x_S) (y1 : Int32) (y3 : Int32) (z0 : Int32) (H : Heap) (locs : List Loc) (ls : Array Slot) (cells slots : Nat) (hf : cells + (2 + c15) ≤ 25 ∧ slots + 6 * (2 + c15) ≤ 150) (h : fL_told_j147 k15 σ y1 y3 z0 = some r) (hI : x_I X σ s H locs) (hl : lv_has ls 6 [(0, .ref (X.2.2 10 32)), (1, .int y1), (3, .int y3)]) : W p l e rm_L_told s m args below meth c H locs cells slots (MQ below (x_Ql X r.1 r.2 s.heap.size) args s 25 150 (x_A X s.heap.size)) (F0 m 147 ls [.int z0, .ref (X.2.2 10 32)]) := by
  have hx := F.1
  have hb := F.2.1
  have hml := F.2.2.1
  have hown := F.2.2.2.1
  have hts := F.2.2.2.2.1
  obtain ⟨hf1, hf2⟩ := hf
  unfold fL_told_j147 at h
  obtain ⟨r30, h31, h⟩ := x_bnd h
  refine xm_aci hI (xm_run (rest := []) F Z.2 hI (mL_digits l Z.1 X _ σ z0 r30 h31) gm_L_286 hd_L_digits ⟨by decide, by decide⟩ ⟨rfl, rfl⟩ rfl hl.1 rfl (Nat.le_of_ble_eq_true rfl) dL_told_147 ⟨(by show _ ≤ (25 : Nat); omega), (by show _ ≤ (150 : Nat); omega)⟩) (fun H locs hI => ?_)
  refine lv_if_eq (tgt := 157) hx hb dL_told_150 (by decide) (fun c32 => ?_) (fun c32 => ?_)
  · have h := x_ift h c32
    refine lv_iconst (v := 0) hx hb dL_told_157 (by decide) ?_
    refine lv_istore_n (lv' := [(2, .int (0)), (0, .ref (X.2.2 10 32)), (1, .int y1), (3, .int y3)]) hx hb dL_told_158 rfl hl (by decide) rfl (fun ls hl => ?_)
    obtain ⟨x33, e34⟩ : ∃ z : Int32, z = (y3 + (1 : Int32)) := ⟨_, rfl⟩
    have h := x_let_at h e34
    refine lv_iinc (v := x33) (lv' := [(3, .int x33), (2, .int (0)), (0, .ref (X.2.2 10 32)), (1, .int y1)]) hx hb dL_told_159 hl (k := 3) rfl (by rw [e34]; rfl) (by decide) rfl (fun ls hl => ?_)
    refine lv_goto (tgt := 15) hx hb dL_told_162 (by decide) ?_
    exact hk15 r30.2 y1 (0 : Int32) x33 _ _ _ _ _ ⟨by omega, by omega⟩ h hI (lv_sub hl [2, 3, 1, 0] rfl)
  · have h := x_iff h c32
    refine lv_iconst (v := 1) hx hb dL_told_153 (by decide) ?_
    refine lv_goto (tgt := 158) hx hb dL_told_154 (by decide) ?_
    refine lv_istore_n (lv' := [(2, .int (1)), (0, .ref (X.2.2 10 32)), (1, .int y1), (3, .int y3)]) hx hb dL_told_158 rfl hl (by decide) rfl (fun ls hl => ?_)
    obtain ⟨x35, e36⟩ : ∃ z : Int32, z = (y3 + (1 : Int32)) := ⟨_, rfl⟩
    have h := x_let_at h e36
    refine lv_iinc (v := x35) (lv' := [(3, .int x35), (2, .int (1)), (0, .ref (X.2.2 10 32)), (1, .int y1)]) hx hb dL_told_159 hl (k := 3) rfl (by rw [e36]; rfl) (by decide) rfl (fun ls hl => ?_)
    refine lv_goto (tgt := 15) hx hb dL_told_162 (by decide) ?_
    exact hk15 r30.2 y1 (1 : Int32) x35 _ _ _ _ _ ⟨by omega, by omega⟩ h hI (lv_sub hl [2, 3, 1, 0] rfl)
def fL_told_j89 (k15 : x_S → Int32 → Int32 → Int32 → Option (Int64 × x_S)) (σ : x_S) (y1 : Int32) (y3 : Int32) (y4 : Int32) (y5 : Int32) (z0 : Int32) : Option (Int64 × x_S) := (Option.bind (fL_append σ z0) fun r22 => (if (lg_cmp r22.1 (0 : Int64)) ≤ 0 then x_let (y3 + (1 : Int32)) fun x25 => k15 r22.2 y1 (0 : Int32) x25 else (if y5 = 0 then fL_told_j147 k15 r22.2 y1 y3 ((y4 / (5 : Int32)) - (y4 / (5 : Int32)) / (12 : Int32) * (12 : Int32)) else (if (3 : Int32) ≤ y5 then (if y5 = (3 : Int32) then fL_told_j147 k15 r22.2 y1 y3 ((1 : Int32) + ((y4 / (5 : Int32)) - (y4 / (5 : Int32)) / (30 : Int32) * (30 : Int32))) else fL_told_j147 k15 r22.2 y1 y3 (0 : Int32)) else fL_told_j147 k15 r22.2 y1 y3 ((y4 / (5 : Int32)) - (y4 / (5 : Int32)) / (2 : Int32) * (2 : Int32))))))
set_option maxHeartbeats 4000000 in
set_option maxRecDepth 100000 in
theorem wL_told_j89 {p : Program} {l : Launch} {e : Env} {s : State} {m : MethodId} {args : Array Value} {below : List Frame} {meth : Method} {c : Code} {X : x_T} {r : (Int64 × x_S)} (F : x_F p s m args meth c cL_told 6 RL (some .long)) (Z : xm_Z l s X) (k15 : x_S → Int32 → Int32 → Int32 → Option (Int64 × x_S)) (c15 : Nat) (hk15 : ∀ (σ : x_S) (y1 : Int32) (y2 : Int32) (y3 : Int32) (H : Heap) (locs : List Loc) (ls : Array Slot) (cells slots : Nat), cells + c15 ≤ 25 ∧ slots + 6 * c15 ≤ 150 → k15 σ y1 y2 y3 = some r → x_I X σ s H locs → lv_has ls 6 [(0, .ref (X.2.2 10 32)), (1, .int y1), (2, .int y2), (3, .int y3)] → W p l e rm_L_told s m args below meth c H locs cells slots (MQ below (x_Ql X r.1 r.2 s.heap.size) args s 25 150 (x_A X s.heap.size)) (F0 m 15 ls [])) (σ : x_S) (y1 : Int32) (y3 : Int32) (y4 : Int32) (y5 : Int32) (z0 : Int32) (H : Heap) (locs : List Loc) (ls : Array Slot) (cells slots : Nat) (hf : cells + (3 + c15) ≤ 25 ∧ slots + 6 * (3 + c15) ≤ 150) (h : fL_told_j89 k15 σ y1 y3 y4 y5 z0 = some r) (hI : x_I X σ s H locs) (hl : lv_has ls 6 [(0, .ref (X.2.2 10 32)), (1, .int y1), (3, .int y3), (4, .int y4), (5, .int y5)]) : W p l e rm_L_told s m args below meth c H locs cells slots (MQ below (x_Ql X r.1 r.2 s.heap.size) args s 25 150 (x_A X s.heap.size)) (F0 m 89 ls [.int z0, .ref (X.2.2 10 32)]) := by
  have hx := F.1
  have hb := F.2.1
  have hml := F.2.2.1
  have hown := F.2.2.2.1
  have hts := F.2.2.2.2.1
  obtain ⟨hf1, hf2⟩ := hf
  unfold fL_told_j89 at h
  obtain ⟨r22, h23, h⟩ := x_bnd h
  refine xm_acl hI (xw_run (rest := []) F Z.2 hI (mL_append l Z.1 X _ σ z0 r22 h23) gw_L_173 hd_L_append ⟨by decide, by decide⟩ ⟨rfl, rfl⟩ rfl hl.1 rfl (Nat.le_of_ble_eq_true rfl) dL_told_89 ⟨(by show _ ≤ (25 : Nat); omega), (by show _ ≤ (150 : Nat); omega)⟩) (fun H locs hI => ?_)
  refine lv_lconst (v := 0) hx hb dL_told_92 (by decide) ?_
  refine W.lcmp hx hb dL_told_93 ?_
  refine lv_if_le (tgt := 157) hx hb dL_told_94 (by decide) (fun c24 => ?_) (fun c24 => ?_)
  · have h := x_ift h c24
    refine lv_iconst (v := 0) hx hb dL_told_157 (by decide) ?_
    refine lv_istore_n (lv' := [(2, .int (0)), (0, .ref (X.2.2 10 32)), (1, .int y1), (3, .int y3), (4, .int y4), (5, .int y5)]) hx hb dL_told_158 rfl hl (by decide) rfl (fun ls hl => ?_)
    obtain ⟨x25, e26⟩ : ∃ z : Int32, z = (y3 + (1 : Int32)) := ⟨_, rfl⟩
    have h := x_let_at h e26
    refine lv_iinc (v := x25) (lv' := [(3, .int x25), (2, .int (0)), (0, .ref (X.2.2 10 32)), (1, .int y1), (4, .int y4), (5, .int y5)]) hx hb dL_told_159 hl (k := 3) rfl (by rw [e26]; rfl) (by decide) rfl (fun ls hl => ?_)
    refine lv_goto (tgt := 15) hx hb dL_told_162 (by decide) ?_
    exact hk15 r22.2 y1 (0 : Int32) x25 _ _ _ _ _ ⟨by omega, by omega⟩ h hI (lv_sub hl [2, 3, 1, 0] rfl)
  · have h := x_iff h c24
    refine lv_aload_n hx hb dL_told_97 rfl (lv_at hl 0 rfl) ?_
    refine lv_iload hx hb dL_told_98 (lv_at hl 4 rfl) ?_
    refine lv_if_ne (tgt := 113) hx hb dL_told_100 (by decide) (fun c27 => ?_) (fun c27 => ?_)
    · have h := x_iff h c27
      refine lv_iload hx hb dL_told_113 (lv_at hl 4 rfl) ?_
      refine lv_iconst (v := 3) hx hb dL_told_115 (by decide) ?_
      refine lv_icmp_ge (tgt := 128) hx hb dL_told_116 (by decide) (fun c28 => ?_) (fun c28 => ?_)
      · have h := x_ift h c28
        refine lv_iload hx hb dL_told_128 (lv_at hl 4 rfl) ?_
        refine lv_iconst (v := 3) hx hb dL_told_130 (by decide) ?_
        refine lv_icmp_ne (tgt := 146) hx hb dL_told_131 (by decide) (fun c29 => ?_) (fun c29 => ?_)
        · have h := x_iff h c29
          refine lv_iconst (v := 0) hx hb dL_told_146 (by decide) ?_
          exact wL_told_j147 F Z k15 c15 hk15 r22.2 y1 y3 (0 : Int32) _ _ _ _ _ ⟨by omega, by omega⟩ h hI (lv_sub hl [0, 1, 2] rfl)
        · have h := x_ift h c29
          refine lv_iconst (v := 1) hx hb dL_told_134 (by decide) ?_
          refine lv_iload hx hb dL_told_135 (lv_at hl 3 rfl) ?_
          refine lv_iconst (v := 5) hx hb dL_told_137 (by decide) ?_
          refine lv_idiv hx hb dL_told_138 (by decide) ?_
          refine lv_bipush (v := 30) hx hb dL_told_139 (by decide) ?_
          refine lv_irem hx hb dL_told_141 (by decide) ?_
          refine lv_iadd hx hb dL_told_142 ?_
          refine lv_goto (tgt := 147) hx hb dL_told_143 (by decide) ?_
          exact wL_told_j147 F Z k15 c15 hk15 r22.2 y1 y3 ((1 : Int32) + ((y4 / (5 : Int32)) - (y4 / (5 : Int32)) / (30 : Int32) * (30 : Int32))) _ _ _ _ _ ⟨by omega, by omega⟩ h hI (lv_sub hl [0, 1, 2] rfl)
      · have h := x_iff h c28
        refine lv_iload hx hb dL_told_119 (lv_at hl 3 rfl) ?_
        refine lv_iconst (v := 5) hx hb dL_told_121 (by decide) ?_
        refine lv_idiv hx hb dL_told_122 (by decide) ?_
        refine lv_iconst (v := 2) hx hb dL_told_123 (by decide) ?_
        refine lv_irem hx hb dL_told_124 (by decide) ?_
        refine lv_goto (tgt := 147) hx hb dL_told_125 (by decide) ?_
        exact wL_told_j147 F Z k15 c15 hk15 r22.2 y1 y3 ((y4 / (5 : Int32)) - (y4 / (5 : Int32)) / (2 : Int32) * (2 : Int32)) _ _ _ _ _ ⟨by omega, by omega⟩ h hI (lv_sub hl [0, 1, 2] rfl)
    · have h := x_ift h c27
      refine lv_iload hx hb dL_told_103 (lv_at hl 3 rfl) ?_
      refine lv_iconst (v := 5) hx hb dL_told_105 (by decide) ?_
      refine lv_idiv hx hb dL_told_106 (by decide) ?_
      refine lv_bipush (v := 12) hx hb dL_told_107 (by decide) ?_
      refine lv_irem hx hb dL_told_109 (by decide) ?_
      refine lv_goto (tgt := 147) hx hb dL_told_110 (by decide) ?_
      exact wL_told_j147 F Z k15 c15 hk15 r22.2 y1 y3 ((y4 / (5 : Int32)) - (y4 / (5 : Int32)) / (12 : Int32) * (12 : Int32)) _ _ _ _ _ ⟨by omega, by omega⟩ h hI (lv_sub hl [0, 1, 2] rfl)
def fL_told_j54 (k15 : x_S → Int32 → Int32 → Int32 → Option (Int64 × x_S)) (σ : x_S) (y1 : Int32) (y3 : Int32) (y4 : Int32) (y5 : Int32) : Option (Int64 × x_S) := (if y5 = 0 then fL_told_j89 k15 σ y1 y3 y4 y5 (115 : Int32) else (if (3 : Int32) ≤ y5 then (if y5 = (3 : Int32) then fL_told_j89 k15 σ y1 y3 y4 y5 (116 : Int32) else fL_told_j89 k15 σ y1 y3 y4 y5 (120 : Int32)) else fL_told_j89 k15 σ y1 y3 y4 y5 (100 : Int32)))
set_option maxHeartbeats 4000000 in
set_option maxRecDepth 100000 in
theorem wL_told_j54 {p : Program} {l : Launch} {e : Env} {s : State} {m : MethodId} {args : Array Value} {below : List Frame} {meth : Method} {c : Code} {X : x_T} {r : (Int64 × x_S)} (F : x_F p s m args meth c cL_told 6 RL (some .long)) (Z : xm_Z l s X) (k15 : x_S → Int32 → Int32 → Int32 → Option (Int64 × x_S)) (c15 : Nat) (hk15 : ∀ (σ : x_S) (y1 : Int32) (y2 : Int32) (y3 : Int32) (H : Heap) (locs : List Loc) (ls : Array Slot) (cells slots : Nat), cells + c15 ≤ 25 ∧ slots + 6 * c15 ≤ 150 → k15 σ y1 y2 y3 = some r → x_I X σ s H locs → lv_has ls 6 [(0, .ref (X.2.2 10 32)), (1, .int y1), (2, .int y2), (3, .int y3)] → W p l e rm_L_told s m args below meth c H locs cells slots (MQ below (x_Ql X r.1 r.2 s.heap.size) args s 25 150 (x_A X s.heap.size)) (F0 m 15 ls [])) (σ : x_S) (y1 : Int32) (y3 : Int32) (y4 : Int32) (y5 : Int32) (H : Heap) (locs : List Loc) (ls : Array Slot) (cells slots : Nat) (hf : cells + (3 + c15) ≤ 25 ∧ slots + 6 * (3 + c15) ≤ 150) (h : fL_told_j54 k15 σ y1 y3 y4 y5 = some r) (hI : x_I X σ s H locs) (hl : lv_has ls 6 [(0, .ref (X.2.2 10 32)), (1, .int y1), (3, .int y3), (4, .int y4), (5, .int y5)]) : W p l e rm_L_told s m args below meth c H locs cells slots (MQ below (x_Ql X r.1 r.2 s.heap.size) args s 25 150 (x_A X s.heap.size)) (F0 m 54 ls []) := by
  have hx := F.1
  have hb := F.2.1
  have hml := F.2.2.1
  have hown := F.2.2.2.1
  have hts := F.2.2.2.2.1
  obtain ⟨hf1, hf2⟩ := hf
  unfold fL_told_j54 at h
  refine lv_aload_n hx hb dL_told_54 rfl (lv_at hl 0 rfl) ?_
  refine lv_iload hx hb dL_told_55 (lv_at hl 4 rfl) ?_
  refine lv_if_ne (tgt := 65) hx hb dL_told_57 (by decide) (fun c19 => ?_) (fun c19 => ?_)
  · have h := x_iff h c19
    refine lv_iload hx hb dL_told_65 (lv_at hl 4 rfl) ?_
    refine lv_iconst (v := 3) hx hb dL_told_67 (by decide) ?_
    refine lv_icmp_ge (tgt := 76) hx hb dL_told_68 (by decide) (fun c20 => ?_) (fun c20 => ?_)
    · have h := x_ift h c20
      refine lv_iload hx hb dL_told_76 (lv_at hl 4 rfl) ?_
      refine lv_iconst (v := 3) hx hb dL_told_78 (by decide) ?_
      refine lv_icmp_ne (tgt := 87) hx hb dL_told_79 (by decide) (fun c21 => ?_) (fun c21 => ?_)
      · have h := x_iff h c21
        refine lv_bipush (v := 120) hx hb dL_told_87 (by decide) ?_
        exact wL_told_j89 F Z k15 c15 hk15 σ y1 y3 y4 y5 (120 : Int32) _ _ _ _ _ ⟨by omega, by omega⟩ h hI (lv_sub hl [0, 1, 2, 3, 4] rfl)
      · have h := x_ift h c21
        refine lv_bipush (v := 116) hx hb dL_told_82 (by decide) ?_
        refine lv_goto (tgt := 89) hx hb dL_told_84 (by decide) ?_
        exact wL_told_j89 F Z k15 c15 hk15 σ y1 y3 y4 y5 (116 : Int32) _ _ _ _ _ ⟨by omega, by omega⟩ h hI (lv_sub hl [0, 1, 2, 3, 4] rfl)
    · have h := x_iff h c20
      refine lv_bipush (v := 100) hx hb dL_told_71 (by decide) ?_
      refine lv_goto (tgt := 89) hx hb dL_told_73 (by decide) ?_
      exact wL_told_j89 F Z k15 c15 hk15 σ y1 y3 y4 y5 (100 : Int32) _ _ _ _ _ ⟨by omega, by omega⟩ h hI (lv_sub hl [0, 1, 2, 3, 4] rfl)
  · have h := x_ift h c19
    refine lv_bipush (v := 115) hx hb dL_told_60 (by decide) ?_
    refine lv_goto (tgt := 89) hx hb dL_told_62 (by decide) ?_
    exact wL_told_j89 F Z k15 c15 hk15 σ y1 y3 y4 y5 (115 : Int32) _ _ _ _ _ ⟨by omega, by omega⟩ h hI (lv_sub hl [0, 1, 2, 3, 4] rfl)
def fL_told_b15 : Nat → x_S → Int32 → Int32 → Int32 → Option (Int64 × x_S)
  | 0, _, _, _, _ => none
  | n + 1, σ, y1, y2, y3 => (if ((1 : Int32) + (y1 - y1 / (5 : Int32) * (5 : Int32))) ≤ y3 then (if y2 = 0 then some ((-1 : Int64), σ) else (Option.bind (fL_play σ ) fun r6 => some (r6.1, r6.2))) else (if y2 = 0 then some ((-1 : Int64), σ) else x_let (y1 >>> (y3 &&& 31)) fun x9 => x_let (x9 - x9 / (5 : Int32) * (5 : Int32)) fun x11 => (if y3 = 0 then fL_told_j54 (fL_told_b15 n) σ y1 y3 x9 x11 else (Option.bind (fL_append σ (59 : Int32)) fun r14 => (if (lg_cmp r14.1 (0 : Int64)) ≤ 0 then x_let (y3 + (1 : Int32)) fun x17 => (fL_told_b15 n) r14.2 y1 (0 : Int32) x17 else fL_told_j54 (fL_told_b15 n) r14.2 y1 y3 x9 x11)))))
set_option maxHeartbeats 4000000 in
set_option maxRecDepth 100000 in
theorem wL_told_b15 {p : Program} {l : Launch} {e : Env} {s : State} {m : MethodId} {args : Array Value} {below : List Frame} {meth : Method} {c : Code} {X : x_T} {r : (Int64 × x_S)} (F : x_F p s m args meth c cL_told 6 RL (some .long)) (Z : xm_Z l s X) : ∀ (n : Nat) (σ : x_S) (y1 : Int32) (y2 : Int32) (y3 : Int32) (H : Heap) (locs : List Loc) (ls : Array Slot) (cells slots : Nat), cells + (4 * n + 1) ≤ 25 ∧ slots + 6 * (4 * n + 1) ≤ 150 → fL_told_b15 n σ y1 y2 y3 = some r → x_I X σ s H locs → lv_has ls 6 [(0, .ref (X.2.2 10 32)), (1, .int y1), (2, .int y2), (3, .int y3)] → W p l e rm_L_told s m args below meth c H locs cells slots (MQ below (x_Ql X r.1 r.2 s.heap.size) args s 25 150 (x_A X s.heap.size)) (F0 m 15 ls []) := by
  have hx := F.1
  have hb := F.2.1
  have hml := F.2.2.1
  have hown := F.2.2.2.1
  have hts := F.2.2.2.2.1
  intro n
  induction n with
  | zero =>
    intro σ y1 y2 y3 H locs ls cells slots hf h
    rw [fL_told_b15] at h
    cases h
  | succ n ih =>
    intro σ y1 y2 y3 H locs ls cells slots hf h hI hl
    obtain ⟨hf1, hf2⟩ := hf
    rw [fL_told_b15] at h
    refine lv_iload_n hx hb dL_told_15 rfl (lv_at hl 3 rfl) ?_
    refine lv_iconst (v := 1) hx hb dL_told_16 (by decide) ?_
    refine lv_iload_n hx hb dL_told_17 rfl (lv_at hl 1 rfl) ?_
    refine lv_iconst (v := 5) hx hb dL_told_18 (by decide) ?_
    refine lv_irem hx hb dL_told_19 (by decide) ?_
    refine lv_iadd hx hb dL_told_20 ?_
    refine lv_icmp_ge (tgt := 165) hx hb dL_told_21 (by decide) (fun c4 => ?_) (fun c4 => ?_)
    · have h := x_ift h c4
      refine lv_iload_n hx hb dL_told_165 rfl (lv_at hl 2 rfl) ?_
      refine lv_if_eq (tgt := 176) hx hb dL_told_166 (by decide) (fun c5 => ?_) (fun c5 => ?_)
      · have h := x_ift h c5
        refine lv_ldc2 (v := -1) hx hb hown (hts _ u_cl_L_292) dL_told_176 ?_
        rw [x_some h]
        exact W.widen (by omega) (by omega) (x_lret F hI dL_told_179)
      · have h := x_iff h c5
        refine lv_aload_n hx hb dL_told_169 rfl (lv_at hl 0 rfl) ?_
        obtain ⟨r6, h7, h⟩ := x_bnd h
        refine xm_acl hI (xw_run (rest := []) F Z.2 hI (mL_play l Z.1 X _ σ  r6 h7) gw_L_290 hd_L_play ⟨by decide, by decide⟩ ⟨rfl, rfl⟩ rfl hl.1 rfl (Nat.le_of_ble_eq_true rfl) dL_told_170 ⟨(by show _ ≤ (25 : Nat); omega), (by show _ ≤ (150 : Nat); omega)⟩) (fun H locs hI => ?_)
        refine lv_goto (tgt := 179) hx hb dL_told_173 (by decide) ?_
        rw [x_some h]
        exact W.widen (by omega) (by omega) (x_lret F hI dL_told_179)
    · have h := x_iff h c4
      refine lv_iload_n hx hb dL_told_24 rfl (lv_at hl 2 rfl) ?_
      refine lv_if_eq (tgt := 165) hx hb dL_told_25 (by decide) (fun c8 => ?_) (fun c8 => ?_)
      · have h := x_ift h c8
        refine lv_iload_n hx hb dL_told_165 rfl (lv_at hl 2 rfl) ?_
        refine lv_if_eq (tgt := 176) hx hb dL_told_166 (by decide) (fun _ => ?_) (fun c9 => absurd c8 c9)
        refine lv_ldc2 (v := -1) hx hb hown (hts _ u_cl_L_292) dL_told_176 ?_
        rw [x_some h]
        exact W.widen (by omega) (by omega) (x_lret F hI dL_told_179)
      · have h := x_iff h c8
        refine lv_iload_n hx hb dL_told_28 rfl (lv_at hl 1 rfl) ?_
        refine lv_iload_n hx hb dL_told_29 rfl (lv_at hl 3 rfl) ?_
        refine lv_ishr hx hb dL_told_30 ?_
        refine lv_topi (fun x9 e10 => ?_)
        have h := x_let_at h e10
        refine lv_istore (lv' := [(4, .int x9), (0, .ref (X.2.2 10 32)), (1, .int y1), (2, .int y2), (3, .int y3)]) hx hb dL_told_31 hl (by decide) rfl (fun ls hl => ?_)
        refine lv_iload hx hb dL_told_33 (lv_at hl 0 rfl) ?_
        refine lv_iconst (v := 5) hx hb dL_told_35 (by decide) ?_
        refine lv_irem hx hb dL_told_36 (by decide) ?_
        refine lv_topi (fun x11 e12 => ?_)
        have h := x_let_at h e12
        refine lv_istore (lv' := [(5, .int x11), (4, .int x9), (0, .ref (X.2.2 10 32)), (1, .int y1), (2, .int y2), (3, .int y3)]) hx hb dL_told_37 hl (by decide) rfl (fun ls hl => ?_)
        refine lv_iload_n hx hb dL_told_39 rfl (lv_at hl 5 rfl) ?_
        refine lv_if_eq (tgt := 54) hx hb dL_told_40 (by decide) (fun c13 => ?_) (fun c13 => ?_)
        · have h := x_ift h c13
          exact wL_told_j54 F Z (fL_told_b15 n) (4 * n + 1) ih σ y1 y3 x9 x11 _ _ _ _ _ ⟨by omega, by omega⟩ h hI (lv_sub hl [2, 3, 5, 1, 0] rfl)
        · have h := x_iff h c13
          refine lv_aload_n hx hb dL_told_43 rfl (lv_at hl 2 rfl) ?_
          refine lv_bipush (v := 59) hx hb dL_told_44 (by decide) ?_
          obtain ⟨r14, h15, h⟩ := x_bnd h
          refine xm_acl hI (xw_run (rest := []) F Z.2 hI (mL_append l Z.1 X _ σ (59 : Int32) r14 h15) gw_L_173 hd_L_append ⟨by decide, by decide⟩ ⟨rfl, rfl⟩ rfl hl.1 rfl (Nat.le_of_ble_eq_true rfl) dL_told_46 ⟨(by show _ ≤ (25 : Nat); omega), (by show _ ≤ (150 : Nat); omega)⟩) (fun H locs hI => ?_)
          refine lv_lconst (v := 0) hx hb dL_told_49 (by decide) ?_
          refine W.lcmp hx hb dL_told_50 ?_
          refine lv_if_le (tgt := 157) hx hb dL_told_51 (by decide) (fun c16 => ?_) (fun c16 => ?_)
          · have h := x_ift h c16
            refine lv_iconst (v := 0) hx hb dL_told_157 (by decide) ?_
            refine lv_istore_n (lv' := [(2, .int (0)), (5, .int x11), (4, .int x9), (0, .ref (X.2.2 10 32)), (1, .int y1), (3, .int y3)]) hx hb dL_told_158 rfl hl (by decide) rfl (fun ls hl => ?_)
            obtain ⟨x17, e18⟩ : ∃ z : Int32, z = (y3 + (1 : Int32)) := ⟨_, rfl⟩
            have h := x_let_at h e18
            refine lv_iinc (v := x17) (lv' := [(3, .int x17), (2, .int (0)), (5, .int x11), (4, .int x9), (0, .ref (X.2.2 10 32)), (1, .int y1)]) hx hb dL_told_159 hl (k := 5) rfl (by rw [e18]; rfl) (by decide) rfl (fun ls hl => ?_)
            refine lv_goto (tgt := 15) hx hb dL_told_162 (by decide) ?_
            exact ih r14.2 y1 (0 : Int32) x17 _ _ _ _ _ ⟨by omega, by omega⟩ h hI (lv_sub hl [4, 5, 1, 0] rfl)
          · have h := x_iff h c16
            exact wL_told_j54 F Z (fL_told_b15 n) (4 * n + 1) ih r14.2 y1 y3 x9 x11 _ _ _ _ _ ⟨by omega, by omega⟩ h hI (lv_sub hl [2, 3, 5, 1, 0] rfl)
def fL_told (σ : x_S) (a1 : Int32) : Option (Int64 × x_S) := (Option.bind (fX6_clearBuffer σ ) fun r1 => (if r1.1 < 0 then fL_told_b15 6 r1.2 a1 (0 : Int32) (0 : Int32) else fL_told_b15 6 r1.2 a1 (1 : Int32) (0 : Int32)))
set_option maxHeartbeats 4000000 in
set_option maxRecDepth 100000 in
theorem mL_told (l : Launch) (hl0 : l.stackTraces = false) (X : x_T) (sz : Nat) (σ : x_S) (a1 : Int32) (r : (Int64 × x_S)) (h : fL_told σ a1 = some r) : Met l yL_told (x_ws yL_told cL_told 6 (some .long)) rm_L_told (x_PcT X σ sz [.ref (X.2.2 10 32), .int a1]) (x_Ql X r.1 r.2 sz) 25 150 (x_A X sz) := by
  refine Met.ofW (cc := cL_told) (maxL := 6) (ret := (some .long)) (by decide) rfl ?_
  intro p e s m args below meth c s₁ B hml hv
  obtain ⟨F, Z, hI, rfl, rfl⟩ := xm_begin hl0 B hml hv
  replace F : x_F p s m _ meth c cL_told 6 RL (some .long) := F
  have hx := F.1
  have hb := F.2.1
  have hml := F.2.2.1
  have hown := F.2.2.2.1
  have hts := F.2.2.2.2.1
  refine x_entry (vs := [.ref (X.2.2 10 32), .int a1]) (n := 6) (Nat.le_of_ble_eq_true rfl) (fun ls hl => ?_)
  replace hl : lv_has ls 6 [(0, .ref (X.2.2 10 32)), (1, .int a1)] := hl
  unfold fL_told at h
  refine lv_aload_n hx hb dL_told_0 rfl (lv_at hl 0 rfl) ?_
  obtain ⟨r1, h2, h⟩ := x_bnd h
  refine x_aci hI (x_runV (rest := []) F hI (mX6_clearBuffer l X _ σ  r1 h2) g_L_283 ⟨rfl, hd_X6_clearBuffer⟩ ⟨by decide, by decide⟩ ⟨rfl, rfl⟩ (x_inO (by decide)) rfl rfl rfl rfl hl.1 rfl (Nat.le_of_ble_eq_true rfl) dL_told_1 ⟨(by show _ ≤ (25 : Nat); omega), (by show _ ≤ (150 : Nat); omega)⟩) (fun H locs hI => ?_)
  refine lv_if_lt (tgt := 11) hx hb dL_told_4 (by decide) (fun c3 => ?_) (fun c3 => ?_)
  · have h := x_ift h c3
    refine lv_iconst (v := 0) hx hb dL_told_11 (by decide) ?_
    refine lv_istore_n (lv' := [(2, .int (0)), (0, .ref (X.2.2 10 32)), (1, .int a1)]) hx hb dL_told_12 rfl hl (by decide) rfl (fun ls hl => ?_)
    refine lv_iconst (v := 0) hx hb dL_told_13 (by decide) ?_
    refine lv_istore_n (lv' := [(3, .int (0)), (2, .int (0)), (0, .ref (X.2.2 10 32)), (1, .int a1)]) hx hb dL_told_14 rfl hl (by decide) rfl (fun ls hl => ?_)
    exact wL_told_b15 F Z 6 r1.2 a1 (0 : Int32) (0 : Int32) _ _ _ _ _ ⟨by omega, by omega⟩ h hI (lv_sub hl [2, 3, 1, 0] rfl)
  · have h := x_iff h c3
    refine lv_iconst (v := 1) hx hb dL_told_7 (by decide) ?_
    refine lv_goto (tgt := 12) hx hb dL_told_8 (by decide) ?_
    refine lv_istore_n (lv' := [(2, .int (1)), (0, .ref (X.2.2 10 32)), (1, .int a1)]) hx hb dL_told_12 rfl hl (by decide) rfl (fun ls hl => ?_)
    refine lv_iconst (v := 0) hx hb dL_told_13 (by decide) ?_
    refine lv_istore_n (lv' := [(3, .int (0)), (2, .int (1)), (0, .ref (X.2.2 10 32)), (1, .int a1)]) hx hb dL_told_14 rfl hl (by decide) rfl (fun ls hl => ?_)
    exact wL_told_b15 F Z 6 r1.2 a1 (1 : Int32) (0 : Int32) _ _ _ _ _ ⟨by omega, by omega⟩ h hI (lv_sub hl [2, 3, 1, 0] rfl)
