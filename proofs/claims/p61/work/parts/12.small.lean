abbrev rm_X6_isGuest : Room := { frames := 0, cells := 0, slots := 0, locals := 0 }
def fX6_isGuest (a1 : Int32) : Option Int32 := (if a1 < 0 then some (0 : Int32) else (if (12 : Int32) ≤ a1 then some (0 : Int32) else some (1 : Int32)))
set_option maxHeartbeats 4000000 in
set_option maxRecDepth 100000 in
theorem mX6_isGuest (l : Launch) (X : x_T) (σ : x_S) (sz : Nat) (a1 : Int32) (r : Int32) (h : fX6_isGuest a1 = some r) : Met l yX6_isGuest (x_ws yX6_isGuest cX6_isGuest 1 (some .boolean)) rm_X6_isGuest (x_Pc X σ sz [.int a1]) (x_Qi X r σ sz) 0 0 (x_A X sz) := by
  refine Met.ofW (cc := cX6_isGuest) (maxL := 1) (ret := (some .boolean)) (by decide) rfl ?_
  intro p e s m args below meth c s₁ B hml hv
  obtain ⟨F, hI, rfl, rfl⟩ := x_begin B hml hv
  replace F : x_F p s m _ meth c cX6_isGuest 1 RX6 (some .boolean) := F
  have hx := F.1
  have hb := F.2.1
  have hml := F.2.2.1
  have hown := F.2.2.2.1
  have hts := F.2.2.2.2.1
  refine x_entry (vs := [.int a1]) (n := 1) (Nat.le_of_ble_eq_true rfl) (fun ls hl => ?_)
  replace hl : lv_has ls 1 [(0, .int a1)] := hl
  unfold fX6_isGuest at h
  refine lv_iload_n hx hb dX6_isGuest_0 rfl (lv_at hl 0 rfl) ?_
  refine lv_if_lt (tgt := 14) hx hb dX6_isGuest_1 (by decide) (fun c1 => ?_) (fun c1 => ?_)
  · have h := x_ift h c1
    refine lv_iconst (v := 0) hx hb dX6_isGuest_14 (by decide) ?_
    rw [x_some h]
    exact x_zret (v := 0) F hI (by decide) dX6_isGuest_15
  · have h := x_iff h c1
    refine lv_iload_n hx hb dX6_isGuest_4 rfl (lv_at hl 0 rfl) ?_
    refine lv_bipush (v := 12) hx hb dX6_isGuest_5 (by decide) ?_
    refine lv_icmp_ge (tgt := 14) hx hb dX6_isGuest_7 (by decide) (fun c2 => ?_) (fun c2 => ?_)
    · have h := x_ift h c2
      refine lv_iconst (v := 0) hx hb dX6_isGuest_14 (by decide) ?_
      rw [x_some h]
      exact x_zret (v := 0) F hI (by decide) dX6_isGuest_15
    · have h := x_iff h c2
      refine lv_iconst (v := 1) hx hb dX6_isGuest_10 (by decide) ?_
      refine lv_goto (tgt := 15) hx hb dX6_isGuest_11 (by decide) ?_
      rw [x_some h]
      exact x_zret (v := 1) F hI (by decide) dX6_isGuest_15
abbrev rm_X6_isRoom : Room := { frames := 0, cells := 0, slots := 0, locals := 0 }
def fX6_isRoom (a1 : Int32) : Option Int32 := (if a1 < 0 then some (0 : Int32) else (if (16 : Int32) ≤ a1 then some (0 : Int32) else some (1 : Int32)))
set_option maxHeartbeats 4000000 in
set_option maxRecDepth 100000 in
theorem mX6_isRoom (l : Launch) (X : x_T) (σ : x_S) (sz : Nat) (a1 : Int32) (r : Int32) (h : fX6_isRoom a1 = some r) : Met l yX6_isRoom (x_ws yX6_isRoom cX6_isRoom 1 (some .boolean)) rm_X6_isRoom (x_Pc X σ sz [.int a1]) (x_Qi X r σ sz) 0 0 (x_A X sz) := by
  refine Met.ofW (cc := cX6_isRoom) (maxL := 1) (ret := (some .boolean)) (by decide) rfl ?_
  intro p e s m args below meth c s₁ B hml hv
  obtain ⟨F, hI, rfl, rfl⟩ := x_begin B hml hv
  replace F : x_F p s m _ meth c cX6_isRoom 1 RX6 (some .boolean) := F
  have hx := F.1
  have hb := F.2.1
  have hml := F.2.2.1
  have hown := F.2.2.2.1
  have hts := F.2.2.2.2.1
  refine x_entry (vs := [.int a1]) (n := 1) (Nat.le_of_ble_eq_true rfl) (fun ls hl => ?_)
  replace hl : lv_has ls 1 [(0, .int a1)] := hl
  unfold fX6_isRoom at h
  refine lv_iload_n hx hb dX6_isRoom_0 rfl (lv_at hl 0 rfl) ?_
  refine lv_if_lt (tgt := 14) hx hb dX6_isRoom_1 (by decide) (fun c1 => ?_) (fun c1 => ?_)
  · have h := x_ift h c1
    refine lv_iconst (v := 0) hx hb dX6_isRoom_14 (by decide) ?_
    rw [x_some h]
    exact x_zret (v := 0) F hI (by decide) dX6_isRoom_15
  · have h := x_iff h c1
    refine lv_iload_n hx hb dX6_isRoom_4 rfl (lv_at hl 0 rfl) ?_
    refine lv_bipush (v := 16) hx hb dX6_isRoom_5 (by decide) ?_
    refine lv_icmp_ge (tgt := 14) hx hb dX6_isRoom_7 (by decide) (fun c2 => ?_) (fun c2 => ?_)
    · have h := x_ift h c2
      refine lv_iconst (v := 0) hx hb dX6_isRoom_14 (by decide) ?_
      rw [x_some h]
      exact x_zret (v := 0) F hI (by decide) dX6_isRoom_15
    · have h := x_iff h c2
      refine lv_iconst (v := 1) hx hb dX6_isRoom_10 (by decide) ?_
      refine lv_goto (tgt := 15) hx hb dX6_isRoom_11 (by decide) ?_
      rw [x_some h]
      exact x_zret (v := 1) F hI (by decide) dX6_isRoom_15
abbrev rm_X6_mix : Room := { frames := 0, cells := 0, slots := 0, locals := 0 }
def fX6_mix (a1 : Int64) (a2 : Int64) : Option Int64 := some (((31 : Int64) * a1) + a2)
set_option maxHeartbeats 4000000 in
set_option maxRecDepth 100000 in
theorem mX6_mix (l : Launch) (X : x_T) (σ : x_S) (sz : Nat) (a1 : Int64) (a2 : Int64) (r : Int64) (h : fX6_mix a1 a2 = some r) : Met l yX6_mix (x_ws yX6_mix cX6_mix 4 (some .long)) rm_X6_mix (x_Pc X σ sz [.long a1, .long a2]) (x_Ql X r σ sz) 0 0 (x_A X sz) := by
  refine Met.ofW (cc := cX6_mix) (maxL := 4) (ret := (some .long)) (by decide) rfl ?_
  intro p e s m args below meth c s₁ B hml hv
  obtain ⟨F, hI, rfl, rfl⟩ := x_begin B hml hv
  replace F : x_F p s m _ meth c cX6_mix 4 RX6 (some .long) := F
  have hx := F.1
  have hb := F.2.1
  have hml := F.2.2.1
  have hown := F.2.2.2.1
  have hts := F.2.2.2.2.1
  refine x_entry (vs := [.long a1, .long a2]) (n := 4) (Nat.le_of_ble_eq_true rfl) (fun ls hl => ?_)
  replace hl : lv_has ls 4 [(0, .long a1), (2, .long a2)] := hl
  unfold fX6_mix at h
  refine lv_ldc2 (v := 31) hx hb hown (hts _ u_cl_X6_305) dX6_mix_0 ?_
  refine lv_lload_n hx hb dX6_mix_3 rfl (lv_at hl 0 rfl) ?_
  refine lv_lmul hx hb dX6_mix_4 ?_
  refine lv_lload_n hx hb dX6_mix_5 rfl (lv_at hl 1 rfl) ?_
  refine lv_ladd hx hb dX6_mix_6 ?_
  rw [x_some h]
  exact x_lret F hI dX6_mix_7
abbrev rm_X6_bitsOfShare : Room := { frames := 0, cells := 0, slots := 0, locals := 0 }
def fX6_bitsOfShare_b2 : Nat → Int32 → Int32 → Option Int64
  | 0, _, _ => none
  | n + 1, y0, y1 => (if y1 < 0 then some (0 : Int64) else x_let ((1 : Int32) <<< (y1 &&& 31)) fun x2 => (if y0 < x2 then x_let (y1 + (-1 : Int32)) fun x5 => fX6_bitsOfShare_b2 n y0 x5 else x_let (((1023 : Int64) + y1.toInt64) - (4 : Int64)) fun x7 => x_let (((y0 - x2)).toInt64 <<< (((52 : Int32) - y1).toInt64 &&& 63)) fun x9 => some ((x7 <<< ((52 : Int32).toInt64 &&& 63)) + x9)))
set_option maxHeartbeats 4000000 in
set_option maxRecDepth 100000 in
theorem wX6_bitsOfShare_b2 {p : Program} {l : Launch} {e : Env} {s : State} {m : MethodId} {args : Array Value} {below : List Frame} {meth : Method} {c : Code} {X : x_T} {σ : x_S} {r : Int64} (F : x_F p s m args meth c cX6_bitsOfShare 7 RX6 (some .long)) : ∀ (n : Nat) (y0 : Int32) (y1 : Int32) (H : Heap) (locs : List Loc) (ls : Array Slot), fX6_bitsOfShare_b2 n y0 y1 = some r → x_I X σ s H locs → lv_has ls 7 [(0, .int y0), (1, .int y1)] → W p l e rm_X6_bitsOfShare s m args below meth c H locs 0 0 (MQ below (x_Ql X r σ s.heap.size) args s 0 0 (x_A X s.heap.size)) (F0 m 2 ls []) := by
  have hx := F.1
  have hb := F.2.1
  have hml := F.2.2.1
  have hown := F.2.2.2.1
  have hts := F.2.2.2.2.1
  intro n
  induction n with
  | zero =>
    intro y0 y1 H locs ls h
    rw [fX6_bitsOfShare_b2] at h
    cases h
  | succ n ih =>
    intro y0 y1 H locs ls h hI hl
    rw [fX6_bitsOfShare_b2] at h
    refine lv_iload_n hx hb dX6_bitsOfShare_2 rfl (lv_at hl 1 rfl) ?_
    refine lv_if_lt (tgt := 51) hx hb dX6_bitsOfShare_3 (by decide) (fun c1 => ?_) (fun c1 => ?_)
    · have h := x_ift h c1
      refine lv_lconst (v := 0) hx hb dX6_bitsOfShare_51 (by decide) ?_
      rw [x_some h]
      exact x_lret F hI dX6_bitsOfShare_52
    · have h := x_iff h c1
      refine lv_iconst (v := 1) hx hb dX6_bitsOfShare_6 (by decide) ?_
      refine lv_iload_n hx hb dX6_bitsOfShare_7 rfl (lv_at hl 1 rfl) ?_
      refine lv_ishl hx hb dX6_bitsOfShare_8 ?_
      refine lv_topi (fun x2 e3 => ?_)
      have h := x_let_at h e3
      refine lv_istore_n (lv' := [(2, .int x2), (0, .int y0), (1, .int y1)]) hx hb dX6_bitsOfShare_9 rfl hl (by decide) rfl (fun ls hl => ?_)
      refine lv_iload_n hx hb dX6_bitsOfShare_10 rfl (lv_at hl 1 rfl) ?_
      refine lv_iload_n hx hb dX6_bitsOfShare_11 rfl (lv_at hl 0 rfl) ?_
      refine lv_icmp_lt (tgt := 45) hx hb dX6_bitsOfShare_12 (by decide) (fun c4 => ?_) (fun c4 => ?_)
      · have h := x_ift h c4
        obtain ⟨x5, e6⟩ : ∃ z : Int32, z = (y1 + (-1 : Int32)) := ⟨_, rfl⟩
        have h := x_let_at h e6
        refine lv_iinc (v := x5) (lv' := [(1, .int x5), (2, .int x2), (0, .int y0)]) hx hb dX6_bitsOfShare_45 hl (k := 2) rfl (by rw [e6]; rfl) (by decide) rfl (fun ls hl => ?_)
        refine lv_goto (tgt := 2) hx hb dX6_bitsOfShare_48 (by decide) ?_
        exact ih y0 x5 _ _ _ h hI (lv_sub hl [2, 0] rfl)
      · have h := x_iff h c4
        refine lv_ldc2 (v := 1023) hx hb hown (hts _ u_cl_X6_311) dX6_bitsOfShare_15 ?_
        refine lv_iload_n hx hb dX6_bitsOfShare_18 rfl (lv_at hl 2 rfl) ?_
        refine lv_i2l hx hb dX6_bitsOfShare_19 rfl ?_
        refine lv_ladd hx hb dX6_bitsOfShare_20 ?_
        refine lv_ldc2 (v := 4) hx hb hown (hts _ u_cl_X6_313) dX6_bitsOfShare_21 ?_
        refine lv_lsub hx hb dX6_bitsOfShare_24 ?_
        refine lv_topl (fun x7 e8 => ?_)
        have h := x_let_at h e8
        refine lv_lstore_n (lv' := [(3, .long x7), (2, .int x2), (0, .int y0), (1, .int y1)]) hx hb dX6_bitsOfShare_25 rfl hl (by decide) rfl (fun ls hl => ?_)
        refine lv_iload_n hx hb dX6_bitsOfShare_26 rfl (lv_at hl 2 rfl) ?_
        refine lv_iload_n hx hb dX6_bitsOfShare_27 rfl (lv_at hl 1 rfl) ?_
        refine lv_isub hx hb dX6_bitsOfShare_28 ?_
        refine lv_i2l hx hb dX6_bitsOfShare_29 rfl ?_
        refine lv_bipush (v := 52) hx hb dX6_bitsOfShare_30 (by decide) ?_
        refine lv_iload_n hx hb dX6_bitsOfShare_32 rfl (lv_at hl 3 rfl) ?_
        refine lv_isub hx hb dX6_bitsOfShare_33 ?_
        refine lv_lshl hx hb dX6_bitsOfShare_34 rfl ?_
        refine lv_topl (fun x9 e10 => ?_)
        have h := x_let_at h e10
        refine lv_lstore (lv' := [(5, .long x9), (3, .long x7), (2, .int x2), (0, .int y0), (1, .int y1)]) hx hb dX6_bitsOfShare_35 hl (by decide) rfl (fun ls hl => ?_)
        refine lv_lload_n hx hb dX6_bitsOfShare_37 rfl (lv_at hl 1 rfl) ?_
        refine lv_bipush (v := 52) hx hb dX6_bitsOfShare_38 (by decide) ?_
        refine lv_lshl hx hb dX6_bitsOfShare_40 rfl ?_
        refine lv_lload hx hb dX6_bitsOfShare_41 (lv_at hl 0 rfl) ?_
        refine lv_ladd hx hb dX6_bitsOfShare_43 ?_
        rw [x_some h]
        exact x_lret F hI dX6_bitsOfShare_44
def fX6_bitsOfShare (a1 : Int32) : Option Int64 := fX6_bitsOfShare_b2 400 a1 (4 : Int32)
set_option maxHeartbeats 4000000 in
set_option maxRecDepth 100000 in
theorem mX6_bitsOfShare (l : Launch) (X : x_T) (σ : x_S) (sz : Nat) (a1 : Int32) (r : Int64) (h : fX6_bitsOfShare a1 = some r) : Met l yX6_bitsOfShare (x_ws yX6_bitsOfShare cX6_bitsOfShare 7 (some .long)) rm_X6_bitsOfShare (x_Pc X σ sz [.int a1]) (x_Ql X r σ sz) 0 0 (x_A X sz) := by
  refine Met.ofW (cc := cX6_bitsOfShare) (maxL := 7) (ret := (some .long)) (by decide) rfl ?_
  intro p e s m args below meth c s₁ B hml hv
  obtain ⟨F, hI, rfl, rfl⟩ := x_begin B hml hv
  replace F : x_F p s m _ meth c cX6_bitsOfShare 7 RX6 (some .long) := F
  have hx := F.1
  have hb := F.2.1
  have hml := F.2.2.1
  have hown := F.2.2.2.1
  have hts := F.2.2.2.2.1
  refine x_entry (vs := [.int a1]) (n := 7) (Nat.le_of_ble_eq_true rfl) (fun ls hl => ?_)
  replace hl : lv_has ls 7 [(0, .int a1)] := hl
  unfold fX6_bitsOfShare at h
  refine lv_iconst (v := 4) hx hb dX6_bitsOfShare_0 (by decide) ?_
  refine lv_istore_n (lv' := [(1, .int (4)), (0, .int a1)]) hx hb dX6_bitsOfShare_1 rfl hl (by decide) rfl (fun ls hl => ?_)
  exact wX6_bitsOfShare_b2 F 400 a1 (4 : Int32) _ _ _ h hI (lv_sub hl [1, 0] rfl)
abbrev rm_X0_isLetter : Room := { frames := 0, cells := 0, slots := 0, locals := 0 }
def fX0_isLetter (a1 : Int32) : Option Int32 := (if a1 = (115 : Int32) then some (1 : Int32) else (if a1 = (103 : Int32) then some (1 : Int32) else (if a1 = (114 : Int32) then some (1 : Int32) else (if a1 = (100 : Int32) then some (1 : Int32) else (if a1 = (120 : Int32) then some (1 : Int32) else (if a1 = (116 : Int32) then some (1 : Int32) else some (0 : Int32)))))))
set_option maxHeartbeats 4000000 in
set_option maxRecDepth 100000 in
theorem mX0_isLetter (l : Launch) (X : x_T) (σ : x_S) (sz : Nat) (a1 : Int32) (r : Int32) (h : fX0_isLetter a1 = some r) : Met l yX0_isLetter (x_ws yX0_isLetter cX0_isLetter 1 (some .boolean)) rm_X0_isLetter (x_Pc X σ sz [.int a1]) (x_Qi X r σ sz) 0 0 (x_A X sz) := by
  refine Met.ofW (cc := cX0_isLetter) (maxL := 1) (ret := (some .boolean)) (by decide) rfl ?_
  intro p e s m args below meth c s₁ B hml hv
  obtain ⟨F, hI, rfl, rfl⟩ := x_begin B hml hv
  replace F : x_F p s m _ meth c cX0_isLetter 1 RX0 (some .boolean) := F
  have hx := F.1
  have hb := F.2.1
  have hml := F.2.2.1
  have hown := F.2.2.2.1
  have hts := F.2.2.2.2.1
  refine x_entry (vs := [.int a1]) (n := 1) (Nat.le_of_ble_eq_true rfl) (fun ls hl => ?_)
  replace hl : lv_has ls 1 [(0, .int a1)] := hl
  unfold fX0_isLetter at h
  refine lv_iload_n hx hb dX0_isLetter_0 rfl (lv_at hl 0 rfl) ?_
  refine lv_bipush (v := 115) hx hb dX0_isLetter_1 (by decide) ?_
  refine lv_icmp_eq (tgt := 36) hx hb dX0_isLetter_3 (by decide) (fun c1 => ?_) (fun c1 => ?_)
  · have h := x_ift h c1
    refine lv_iconst (v := 1) hx hb dX0_isLetter_36 (by decide) ?_
    refine lv_goto (tgt := 41) hx hb dX0_isLetter_37 (by decide) ?_
    rw [x_some h]
    exact x_zret (v := 1) F hI (by decide) dX0_isLetter_41
  · have h := x_iff h c1
    refine lv_iload_n hx hb dX0_isLetter_6 rfl (lv_at hl 0 rfl) ?_
    refine lv_bipush (v := 103) hx hb dX0_isLetter_7 (by decide) ?_
    refine lv_icmp_eq (tgt := 36) hx hb dX0_isLetter_9 (by decide) (fun c2 => ?_) (fun c2 => ?_)
    · have h := x_ift h c2
      refine lv_iconst (v := 1) hx hb dX0_isLetter_36 (by decide) ?_
      refine lv_goto (tgt := 41) hx hb dX0_isLetter_37 (by decide) ?_
      rw [x_some h]
      exact x_zret (v := 1) F hI (by decide) dX0_isLetter_41
    · have h := x_iff h c2
      refine lv_iload_n hx hb dX0_isLetter_12 rfl (lv_at hl 0 rfl) ?_
      refine lv_bipush (v := 114) hx hb dX0_isLetter_13 (by decide) ?_
      refine lv_icmp_eq (tgt := 36) hx hb dX0_isLetter_15 (by decide) (fun c3 => ?_) (fun c3 => ?_)
      · have h := x_ift h c3
        refine lv_iconst (v := 1) hx hb dX0_isLetter_36 (by decide) ?_
        refine lv_goto (tgt := 41) hx hb dX0_isLetter_37 (by decide) ?_
        rw [x_some h]
        exact x_zret (v := 1) F hI (by decide) dX0_isLetter_41
      · have h := x_iff h c3
        refine lv_iload_n hx hb dX0_isLetter_18 rfl (lv_at hl 0 rfl) ?_
        refine lv_bipush (v := 100) hx hb dX0_isLetter_19 (by decide) ?_
        refine lv_icmp_eq (tgt := 36) hx hb dX0_isLetter_21 (by decide) (fun c4 => ?_) (fun c4 => ?_)
        · have h := x_ift h c4
          refine lv_iconst (v := 1) hx hb dX0_isLetter_36 (by decide) ?_
          refine lv_goto (tgt := 41) hx hb dX0_isLetter_37 (by decide) ?_
          rw [x_some h]
          exact x_zret (v := 1) F hI (by decide) dX0_isLetter_41
        · have h := x_iff h c4
          refine lv_iload_n hx hb dX0_isLetter_24 rfl (lv_at hl 0 rfl) ?_
          refine lv_bipush (v := 120) hx hb dX0_isLetter_25 (by decide) ?_
          refine lv_icmp_eq (tgt := 36) hx hb dX0_isLetter_27 (by decide) (fun c5 => ?_) (fun c5 => ?_)
          · have h := x_ift h c5
            refine lv_iconst (v := 1) hx hb dX0_isLetter_36 (by decide) ?_
            refine lv_goto (tgt := 41) hx hb dX0_isLetter_37 (by decide) ?_
            rw [x_some h]
            exact x_zret (v := 1) F hI (by decide) dX0_isLetter_41
          · have h := x_iff h c5
            refine lv_iload_n hx hb dX0_isLetter_30 rfl (lv_at hl 0 rfl) ?_
            refine lv_bipush (v := 116) hx hb dX0_isLetter_31 (by decide) ?_
            refine lv_icmp_ne (tgt := 40) hx hb dX0_isLetter_33 (by decide) (fun c6 => ?_) (fun c6 => ?_)
            · have h := x_iff h c6
              refine lv_iconst (v := 0) hx hb dX0_isLetter_40 (by decide) ?_
              rw [x_some h]
              exact x_zret (v := 0) F hI (by decide) dX0_isLetter_41
            · have h := x_ift h c6
              refine lv_iconst (v := 1) hx hb dX0_isLetter_36 (by decide) ?_
              refine lv_goto (tgt := 41) hx hb dX0_isLetter_37 (by decide) ?_
              rw [x_some h]
              exact x_zret (v := 1) F hI (by decide) dX0_isLetter_41
