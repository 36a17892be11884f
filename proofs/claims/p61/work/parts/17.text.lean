abbrev rm_X0_add : Room := { frames := 0, cells := 0, slots := 0, locals := 0 }
def fX0_add (u : x_H) (a1 : Int32) : Option x_H := (if (u 37 0) < 0 then some (u) else (if (60 : Int32) ≤ (u 37 0) then some (u) else (if x_in (u 37 0) 60 then x_let (x_hu u 38 (Int32.toNatClampNeg (u 37 0)) (vp_nar .char a1)) fun u3 => x_let (x_hu u3 37 0 ((u3 37 0) + (1 : Int32))) fun u6 => some (u6) else none)))
set_option maxHeartbeats 4000000 in
set_option maxRecDepth 100000 in
theorem mX0_add (l : Launch) (X : x_T) (σ : x_S) (sz : Nat) (u : x_H) (a1 : Int32) (r : x_H) (h : fX0_add u a1 = some r) : Met l yX0_add (x_ws yX0_add cX0_add 2 none) rm_X0_add (x_Pc X (x_sh σ 10 u) sz [.ref (X.2.2 10 37), .int a1]) (x_Qv X (x_sh σ 10 r) sz) 0 0 (x_A X sz) := by
  refine Met.ofW (cc := cX0_add) (maxL := 2) (ret := none) (by decide) rfl ?_
  intro p e s m args below meth c s₁ B hml hv
  obtain ⟨F, hI, rfl, rfl⟩ := x_begin B hml hv
  replace F : x_F p s m _ meth c cX0_add 2 RX0 none := F
  have hx := F.1
  have hb := F.2.1
  have hml := F.2.2.1
  have hown := F.2.2.2.1
  have hts := F.2.2.2.2.1
  refine x_entry (vs := [.ref (X.2.2 10 37), .int a1]) (n := 2) (Nat.le_of_ble_eq_true rfl) (fun ls hl => ?_)
  replace hl : lv_has ls 2 [(0, .ref (X.2.2 10 37)), (1, .int a1)] := hl
  unfold fX0_add at h
  refine lv_aload_n hx hb dX0_add_0 rfl (lv_at hl 0 rfl) ?_
  refine xg_0_1 F hI (x_inO (by decide)) u_fl_X0_15 dX0_add_1 ?_
  refine lv_if_lt (tgt := 36) hx hb dX0_add_4 (by decide) (fun c1 => ?_) (fun c1 => ?_)
  · have h := x_ift h c1
    rw [x_some h]
    exact x_vret F hI dX0_add_36
  · have h := x_iff h c1
    refine lv_aload_n hx hb dX0_add_7 rfl (lv_at hl 0 rfl) ?_
    refine xg_0_1 F hI (x_inO (by decide)) u_fl_X0_15 dX0_add_8 ?_
    refine lv_bipush (v := 60) hx hb dX0_add_11 (by decide) ?_
    refine lv_icmp_ge (tgt := 36) hx hb dX0_add_13 (by decide) (fun c2 => ?_) (fun c2 => ?_)
    · have h := x_ift h c2
      rw [x_some h]
      exact x_vret F hI dX0_add_36
    · have h := x_iff h c2
      refine lv_aload_n hx hb dX0_add_16 rfl (lv_at hl 0 rfl) ?_
      refine xg_0_0 F hI (x_inO (by decide)) u_fl_X0_9 dX0_add_17 ?_
      refine lv_aload_n hx hb dX0_add_20 rfl (lv_at hl 0 rfl) ?_
      refine xg_0_1 F hI (x_inO (by decide)) u_fl_X0_15 dX0_add_21 ?_
      refine lv_iload_n hx hb dX0_add_24 rfl (lv_at hl 1 rfl) ?_
      obtain ⟨g5, h⟩ := x_chk h
      refine xh_cast (n := 60) F hI (x_inO (by decide)) (fun _ => rfl) g5 dX0_add_25 (fun H locs u3 e4 hI => ?_)
      have h := x_let_at h e4
      refine lv_aload_n hx hb dX0_add_26 rfl (lv_at hl 0 rfl) ?_
      refine lv_dup hx hb dX0_add_27 rfl ?_
      refine xg_0_1 F hI (x_inO (by decide)) u_fl_X0_15 dX0_add_28 ?_
      refine lv_iconst (v := 1) hx hb dX0_add_31 (by decide) ?_
      refine lv_iadd hx hb dX0_add_32 ?_
      refine xp_0_1 F hI (x_inO (by decide)) u_fl_X0_15 dX0_add_33 (fun H locs u6 e7 hI => ?_)
      have h := x_let_at h e7
      rw [x_some h]
      exact x_vret F hI dX0_add_36
abbrev rm_X0_beginPart : Room := { frames := 0, cells := 0, slots := 0, locals := 0 }
def fX0_beginPart (u : x_H) : Option x_H := x_let (x_hu u 37 1 (0 : Int32)) fun u1 => x_let (x_hu u1 37 2 (-1 : Int32)) fun u3 => some (u3)
set_option maxHeartbeats 4000000 in
set_option maxRecDepth 100000 in
theorem mX0_beginPart (l : Launch) (X : x_T) (σ : x_S) (sz : Nat) (u : x_H) (r : x_H) (h : fX0_beginPart u  = some r) : Met l yX0_beginPart (x_ws yX0_beginPart cX0_beginPart 1 none) rm_X0_beginPart (x_Pc X (x_sh σ 10 u) sz [.ref (X.2.2 10 37)]) (x_Qv X (x_sh σ 10 r) sz) 0 0 (x_A X sz) := by
  refine Met.ofW (cc := cX0_beginPart) (maxL := 1) (ret := none) (by decide) rfl ?_
  intro p e s m args below meth c s₁ B hml hv
  obtain ⟨F, hI, rfl, rfl⟩ := x_begin B hml hv
  replace F : x_F p s m _ meth c cX0_beginPart 1 RX0 none := F
  have hx := F.1
  have hb := F.2.1
  have hml := F.2.2.1
  have hown := F.2.2.2.1
  have hts := F.2.2.2.2.1
  refine x_entry (vs := [.ref (X.2.2 10 37)]) (n := 1) (Nat.le_of_ble_eq_true rfl) (fun ls hl => ?_)
  replace hl : lv_has ls 1 [(0, .ref (X.2.2 10 37))] := hl
  unfold fX0_beginPart at h
  refine lv_aload_n hx hb dX0_beginPart_0 rfl (lv_at hl 0 rfl) ?_
  refine lv_iconst (v := 0) hx hb dX0_beginPart_1 (by decide) ?_
  refine xp_0_2 F hI (x_inO (by decide)) u_fl_X0_30 (by decide) dX0_beginPart_2 (fun H locs u1 e2 hI => ?_)
  have h := x_let_at h e2
  refine lv_aload_n hx hb dX0_beginPart_5 rfl (lv_at hl 0 rfl) ?_
  refine lv_iconst (v := (-1)) hx hb dX0_beginPart_6 (by decide) ?_
  refine xp_0_3 F hI (x_inO (by decide)) u_fl_X0_34 dX0_beginPart_7 (fun H locs u3 e4 hI => ?_)
  have h := x_let_at h e4
  rw [x_some h]
  exact x_vret F hI dX0_beginPart_10
abbrev rm_X0_leastNumber : Room := { frames := 0, cells := 0, slots := 0, locals := 0 }
def fX0_leastNumber (u : x_H) : Option Int32 := (if (u 37 1) = (116 : Int32) then some (1 : Int32) else some (0 : Int32))
set_option maxHeartbeats 4000000 in
set_option maxRecDepth 100000 in
theorem mX0_leastNumber (l : Launch) (X : x_T) (σ : x_S) (sz : Nat) (u : x_H) (r : Int32) (h : fX0_leastNumber u  = some r) : Met l yX0_leastNumber (x_ws yX0_leastNumber cX0_leastNumber 1 (some .int)) rm_X0_leastNumber (x_Pc X (x_sh σ 10 u) sz [.ref (X.2.2 10 37)]) (x_Qi X r (x_sh σ 10 u) sz) 0 0 (x_A X sz) := by
  refine Met.ofW (cc := cX0_leastNumber) (maxL := 1) (ret := (some .int)) (by decide) rfl ?_
  intro p e s m args below meth c s₁ B hml hv
  obtain ⟨F, hI, rfl, rfl⟩ := x_begin B hml hv
  replace F : x_F p s m _ meth c cX0_leastNumber 1 RX0 (some .int) := F
  have hx := F.1
  have hb := F.2.1
  have hml := F.2.2.1
  have hown := F.2.2.2.1
  have hts := F.2.2.2.2.1
  refine x_entry (vs := [.ref (X.2.2 10 37)]) (n := 1) (Nat.le_of_ble_eq_true rfl) (fun ls hl => ?_)
  replace hl : lv_has ls 1 [(0, .ref (X.2.2 10 37))] := hl
  unfold fX0_leastNumber at h
  refine lv_aload_n hx hb dX0_leastNumber_0 rfl (lv_at hl 0 rfl) ?_
  refine xg_0_2 F hI (x_inO (by decide)) u_fl_X0_30 dX0_leastNumber_1 ?_
  refine lv_bipush (v := 116) hx hb dX0_leastNumber_4 (by decide) ?_
  refine lv_icmp_ne (tgt := 13) hx hb dX0_leastNumber_6 (by decide) (fun c1 => ?_) (fun c1 => ?_)
  · have h := x_iff h c1
    refine lv_iconst (v := 0) hx hb dX0_leastNumber_13 (by decide) ?_
    rw [x_some h]
    exact x_iret F hI dX0_leastNumber_14
  · have h := x_ift h c1
    refine lv_iconst (v := 1) hx hb dX0_leastNumber_9 (by decide) ?_
    refine lv_goto (tgt := 14) hx hb dX0_leastNumber_10 (by decide) ?_
    rw [x_some h]
    exact x_iret F hI dX0_leastNumber_14
abbrev rm_X0_mostNumber : Room := { frames := 0, cells := 0, slots := 0, locals := 0 }
def fX0_mostNumber (u : x_H) : Option Int32 := (if (u 37 1) = (116 : Int32) then some (100 : Int32) else (if (u 37 1) = (100 : Int32) then some (59 : Int32) else (if (u 37 1) = (120 : Int32) then some (59 : Int32) else some (11 : Int32))))
set_option maxHeartbeats 4000000 in
set_option maxRecDepth 100000 in
theorem mX0_mostNumber (l : Launch) (X : x_T) (σ : x_S) (sz : Nat) (u : x_H) (r : Int32) (h : fX0_mostNumber u  = some r) : Met l yX0_mostNumber (x_ws yX0_mostNumber cX0_mostNumber 1 (some .int)) rm_X0_mostNumber (x_Pc X (x_sh σ 10 u) sz [.ref (X.2.2 10 37)]) (x_Qi X r (x_sh σ 10 u) sz) 0 0 (x_A X sz) := by
  refine Met.ofW (cc := cX0_mostNumber) (maxL := 1) (ret := (some .int)) (by decide) rfl ?_
  intro p e s m args below meth c s₁ B hml hv
  obtain ⟨F, hI, rfl, rfl⟩ := x_begin B hml hv
  replace F : x_F p s m _ meth c cX0_mostNumber 1 RX0 (some .int) := F
  have hx := F.1
  have hb := F.2.1
  have hml := F.2.2.1
  have hown := F.2.2.2.1
  have hts := F.2.2.2.2.1
  refine x_entry (vs := [.ref (X.2.2 10 37)]) (n := 1) (Nat.le_of_ble_eq_true rfl) (fun ls hl => ?_)
  replace hl : lv_has ls 1 [(0, .ref (X.2.2 10 37))] := hl
  unfold fX0_mostNumber at h
  refine lv_aload_n hx hb dX0_mostNumber_0 rfl (lv_at hl 0 rfl) ?_
  refine xg_0_2 F hI (x_inO (by decide)) u_fl_X0_30 dX0_mostNumber_1 ?_
  refine lv_bipush (v := 116) hx hb dX0_mostNumber_4 (by decide) ?_
  refine lv_icmp_ne (tgt := 12) hx hb dX0_mostNumber_6 (by decide) (fun c1 => ?_) (fun c1 => ?_)
  · have h := x_iff h c1
    refine lv_aload_n hx hb dX0_mostNumber_12 rfl (lv_at hl 0 rfl) ?_
    refine xg_0_2 F hI (x_inO (by decide)) u_fl_X0_30 dX0_mostNumber_13 ?_
    refine lv_bipush (v := 100) hx hb dX0_mostNumber_16 (by decide) ?_
    refine lv_icmp_eq (tgt := 30) hx hb dX0_mostNumber_18 (by decide) (fun c2 => ?_) (fun c2 => ?_)
    · have h := x_ift h c2
      refine lv_bipush (v := 59) hx hb dX0_mostNumber_30 (by decide) ?_
      refine lv_goto (tgt := 37) hx hb dX0_mostNumber_32 (by decide) ?_
      rw [x_some h]
      exact x_iret F hI dX0_mostNumber_37
    · have h := x_iff h c2
      refine lv_aload_n hx hb dX0_mostNumber_21 rfl (lv_at hl 0 rfl) ?_
      refine xg_0_2 F hI (x_inO (by decide)) u_fl_X0_30 dX0_mostNumber_22 ?_
      refine lv_bipush (v := 120) hx hb dX0_mostNumber_25 (by decide) ?_
      refine lv_icmp_ne (tgt := 35) hx hb dX0_mostNumber_27 (by decide) (fun c3 => ?_) (fun c3 => ?_)
      · have h := x_iff h c3
        refine lv_bipush (v := 11) hx hb dX0_mostNumber_35 (by decide) ?_
        rw [x_some h]
        exact x_iret F hI dX0_mostNumber_37
      · have h := x_ift h c3
        refine lv_bipush (v := 59) hx hb dX0_mostNumber_30 (by decide) ?_
        refine lv_goto (tgt := 37) hx hb dX0_mostNumber_32 (by decide) ?_
        rw [x_some h]
        exact x_iret F hI dX0_mostNumber_37
  · have h := x_ift h c1
    refine lv_bipush (v := 100) hx hb dX0_mostNumber_9 (by decide) ?_
    rw [x_some h]
    exact x_iret F hI dX0_mostNumber_11
abbrev rm_X0_readsDigit : Room := { frames := 1, cells := 0, slots := 0, locals := 20 }
def fX0_readsDigit_j31 (u : x_H) (z0 : Int32) : Option (Int32 × x_H) := x_let (x_hu u 37 2 z0) fun u3 => (Option.bind (fX0_leastNumber u3 ) fun r5 => (if (u3 37 2) < r5 then some ((0 : Int32), u3) else (Option.bind (fX0_mostNumber u3 ) fun r8 => (if r8 < (u3 37 2) then some ((0 : Int32), u3) else some ((1 : Int32), u3)))))
set_option maxHeartbeats 4000000 in
set_option maxRecDepth 100000 in
theorem wX0_readsDigit_j31 {p : Program} {l : Launch} {e : Env} {s : State} {m : MethodId} {args : Array Value} {below : List Frame} {meth : Method} {c : Code} {X : x_T} {σ : x_S} {r : (Int32 × x_H)} (F : x_F p s m args meth c cX0_readsDigit 2 RX0 (some .boolean)) (u : x_H) (z0 : Int32) (H : Heap) (locs : List Loc) (ls : Array Slot) (h : fX0_readsDigit_j31 u z0 = some r) (hI : x_I X (x_sh σ 10 u) s H locs) (hl : lv_has ls 2 [(0, .ref (X.2.2 10 37))]) : W p l e rm_X0_readsDigit s m args below meth c H locs 0 0 (MQ below (x_Qi X r.1 (x_sh σ 10 r.2) s.heap.size) args s 0 0 (x_A X s.heap.size)) (F0 m 31 ls [.int z0, .ref (X.2.2 10 37)]) := by
  have hx := F.1
  have hb := F.2.1
  have hml := F.2.2.1
  have hown := F.2.2.2.1
  have hts := F.2.2.2.2.1
  unfold fX0_readsDigit_j31 at h
  refine xp_0_3 F hI (x_inO (by decide)) u_fl_X0_34 dX0_readsDigit_31 (fun H locs u3 e4 hI => ?_)
  have h := x_let_at h e4
  refine lv_aload_n hx hb dX0_readsDigit_34 rfl (lv_at hl 0 rfl) ?_
  refine xg_0_3 F hI (x_inO (by decide)) u_fl_X0_34 dX0_readsDigit_35 ?_
  refine lv_aload_n hx hb dX0_readsDigit_38 rfl (lv_at hl 0 rfl) ?_
  obtain ⟨r5, h6, h⟩ := x_bnd h
  refine x_aci hI (x_runV (rest := [.int (u3 37 2)]) F hI (mX0_leastNumber l X σ _ u3  r5 h6) g_X0_50 ⟨rfl, hd_X0_leastNumber⟩ ⟨by decide, by decide⟩ ⟨rfl, rfl⟩ (x_inO (by decide)) rfl rfl rfl rfl hl.1 rfl (Nat.le_of_ble_eq_true rfl) dX0_readsDigit_39 ⟨Nat.zero_le _, Nat.zero_le _⟩) (fun H locs hI => ?_)
  refine lv_icmp_lt (tgt := 60) hx hb dX0_readsDigit_42 (by decide) (fun c7 => ?_) (fun c7 => ?_)
  · have h := x_ift h c7
    refine lv_iconst (v := 0) hx hb dX0_readsDigit_60 (by decide) ?_
    rw [x_some h]
    exact x_zret (v := 0) F hI (by decide) dX0_readsDigit_61
  · have h := x_iff h c7
    refine lv_aload_n hx hb dX0_readsDigit_45 rfl (lv_at hl 0 rfl) ?_
    refine xg_0_3 F hI (x_inO (by decide)) u_fl_X0_34 dX0_readsDigit_46 ?_
    refine lv_aload_n hx hb dX0_readsDigit_49 rfl (lv_at hl 0 rfl) ?_
    obtain ⟨r8, h9, h⟩ := x_bnd h
    refine x_aci hI (x_runV (rest := [.int (u3 37 2)]) F hI (mX0_mostNumber l X σ _ u3  r8 h9) g_X0_53 ⟨rfl, hd_X0_mostNumber⟩ ⟨by decide, by decide⟩ ⟨rfl, rfl⟩ (x_inO (by decide)) rfl rfl rfl rfl hl.1 rfl (Nat.le_of_ble_eq_true rfl) dX0_readsDigit_50 ⟨Nat.zero_le _, Nat.zero_le _⟩) (fun H locs hI => ?_)
    refine lv_icmp_gt (tgt := 60) hx hb dX0_readsDigit_53 (by decide) (fun c10 => ?_) (fun c10 => ?_)
    · have h := x_ift h c10
      refine lv_iconst (v := 0) hx hb dX0_readsDigit_60 (by decide) ?_
      rw [x_some h]
      exact x_zret (v := 0) F hI (by decide) dX0_readsDigit_61
    · have h := x_iff h c10
      refine lv_iconst (v := 1) hx hb dX0_readsDigit_56 (by decide) ?_
      refine lv_goto (tgt := 61) hx hb dX0_readsDigit_57 (by decide) ?_
      rw [x_some h]
      exact x_zret (v := 1) F hI (by decide) dX0_readsDigit_61
def fX0_readsDigit (u : x_H) (a1 : Int32) : Option (Int32 × x_H) := (if (u 37 2) = 0 then some ((0 : Int32), u) else (if (u 37 2) = (-1 : Int32) then fX0_readsDigit_j31 u a1 else fX0_readsDigit_j31 u (((10 : Int32) * (u 37 2)) + a1)))
set_option maxHeartbeats 4000000 in
set_option maxRecDepth 100000 in
theorem mX0_readsDigit (l : Launch) (X : x_T) (σ : x_S) (sz : Nat) (u : x_H) (a1 : Int32) (r : (Int32 × x_H)) (h : fX0_readsDigit u a1 = some r) : Met l yX0_readsDigit (x_ws yX0_readsDigit cX0_readsDigit 2 (some .boolean)) rm_X0_readsDigit (x_Pc X (x_sh σ 10 u) sz [.ref (X.2.2 10 37), .int a1]) (x_Qi X r.1 (x_sh σ 10 r.2) sz) 0 0 (x_A X sz) := by
  refine Met.ofW (cc := cX0_readsDigit) (maxL := 2) (ret := (some .boolean)) (by decide) rfl ?_
  intro p e s m args below meth c s₁ B hml hv
  obtain ⟨F, hI, rfl, rfl⟩ := x_begin B hml hv
  replace F : x_F p s m _ meth c cX0_readsDigit 2 RX0 (some .boolean) := F
  have hx := F.1
  have hb := F.2.1
  have hml := F.2.2.1
  have hown := F.2.2.2.1
  have hts := F.2.2.2.2.1
  refine x_entry (vs := [.ref (X.2.2 10 37), .int a1]) (n := 2) (Nat.le_of_ble_eq_true rfl) (fun ls hl => ?_)
  replace hl : lv_has ls 2 [(0, .ref (X.2.2 10 37)), (1, .int a1)] := hl
  unfold fX0_readsDigit at h
  refine lv_aload_n hx hb dX0_readsDigit_0 rfl (lv_at hl 0 rfl) ?_
  refine xg_0_3 F hI (x_inO (by decide)) u_fl_X0_34 dX0_readsDigit_1 ?_
  refine lv_if_ne (tgt := 9) hx hb dX0_readsDigit_4 (by decide) (fun c1 => ?_) (fun c1 => ?_)
  · have h := x_iff h c1
    refine lv_aload_n hx hb dX0_readsDigit_9 rfl (lv_at hl 0 rfl) ?_
    refine lv_aload_n hx hb dX0_readsDigit_10 rfl (lv_at hl 0 rfl) ?_
    refine xg_0_3 F hI (x_inO (by decide)) u_fl_X0_34 dX0_readsDigit_11 ?_
    refine lv_iconst (v := (-1)) hx hb dX0_readsDigit_14 (by decide) ?_
    refine lv_icmp_ne (tgt := 22) hx hb dX0_readsDigit_15 (by decide) (fun c2 => ?_) (fun c2 => ?_)
    · have h := x_iff h c2
      refine lv_bipush (v := 10) hx hb dX0_readsDigit_22 (by decide) ?_
      refine lv_aload_n hx hb dX0_readsDigit_24 rfl (lv_at hl 0 rfl) ?_
      refine xg_0_3 F hI (x_inO (by decide)) u_fl_X0_34 dX0_readsDigit_25 ?_
      refine lv_imul hx hb dX0_readsDigit_28 ?_
      refine lv_iload_n hx hb dX0_readsDigit_29 rfl (lv_at hl 1 rfl) ?_
      refine lv_iadd hx hb dX0_readsDigit_30 ?_
      exact wX0_readsDigit_j31 F u (((10 : Int32) * (u 37 2)) + a1) _ _ _ h hI (lv_sub hl [0] rfl)
    · have h := x_ift h c2
      refine lv_iload_n hx hb dX0_readsDigit_18 rfl (lv_at hl 1 rfl) ?_
      refine lv_goto (tgt := 31) hx hb dX0_readsDigit_19 (by decide) ?_
      exact wX0_readsDigit_j31 F u a1 _ _ _ h hI (lv_sub hl [0] rfl)
  · have h := x_ift h c1
    refine lv_iconst (v := 0) hx hb dX0_readsDigit_7 (by decide) ?_
    rw [x_some h]
    exact x_zret (v := 0) F hI (by decide) dX0_readsDigit_8
abbrev rm_X0_reads : Room := { frames := 2, cells := 0, slots := 0, locals := 41 }
def fX0_reads (u : x_H) (a1 : Int32) : Option (Int32 × x_H) := (if (u 37 1) = 0 then (if x_ch a1 then x_let (x_hu u 37 1 a1) fun u3 => (Option.bind (fX0_isLetter a1) fun r5 => if vp_nar .boolean r5 = r5 then some (r5, u3) else none) else none) else (if a1 = (59 : Int32) then (if (u 37 2) = (-1 : Int32) then (Option.bind (fX0_beginPart u ) fun r9 => some ((0 : Int32), r9)) else (Option.bind (fX0_beginPart u ) fun r11 => some ((1 : Int32), r11))) else (if a1 < (48 : Int32) then some ((0 : Int32), u) else (if (57 : Int32) < a1 then some ((0 : Int32), u) else (Option.bind (fX0_readsDigit u (a1 - (48 : Int32))) fun r15 => (if r15.1 = 0 then some ((0 : Int32), r15.2) else some ((1 : Int32), r15.2)))))))
set_option maxHeartbeats 4000000 in
set_option maxRecDepth 100000 in
theorem mX0_reads (l : Launch) (X : x_T) (σ : x_S) (sz : Nat) (u : x_H) (a1 : Int32) (r : (Int32 × x_H)) (h : fX0_reads u a1 = some r) : Met l yX0_reads (x_ws yX0_reads cX0_reads 3 (some .boolean)) rm_X0_reads (x_Pc X (x_sh σ 10 u) sz [.ref (X.2.2 10 37), .int a1]) (x_Qi X r.1 (x_sh σ 10 r.2) sz) 0 0 (x_A X sz) := by
  refine Met.ofW (cc := cX0_reads) (maxL := 3) (ret := (some .boolean)) (by decide) rfl ?_
  intro p e s m args below meth c s₁ B hml hv
  obtain ⟨F, hI, rfl, rfl⟩ := x_begin B hml hv
  replace F : x_F p s m _ meth c cX0_reads 3 RX0 (some .boolean) := F
  have hx := F.1
  have hb := F.2.1
  have hml := F.2.2.1
  have hown := F.2.2.2.1
  have hts := F.2.2.2.2.1
  refine x_entry (vs := [.ref (X.2.2 10 37), .int a1]) (n := 3) (Nat.le_of_ble_eq_true rfl) (fun ls hl => ?_)
  replace hl : lv_has ls 3 [(0, .ref (X.2.2 10 37)), (1, .int a1)] := hl
  unfold fX0_reads at h
  refine lv_aload_n hx hb dX0_reads_0 rfl (lv_at hl 0 rfl) ?_
  refine xg_0_2 F hI (x_inO (by decide)) u_fl_X0_30 dX0_reads_1 ?_
  refine lv_if_ne (tgt := 17) hx hb dX0_reads_4 (by decide) (fun c1 => ?_) (fun c1 => ?_)
  · have h := x_iff h c1
    refine lv_iload_n hx hb dX0_reads_17 rfl (lv_at hl 1 rfl) ?_
    refine lv_bipush (v := 59) hx hb dX0_reads_18 (by decide) ?_
    refine lv_icmp_ne (tgt := 43) hx hb dX0_reads_20 (by decide) (fun c7 => ?_) (fun c7 => ?_)
    · have h := x_iff h c7
      refine lv_iload_n hx hb dX0_reads_43 rfl (lv_at hl 1 rfl) ?_
      refine lv_bipush (v := 48) hx hb dX0_reads_44 (by decide) ?_
      refine lv_icmp_lt (tgt := 70) hx hb dX0_reads_46 (by decide) (fun c13 => ?_) (fun c13 => ?_)
      · have h := x_ift h c13
        refine lv_iconst (v := 0) hx hb dX0_reads_70 (by decide) ?_
        rw [x_some h]
        exact x_zret (v := 0) F hI (by decide) dX0_reads_71
      · have h := x_iff h c13
        refine lv_iload_n hx hb dX0_reads_49 rfl (lv_at hl 1 rfl) ?_
        refine lv_bipush (v := 57) hx hb dX0_reads_50 (by decide) ?_
        refine lv_icmp_gt (tgt := 70) hx hb dX0_reads_52 (by decide) (fun c14 => ?_) (fun c14 => ?_)
        · have h := x_ift h c14
          refine lv_iconst (v := 0) hx hb dX0_reads_70 (by decide) ?_
          rw [x_some h]
          exact x_zret (v := 0) F hI (by decide) dX0_reads_71
        · have h := x_iff h c14
          refine lv_aload_n hx hb dX0_reads_55 rfl (lv_at hl 0 rfl) ?_
          refine lv_iload_n hx hb dX0_reads_56 rfl (lv_at hl 1 rfl) ?_
          refine lv_bipush (v := 48) hx hb dX0_reads_57 (by decide) ?_
          refine lv_isub hx hb dX0_reads_59 ?_
          obtain ⟨r15, h16, h⟩ := x_bnd h
          refine x_aci hI (x_runV (rest := []) F hI (mX0_readsDigit l X σ _ u (a1 - (48 : Int32)) r15 h16) g_X0_46 ⟨rfl, hd_X0_readsDigit⟩ ⟨by decide, by decide⟩ ⟨rfl, rfl⟩ (x_inO (by decide)) rfl rfl rfl rfl hl.1 rfl (Nat.le_of_ble_eq_true rfl) dX0_reads_60 ⟨Nat.zero_le _, Nat.zero_le _⟩) (fun H locs hI => ?_)
          refine lv_if_eq (tgt := 70) hx hb dX0_reads_63 (by decide) (fun c17 => ?_) (fun c17 => ?_)
          · have h := x_ift h c17
            refine lv_iconst (v := 0) hx hb dX0_reads_70 (by decide) ?_
            rw [x_some h]
            exact x_zret (v := 0) F hI (by decide) dX0_reads_71
          · have h := x_iff h c17
            refine lv_iconst (v := 1) hx hb dX0_reads_66 (by decide) ?_
            refine lv_goto (tgt := 71) hx hb dX0_reads_67 (by decide) ?_
            rw [x_some h]
            exact x_zret (v := 1) F hI (by decide) dX0_reads_71
    · have h := x_ift h c7
      refine lv_aload_n hx hb dX0_reads_23 rfl (lv_at hl 0 rfl) ?_
      refine xg_0_3 F hI (x_inO (by decide)) u_fl_X0_34 dX0_reads_24 ?_
      refine lv_iconst (v := (-1)) hx hb dX0_reads_27 (by decide) ?_
      refine lv_icmp_eq (tgt := 35) hx hb dX0_reads_28 (by decide) (fun c8 => ?_) (fun c8 => ?_)
      · have h := x_ift h c8
        refine lv_iconst (v := 0) hx hb dX0_reads_35 (by decide) ?_
        refine lv_istore_n (lv' := [(2, .int (0)), (0, .ref (X.2.2 10 37)), (1, .int a1)]) hx hb dX0_reads_36 rfl hl (by decide) rfl (fun ls hl => ?_)
        refine lv_aload_n hx hb dX0_reads_37 rfl (lv_at hl 1 rfl) ?_
        obtain ⟨r9, h10, h⟩ := x_bnd h
        refine x_acv hI (x_runV (rest := []) F hI (mX0_beginPart l X σ _ u  r9 h10) g_X0_19 ⟨rfl, hd_X0_beginPart⟩ ⟨by decide, by decide⟩ ⟨rfl, rfl⟩ (x_inO (by decide)) rfl rfl rfl rfl hl.1 rfl (Nat.le_of_ble_eq_true rfl) dX0_reads_38 ⟨Nat.zero_le _, Nat.zero_le _⟩) (fun H locs hI => ?_)
        refine lv_iload_n hx hb dX0_reads_41 rfl (lv_at hl 0 rfl) ?_
        rw [x_some h]
        exact x_zret (v := 0) F hI (by decide) dX0_reads_42
      · have h := x_iff h c8
        refine lv_iconst (v := 1) hx hb dX0_reads_31 (by decide) ?_
        refine lv_goto (tgt := 36) hx hb dX0_reads_32 (by decide) ?_
        refine lv_istore_n (lv' := [(2, .int (1)), (0, .ref (X.2.2 10 37)), (1, .int a1)]) hx hb dX0_reads_36 rfl hl (by decide) rfl (fun ls hl => ?_)
        refine lv_aload_n hx hb dX0_reads_37 rfl (lv_at hl 1 rfl) ?_
        obtain ⟨r11, h12, h⟩ := x_bnd h
        refine x_acv hI (x_runV (rest := []) F hI (mX0_beginPart l X σ _ u  r11 h12) g_X0_19 ⟨rfl, hd_X0_beginPart⟩ ⟨by decide, by decide⟩ ⟨rfl, rfl⟩ (x_inO (by decide)) rfl rfl rfl rfl hl.1 rfl (Nat.le_of_ble_eq_true rfl) dX0_reads_38 ⟨Nat.zero_le _, Nat.zero_le _⟩) (fun H locs hI => ?_)
        refine lv_iload_n hx hb dX0_reads_41 rfl (lv_at hl 0 rfl) ?_
        rw [x_some h]
        exact x_zret (v := 1) F hI (by decide) dX0_reads_42
  · have h := x_ift h c1
    refine lv_aload_n hx hb dX0_reads_7 rfl (lv_at hl 0 rfl) ?_
    refine lv_iload_n hx hb dX0_reads_8 rfl (lv_at hl 1 rfl) ?_
    obtain ⟨g2, h⟩ := x_chk h
    refine xp_0_2 F hI (x_inO (by decide)) u_fl_X0_30 g2 dX0_reads_9 (fun H locs u3 e4 hI => ?_)
    have h := x_let_at h e4
    refine lv_iload_n hx hb dX0_reads_12 rfl (lv_at hl 1 rfl) ?_
    obtain ⟨r5, h6, h⟩ := x_bnd h
    refine x_aci hI (x_runS (rest := []) F hI (mX0_isLetter l X (x_sh σ 10 u3) _ a1 r5 h6) g_X0_43 hd_X0_isLetter ⟨by decide, by decide⟩ ⟨rfl, rfl⟩ rfl hl.1 rfl (Nat.le_of_ble_eq_true rfl) dX0_reads_13 ⟨Nat.zero_le _, Nat.zero_le _⟩) (fun H locs hI => ?_)
    obtain ⟨g, h⟩ := x_chk h
    rw [x_some h]
    exact x_zret (v := r5) F hI g dX0_reads_16
abbrev rm_X0_errorAt : Room := { frames := 3, cells := 0, slots := 0, locals := 63 }
def fX0_errorAt_b6 : Nat → x_H → Int32 → Option (Int32 × x_H)
  | 0, _, _ => none
  | n + 1, u, y1 => (if (u 37 0) ≤ y1 then some ((u 37 0), u) else (if (60 : Int32) ≤ y1 then some ((u 37 0), u) else (if x_in y1 60 then (Option.bind (fX0_reads u (u 38 (Int32.toNatClampNeg y1))) fun r6 => (if r6.1 = 0 then some (y1, r6.2) else x_let (y1 + (1 : Int32)) fun x9 => fX0_errorAt_b6 n r6.2 x9)) else none)))
set_option maxHeartbeats 4000000 in
set_option maxRecDepth 100000 in
theorem wX0_errorAt_b6 {p : Program} {l : Launch} {e : Env} {s : State} {m : MethodId} {args : Array Value} {below : List Frame} {meth : Method} {c : Code} {X : x_T} {σ : x_S} {r : (Int32 × x_H)} (F : x_F p s m args meth c cX0_errorAt 2 RX0 (some .int)) : ∀ (n : Nat) (u : x_H) (y1 : Int32) (H : Heap) (locs : List Loc) (ls : Array Slot), fX0_errorAt_b6 n u y1 = some r → x_I X (x_sh σ 10 u) s H locs → lv_has ls 2 [(0, .ref (X.2.2 10 37)), (1, .int y1)] → W p l e rm_X0_errorAt s m args below meth c H locs 0 0 (MQ below (x_Qi X r.1 (x_sh σ 10 r.2) s.heap.size) args s 0 0 (x_A X s.heap.size)) (F0 m 6 ls []) := by
  have hx := F.1
  have hb := F.2.1
  have hml := F.2.2.1
  have hown := F.2.2.2.1
  have hts := F.2.2.2.2.1
  intro n
  induction n with
  | zero =>
    intro u y1 H locs ls h
    rw [fX0_errorAt_b6] at h
    cases h
  | succ n ih =>
    intro u y1 H locs ls h hI hl
    rw [fX0_errorAt_b6] at h
    refine lv_iload_n hx hb dX0_errorAt_6 rfl (lv_at hl 1 rfl) ?_
    refine lv_aload_n hx hb dX0_errorAt_7 rfl (lv_at hl 0 rfl) ?_
    refine xg_0_1 F hI (x_inO (by decide)) u_fl_X0_15 dX0_errorAt_8 ?_
    refine lv_icmp_ge (tgt := 41) hx hb dX0_errorAt_11 (by decide) (fun c3 => ?_) (fun c3 => ?_)
    · have h := x_ift h c3
      refine lv_aload_n hx hb dX0_errorAt_41 rfl (lv_at hl 0 rfl) ?_
      refine xg_0_1 F hI (x_inO (by decide)) u_fl_X0_15 dX0_errorAt_42 ?_
      rw [x_some h]
      exact x_iret F hI dX0_errorAt_45
    · have h := x_iff h c3
      refine lv_iload_n hx hb dX0_errorAt_14 rfl (lv_at hl 1 rfl) ?_
      refine lv_bipush (v := 60) hx hb dX0_errorAt_15 (by decide) ?_
      refine lv_icmp_ge (tgt := 41) hx hb dX0_errorAt_17 (by decide) (fun c4 => ?_) (fun c4 => ?_)
      · have h := x_ift h c4
        refine lv_aload_n hx hb dX0_errorAt_41 rfl (lv_at hl 0 rfl) ?_
        refine xg_0_1 F hI (x_inO (by decide)) u_fl_X0_15 dX0_errorAt_42 ?_
        rw [x_some h]
        exact x_iret F hI dX0_errorAt_45
      · have h := x_iff h c4
        refine lv_aload_n hx hb dX0_errorAt_20 rfl (lv_at hl 0 rfl) ?_
        refine lv_aload_n hx hb dX0_errorAt_21 rfl (lv_at hl 0 rfl) ?_
        refine xg_0_0 F hI (x_inO (by decide)) u_fl_X0_9 dX0_errorAt_22 ?_
        refine lv_iload_n hx hb dX0_errorAt_25 rfl (lv_at hl 1 rfl) ?_
        obtain ⟨g5, h⟩ := x_chk h
        refine xh_cald (n := 60) F hI (x_inO (by decide)) (fun _ => rfl) g5 dX0_errorAt_26 ?_
        obtain ⟨r6, h7, h⟩ := x_bnd h
        refine x_aci hI (x_runV (rest := []) F hI (mX0_reads l X σ _ u (u 38 (Int32.toNatClampNeg y1)) r6 h7) g_X0_22 ⟨rfl, hd_X0_reads⟩ ⟨by decide, by decide⟩ ⟨rfl, rfl⟩ (x_inO (by decide)) rfl rfl rfl rfl hl.1 rfl (Nat.le_of_ble_eq_true rfl) dX0_errorAt_27 ⟨Nat.zero_le _, Nat.zero_le _⟩) (fun H locs hI => ?_)
        refine lv_if_ne (tgt := 35) hx hb dX0_errorAt_30 (by decide) (fun c8 => ?_) (fun c8 => ?_)
        · have h := x_iff h c8
          obtain ⟨x9, e10⟩ : ∃ z : Int32, z = (y1 + (1 : Int32)) := ⟨_, rfl⟩
          have h := x_let_at h e10
          refine lv_iinc (v := x9) (lv' := [(1, .int x9), (0, .ref (X.2.2 10 37))]) hx hb dX0_errorAt_35 hl (k := 1) rfl (by rw [e10]; rfl) (by decide) rfl (fun ls hl => ?_)
          refine lv_goto (tgt := 6) hx hb dX0_errorAt_38 (by decide) ?_
          exact ih r6.2 x9 _ _ _ h hI (lv_sub hl [1, 0] rfl)
        · have h := x_ift h c8
          refine lv_iload_n hx hb dX0_errorAt_33 rfl (lv_at hl 1 rfl) ?_
          rw [x_some h]
          exact x_iret F hI dX0_errorAt_34
def fX0_errorAt (u : x_H) : Option (Int32 × x_H) := (Option.bind (fX0_beginPart u ) fun r1 => fX0_errorAt_b6 400 r1 (0 : Int32))
set_option maxHeartbeats 4000000 in
set_option maxRecDepth 100000 in
theorem mX0_errorAt (l : Launch) (X : x_T) (σ : x_S) (sz : Nat) (u : x_H) (r : (Int32 × x_H)) (h : fX0_errorAt u  = some r) : Met l yX0_errorAt (x_ws yX0_errorAt cX0_errorAt 2 (some .int)) rm_X0_errorAt (x_Pc X (x_sh σ 10 u) sz [.ref (X.2.2 10 37)]) (x_Qi X r.1 (x_sh σ 10 r.2) sz) 0 0 (x_A X sz) := by
  refine Met.ofW (cc := cX0_errorAt) (maxL := 2) (ret := (some .int)) (by decide) rfl ?_
  intro p e s m args below meth c s₁ B hml hv
  obtain ⟨F, hI, rfl, rfl⟩ := x_begin B hml hv
  replace F : x_F p s m _ meth c cX0_errorAt 2 RX0 (some .int) := F
  have hx := F.1
  have hb := F.2.1
  have hml := F.2.2.1
  have hown := F.2.2.2.1
  have hts := F.2.2.2.2.1
  refine x_entry (vs := [.ref (X.2.2 10 37)]) (n := 2) (Nat.le_of_ble_eq_true rfl) (fun ls hl => ?_)
  replace hl : lv_has ls 2 [(0, .ref (X.2.2 10 37))] := hl
  unfold fX0_errorAt at h
  refine lv_aload_n hx hb dX0_errorAt_0 rfl (lv_at hl 0 rfl) ?_
  obtain ⟨r1, h2, h⟩ := x_bnd h
  refine x_acv hI (x_runV (rest := []) F hI (mX0_beginPart l X σ _ u  r1 h2) g_X0_19 ⟨rfl, hd_X0_beginPart⟩ ⟨by decide, by decide⟩ ⟨rfl, rfl⟩ (x_inO (by decide)) rfl rfl rfl rfl hl.1 rfl (Nat.le_of_ble_eq_true rfl) dX0_errorAt_1 ⟨Nat.zero_le _, Nat.zero_le _⟩) (fun H locs hI => ?_)
  refine lv_iconst (v := 0) hx hb dX0_errorAt_4 (by decide) ?_
  refine lv_istore_n (lv' := [(1, .int (0)), (0, .ref (X.2.2 10 37))]) hx hb dX0_errorAt_5 rfl hl (by decide) rfl (fun ls hl => ?_)
  exact wX0_errorAt_b6 F 400 r1 (0 : Int32) _ _ _ h hI (lv_sub hl [1, 0] rfl)
abbrev rm_X0_tellsCourse : Room := { frames := 4, cells := 0, slots := 0, locals := 84 }
def fX0_tellsCourse (u : x_H) : Option (Int32 × x_H) := (Option.bind (fX0_errorAt u ) fun r1 => (if r1.1 = (r1.2 37 0) then (if (r1.2 37 1) = 0 then some ((0 : Int32), r1.2) else (if (r1.2 37 2) = (-1 : Int32) then some ((0 : Int32), r1.2) else some ((1 : Int32), r1.2))) else some ((0 : Int32), r1.2)))
set_option maxHeartbeats 4000000 in
set_option maxRecDepth 100000 in
theorem mX0_tellsCourse (l : Launch) (X : x_T) (σ : x_S) (sz : Nat) (u : x_H) (r : (Int32 × x_H)) (h : fX0_tellsCourse u  = some r) : Met l yX0_tellsCourse (x_ws yX0_tellsCourse cX0_tellsCourse 1 (some .boolean)) rm_X0_tellsCourse (x_Pc X (x_sh σ 10 u) sz [.ref (X.2.2 10 37)]) (x_Qi X r.1 (x_sh σ 10 r.2) sz) 0 0 (x_A X sz) := by
  refine Met.ofW (cc := cX0_tellsCourse) (maxL := 1) (ret := (some .boolean)) (by decide) rfl ?_
  intro p e s m args below meth c s₁ B hml hv
  obtain ⟨F, hI, rfl, rfl⟩ := x_begin B hml hv
  replace F : x_F p s m _ meth c cX0_tellsCourse 1 RX0 (some .boolean) := F
  have hx := F.1
  have hb := F.2.1
  have hml := F.2.2.1
  have hown := F.2.2.2.1
  have hts := F.2.2.2.2.1
  refine x_entry (vs := [.ref (X.2.2 10 37)]) (n := 1) (Nat.le_of_ble_eq_true rfl) (fun ls hl => ?_)
  replace hl : lv_has ls 1 [(0, .ref (X.2.2 10 37))] := hl
  unfold fX0_tellsCourse at h
  refine lv_aload_n hx hb dX0_tellsCourse_0 rfl (lv_at hl 0 rfl) ?_
  obtain ⟨r1, h2, h⟩ := x_bnd h
  refine x_aci hI (x_runV (rest := []) F hI (mX0_errorAt l X σ _ u  r1 h2) g_X0_26 ⟨rfl, hd_X0_errorAt⟩ ⟨by decide, by decide⟩ ⟨rfl, rfl⟩ (x_inO (by decide)) rfl rfl rfl rfl hl.1 rfl (Nat.le_of_ble_eq_true rfl) dX0_tellsCourse_1 ⟨Nat.zero_le _, Nat.zero_le _⟩) (fun H locs hI => ?_)
  refine lv_aload_n hx hb dX0_tellsCourse_4 rfl (lv_at hl 0 rfl) ?_
  refine xg_0_1 F hI (x_inO (by decide)) u_fl_X0_15 dX0_tellsCourse_5 ?_
  refine lv_icmp_ne (tgt := 30) hx hb dX0_tellsCourse_8 (by decide) (fun c3 => ?_) (fun c3 => ?_)
  · have h := x_iff h c3
    refine lv_iconst (v := 0) hx hb dX0_tellsCourse_30 (by decide) ?_
    rw [x_some h]
    exact x_zret (v := 0) F hI (by decide) dX0_tellsCourse_31
  · have h := x_ift h c3
    refine lv_aload_n hx hb dX0_tellsCourse_11 rfl (lv_at hl 0 rfl) ?_
    refine xg_0_2 F hI (x_inO (by decide)) u_fl_X0_30 dX0_tellsCourse_12 ?_
    refine lv_if_eq (tgt := 30) hx hb dX0_tellsCourse_15 (by decide) (fun c4 => ?_) (fun c4 => ?_)
    · have h := x_ift h c4
      refine lv_iconst (v := 0) hx hb dX0_tellsCourse_30 (by decide) ?_
      rw [x_some h]
      exact x_zret (v := 0) F hI (by decide) dX0_tellsCourse_31
    · have h := x_iff h c4
      refine lv_aload_n hx hb dX0_tellsCourse_18 rfl (lv_at hl 0 rfl) ?_
      refine xg_0_3 F hI (x_inO (by decide)) u_fl_X0_34 dX0_tellsCourse_19 ?_
      refine lv_iconst (v := (-1)) hx hb dX0_tellsCourse_22 (by decide) ?_
      refine lv_icmp_eq (tgt := 30) hx hb dX0_tellsCourse_23 (by decide) (fun c5 => ?_) (fun c5 => ?_)
      · have h := x_ift h c5
        refine lv_iconst (v := 0) hx hb dX0_tellsCourse_30 (by decide) ?_
        rw [x_some h]
        exact x_zret (v := 0) F hI (by decide) dX0_tellsCourse_31
      · have h := x_iff h c5
        refine lv_iconst (v := 1) hx hb dX0_tellsCourse_26 (by decide) ?_
        refine lv_goto (tgt := 31) hx hb dX0_tellsCourse_27 (by decide) ?_
        rw [x_some h]
        exact x_zret (v := 1) F hI (by decide) dX0_tellsCourse_31
abbrev rm_X0_playOn : Room := { frames := 5, cells := 0, slots := 0, locals := 121 }
def fX0_playOn_b6 : Nat → x_S → Int32 → Option (Int32 × x_S)
  | 0, _, _ => none
  | n + 1, σ, y2 => (if (σ 10 37 0) ≤ y2 then (Option.bind (fX2_playPart (σ 1) (σ 10 37 1) (σ 10 37 2)) fun r6 => x_let (x_sh σ 1 r6.2) fun τ8 => if vp_nar .boolean r6.1 = r6.1 then some (r6.1, τ8) else none) else (if (60 : Int32) ≤ y2 then (Option.bind (fX2_playPart (σ 1) (σ 10 37 1) (σ 10 37 2)) fun r11 => x_let (x_sh σ 1 r11.2) fun τ13 => if vp_nar .boolean r11.1 = r11.1 then some (r11.1, τ13) else none) else (if x_in y2 60 then (if (σ 10 38 (Int32.toNatClampNeg y2)) = (59 : Int32) then (Option.bind (fX2_playPart (σ 1) (σ 10 37 1) (σ 10 37 2)) fun r17 => x_let (x_sh σ 1 r17.2) fun τ19 => (if r17.1 = 0 then some ((0 : Int32), τ19) else (Option.bind (fX0_reads (τ19 10) (τ19 10 38 (Int32.toNatClampNeg y2))) fun r22 => x_let (x_sh τ19 10 r22.2) fun τ24 => x_let (y2 + (1 : Int32)) fun x26 => fX0_playOn_b6 n τ24 x26))) else (Option.bind (fX0_reads (σ 10) (σ 10 38 (Int32.toNatClampNeg y2))) fun r28 => x_let (x_sh σ 10 r28.2) fun τ30 => x_let (y2 + (1 : Int32)) fun x32 => fX0_playOn_b6 n τ30 x32)) else none)))
set_option maxHeartbeats 4000000 in
set_option maxRecDepth 100000 in
theorem wX0_playOn_b6 {p : Program} {l : Launch} {e : Env} {s : State} {m : MethodId} {args : Array Value} {below : List Frame} {meth : Method} {c : Code} {X : x_T} {r : (Int32 × x_S)} (F : x_F p s m args meth c cX0_playOn 3 RX0 (some .boolean)) : ∀ (n : Nat) (σ : x_S) (y2 : Int32) (H : Heap) (locs : List Loc) (ls : Array Slot), fX0_playOn_b6 n σ y2 = some r → x_I X σ s H locs → lv_has ls 3 [(0, .ref (X.2.2 10 37)), (1, .ref (X.2.2 1 0)), (2, .int y2)] → W p l e rm_X0_playOn s m args below meth c H locs 0 0 (MQ below (x_Qi X r.1 r.2 s.heap.size) args s 0 0 (x_A X s.heap.size)) (F0 m 6 ls []) := by
  have hx := F.1
  have hb := F.2.1
  have hml := F.2.2.1
  have hown := F.2.2.2.1
  have hts := F.2.2.2.2.1
  intro n
  induction n with
  | zero =>
    intro σ y2 H locs ls h
    rw [fX0_playOn_b6] at h
    cases h
  | succ n ih =>
    intro σ y2 H locs ls h hI hl
    rw [fX0_playOn_b6] at h
    refine lv_iload_n hx hb dX0_playOn_6 rfl (lv_at hl 2 rfl) ?_
    refine lv_aload_n hx hb dX0_playOn_7 rfl (lv_at hl 0 rfl) ?_
    refine xsg_0_1 F hI (x_inO (by decide)) u_fl_X0_15 dX0_playOn_8 ?_
    refine lv_icmp_ge (tgt := 65) hx hb dX0_playOn_11 (by decide) (fun c5 => ?_) (fun c5 => ?_)
    · have h := x_ift h c5
      refine lv_aload_n hx hb dX0_playOn_65 rfl (lv_at hl 1 rfl) ?_
      refine lv_aload_n hx hb dX0_playOn_66 rfl (lv_at hl 0 rfl) ?_
      refine xsg_0_2 F hI (x_inO (by decide)) u_fl_X0_30 dX0_playOn_67 ?_
      refine lv_aload_n hx hb dX0_playOn_70 rfl (lv_at hl 0 rfl) ?_
      refine xsg_0_3 F hI (x_inO (by decide)) u_fl_X0_34 dX0_playOn_71 ?_
      obtain ⟨r6, h7, h⟩ := x_bnd h
      have hI := x_toH 1 hI
      refine x_aci hI (x_runV (rest := []) F hI (mX2_playPart l X σ 1 (show 1 < 10 by decide) _ (σ 1) (σ 10 37 1) (σ 10 37 2) r6 h7) g_X0_37 ⟨rfl, hd_X2_playPart⟩ ⟨by decide, by decide⟩ ⟨rfl, rfl⟩ (x_inH (show 1 < 10 by decide) (by decide)) rfl rfl rfl rfl hl.1 rfl (Nat.le_of_ble_eq_true rfl) dX0_playOn_74 ⟨Nat.zero_le _, Nat.zero_le _⟩) (fun H locs hI => ?_)
      obtain ⟨τ8, e9⟩ : ∃ z : x_S, z = (x_sh σ 1 r6.2) := ⟨_, rfl⟩
      rw [← e9] at hI
      have h := x_let_at h e9
      obtain ⟨g, h⟩ := x_chk h
      rw [x_some h]
      exact x_zret (v := r6.1) F hI g dX0_playOn_77
    · have h := x_iff h c5
      refine lv_iload_n hx hb dX0_playOn_14 rfl (lv_at hl 2 rfl) ?_
      refine lv_bipush (v := 60) hx hb dX0_playOn_15 (by decide) ?_
      refine lv_icmp_ge (tgt := 65) hx hb dX0_playOn_17 (by decide) (fun c10 => ?_) (fun c10 => ?_)
      · have h := x_ift h c10
        refine lv_aload_n hx hb dX0_playOn_65 rfl (lv_at hl 1 rfl) ?_
        refine lv_aload_n hx hb dX0_playOn_66 rfl (lv_at hl 0 rfl) ?_
        refine xsg_0_2 F hI (x_inO (by decide)) u_fl_X0_30 dX0_playOn_67 ?_
        refine lv_aload_n hx hb dX0_playOn_70 rfl (lv_at hl 0 rfl) ?_
        refine xsg_0_3 F hI (x_inO (by decide)) u_fl_X0_34 dX0_playOn_71 ?_
        obtain ⟨r11, h12, h⟩ := x_bnd h
        have hI := x_toH 1 hI
        refine x_aci hI (x_runV (rest := []) F hI (mX2_playPart l X σ 1 (show 1 < 10 by decide) _ (σ 1) (σ 10 37 1) (σ 10 37 2) r11 h12) g_X0_37 ⟨rfl, hd_X2_playPart⟩ ⟨by decide, by decide⟩ ⟨rfl, rfl⟩ (x_inH (show 1 < 10 by decide) (by decide)) rfl rfl rfl rfl hl.1 rfl (Nat.le_of_ble_eq_true rfl) dX0_playOn_74 ⟨Nat.zero_le _, Nat.zero_le _⟩) (fun H locs hI => ?_)
        obtain ⟨τ13, e14⟩ : ∃ z : x_S, z = (x_sh σ 1 r11.2) := ⟨_, rfl⟩
        rw [← e14] at hI
        have h := x_let_at h e14
        obtain ⟨g, h⟩ := x_chk h
        rw [x_some h]
        exact x_zret (v := r11.1) F hI g dX0_playOn_77
      · have h := x_iff h c10
        refine lv_aload_n hx hb dX0_playOn_20 rfl (lv_at hl 0 rfl) ?_
        refine xsg_0_0 F hI (x_inO (by decide)) u_fl_X0_9 dX0_playOn_21 ?_
        refine lv_iload_n hx hb dX0_playOn_24 rfl (lv_at hl 2 rfl) ?_
        obtain ⟨g15, h⟩ := x_chk h
        refine x_cald (n := 60) F hI (x_inO (by decide)) (fun _ => rfl) g15 dX0_playOn_25 ?_
        refine lv_bipush (v := 59) hx hb dX0_playOn_26 (by decide) ?_
        refine lv_icmp_ne (tgt := 48) hx hb dX0_playOn_28 (by decide) (fun c16 => ?_) (fun c16 => ?_)
        · have h := x_iff h c16
          refine lv_aload_n hx hb dX0_playOn_48 rfl (lv_at hl 0 rfl) ?_
          refine lv_aload_n hx hb dX0_playOn_49 rfl (lv_at hl 0 rfl) ?_
          refine xsg_0_0 F hI (x_inO (by decide)) u_fl_X0_9 dX0_playOn_50 ?_
          refine lv_iload_n hx hb dX0_playOn_53 rfl (lv_at hl 2 rfl) ?_
          refine x_cald (n := 60) F hI (x_inO (by decide)) (fun _ => rfl) g15 dX0_playOn_54 ?_
          obtain ⟨r28, h29, h⟩ := x_bnd h
          have hI := x_toH 10 hI
          refine x_aci hI (x_runV (rest := []) F hI (mX0_reads l X σ _ (σ 10) (σ 10 38 (Int32.toNatClampNeg y2)) r28 h29) g_X0_22 ⟨rfl, hd_X0_reads⟩ ⟨by decide, by decide⟩ ⟨rfl, rfl⟩ (x_inO (by decide)) rfl rfl rfl rfl hl.1 rfl (Nat.le_of_ble_eq_true rfl) dX0_playOn_55 ⟨Nat.zero_le _, Nat.zero_le _⟩) (fun H locs hI => ?_)
          obtain ⟨τ30, e31⟩ : ∃ z : x_S, z = (x_sh σ 10 r28.2) := ⟨_, rfl⟩
          rw [← e31] at hI
          have h := x_let_at h e31
          refine lv_pop hx hb dX0_playOn_58 rfl ?_
          obtain ⟨x32, e33⟩ : ∃ z : Int32, z = (y2 + (1 : Int32)) := ⟨_, rfl⟩
          have h := x_let_at h e33
          refine lv_iinc (v := x32) (lv' := [(2, .int x32), (0, .ref (X.2.2 10 37)), (1, .ref (X.2.2 1 0))]) hx hb dX0_playOn_59 hl (k := 2) rfl (by rw [e33]; rfl) (by decide) rfl (fun ls hl => ?_)
          refine lv_goto (tgt := 6) hx hb dX0_playOn_62 (by decide) ?_
          exact ih τ30 x32 _ _ _ h hI (lv_sub hl [1, 2, 0] rfl)
        · have h := x_ift h c16
          refine lv_aload_n hx hb dX0_playOn_31 rfl (lv_at hl 1 rfl) ?_
          refine lv_aload_n hx hb dX0_playOn_32 rfl (lv_at hl 0 rfl) ?_
          refine xsg_0_2 F hI (x_inO (by decide)) u_fl_X0_30 dX0_playOn_33 ?_
          refine lv_aload_n hx hb dX0_playOn_36 rfl (lv_at hl 0 rfl) ?_
          refine xsg_0_3 F hI (x_inO (by decide)) u_fl_X0_34 dX0_playOn_37 ?_
          obtain ⟨r17, h18, h⟩ := x_bnd h
          have hI := x_toH 1 hI
          refine x_aci hI (x_runV (rest := []) F hI (mX2_playPart l X σ 1 (show 1 < 10 by decide) _ (σ 1) (σ 10 37 1) (σ 10 37 2) r17 h18) g_X0_37 ⟨rfl, hd_X2_playPart⟩ ⟨by decide, by decide⟩ ⟨rfl, rfl⟩ (x_inH (show 1 < 10 by decide) (by decide)) rfl rfl rfl rfl hl.1 rfl (Nat.le_of_ble_eq_true rfl) dX0_playOn_40 ⟨Nat.zero_le _, Nat.zero_le _⟩) (fun H locs hI => ?_)
          obtain ⟨τ19, e20⟩ : ∃ z : x_S, z = (x_sh σ 1 r17.2) := ⟨_, rfl⟩
          rw [← e20] at hI
          have h := x_let_at h e20
          refine lv_if_ne (tgt := 48) hx hb dX0_playOn_43 (by decide) (fun c21 => ?_) (fun c21 => ?_)
          · have h := x_iff h c21
            refine lv_aload_n hx hb dX0_playOn_48 rfl (lv_at hl 0 rfl) ?_
            refine lv_aload_n hx hb dX0_playOn_49 rfl (lv_at hl 0 rfl) ?_
            refine xsg_0_0 F hI (x_inO (by decide)) u_fl_X0_9 dX0_playOn_50 ?_
            refine lv_iload_n hx hb dX0_playOn_53 rfl (lv_at hl 2 rfl) ?_
            refine x_cald (n := 60) F hI (x_inO (by decide)) (fun _ => rfl) g15 dX0_playOn_54 ?_
            obtain ⟨r22, h23, h⟩ := x_bnd h
            have hI := x_toH 10 hI
            refine x_aci hI (x_runV (rest := []) F hI (mX0_reads l X τ19 _ (τ19 10) (τ19 10 38 (Int32.toNatClampNeg y2)) r22 h23) g_X0_22 ⟨rfl, hd_X0_reads⟩ ⟨by decide, by decide⟩ ⟨rfl, rfl⟩ (x_inO (by decide)) rfl rfl rfl rfl hl.1 rfl (Nat.le_of_ble_eq_true rfl) dX0_playOn_55 ⟨Nat.zero_le _, Nat.zero_le _⟩) (fun H locs hI => ?_)
            obtain ⟨τ24, e25⟩ : ∃ z : x_S, z = (x_sh τ19 10 r22.2) := ⟨_, rfl⟩
            rw [← e25] at hI
            have h := x_let_at h e25
            refine lv_pop hx hb dX0_playOn_58 rfl ?_
            obtain ⟨x26, e27⟩ : ∃ z : Int32, z = (y2 + (1 : Int32)) := ⟨_, rfl⟩
            have h := x_let_at h e27
            refine lv_iinc (v := x26) (lv' := [(2, .int x26), (0, .ref (X.2.2 10 37)), (1, .ref (X.2.2 1 0))]) hx hb dX0_playOn_59 hl (k := 2) rfl (by rw [e27]; rfl) (by decide) rfl (fun ls hl => ?_)
            refine lv_goto (tgt := 6) hx hb dX0_playOn_62 (by decide) ?_
            exact ih τ24 x26 _ _ _ h hI (lv_sub hl [1, 2, 0] rfl)
          · have h := x_ift h c21
            refine lv_iconst (v := 0) hx hb dX0_playOn_46 (by decide) ?_
            rw [x_some h]
            exact x_zret (v := 0) F hI (by decide) dX0_playOn_47
def fX0_playOn (σ : x_S) : Option (Int32 × x_S) := (Option.bind (fX0_beginPart (σ 10) ) fun r1 => x_let (x_sh σ 10 r1) fun τ3 => fX0_playOn_b6 400 τ3 (0 : Int32))
set_option maxHeartbeats 4000000 in
set_option maxRecDepth 100000 in
theorem mX0_playOn (l : Launch) (X : x_T) (sz : Nat) (σ : x_S) (r : (Int32 × x_S)) (h : fX0_playOn σ  = some r) : Met l yX0_playOn (x_ws yX0_playOn cX0_playOn 3 (some .boolean)) rm_X0_playOn (x_Pc X σ sz [.ref (X.2.2 10 37), .ref (X.2.2 1 0)]) (x_Qi X r.1 r.2 sz) 0 0 (x_A X sz) := by
  refine Met.ofW (cc := cX0_playOn) (maxL := 3) (ret := (some .boolean)) (by decide) rfl ?_
  intro p e s m args below meth c s₁ B hml hv
  obtain ⟨F, hI, rfl, rfl⟩ := x_begin B hml hv
  replace F : x_F p s m _ meth c cX0_playOn 3 RX0 (some .boolean) := F
  have hx := F.1
  have hb := F.2.1
  have hml := F.2.2.1
  have hown := F.2.2.2.1
  have hts := F.2.2.2.2.1
  refine x_entry (vs := [.ref (X.2.2 10 37), .ref (X.2.2 1 0)]) (n := 3) (Nat.le_of_ble_eq_true rfl) (fun ls hl => ?_)
  replace hl : lv_has ls 3 [(0, .ref (X.2.2 10 37)), (1, .ref (X.2.2 1 0))] := hl
  unfold fX0_playOn at h
  refine lv_aload_n hx hb dX0_playOn_0 rfl (lv_at hl 0 rfl) ?_
  obtain ⟨r1, h2, h⟩ := x_bnd h
  have hI := x_toH 10 hI
  refine x_acv hI (x_runV (rest := []) F hI (mX0_beginPart l X σ _ (σ 10)  r1 h2) g_X0_19 ⟨rfl, hd_X0_beginPart⟩ ⟨by decide, by decide⟩ ⟨rfl, rfl⟩ (x_inO (by decide)) rfl rfl rfl rfl hl.1 rfl (Nat.le_of_ble_eq_true rfl) dX0_playOn_1 ⟨Nat.zero_le _, Nat.zero_le _⟩) (fun H locs hI => ?_)
  obtain ⟨τ3, e4⟩ : ∃ z : x_S, z = (x_sh σ 10 r1) := ⟨_, rfl⟩
  rw [← e4] at hI
  have h := x_let_at h e4
  refine lv_iconst (v := 0) hx hb dX0_playOn_4 (by decide) ?_
  refine lv_istore_n (lv' := [(2, .int (0)), (0, .ref (X.2.2 10 37)), (1, .ref (X.2.2 1 0))]) hx hb dX0_playOn_5 rfl hl (by decide) rfl (fun ls hl => ?_)
  exact wX0_playOn_b6 F 400 τ3 (0 : Int32) _ _ _ h hI (lv_sub hl [1, 2, 0] rfl)
