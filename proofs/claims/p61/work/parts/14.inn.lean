abbrev rm_X3_ghostIn : Room := { frames := 1, cells := 0, slots := 0, locals := 20 }
def fX3_ghostIn (u : x_H) (a1 : Int32) : Option Int32 := (Option.bind (fX6_isRoom a1) fun r1 => (if r1 = 0 then some (0 : Int32) else (if (((u 2 0) >>> (a1 &&& 31)) &&& (1 : Int32)) = (1 : Int32) then some (1 : Int32) else some (0 : Int32))))
set_option maxHeartbeats 4000000 in
set_option maxRecDepth 100000 in
theorem mX3_ghostIn (l : Launch) (X : x_T) (σ : x_S) (j : Nat) (hj : j < 10) (sz : Nat) (u : x_H) (a1 : Int32) (r : Int32) (h : fX3_ghostIn u a1 = some r) : Met l yX3_ghostIn (x_ws yX3_ghostIn cX3_ghostIn 2 (some .boolean)) rm_X3_ghostIn (x_Pc X (x_sh σ j u) sz [.ref (X.2.2 j 2), .int a1]) (x_Qi X r (x_sh σ j u) sz) 0 0 (x_A X sz) := by
  refine Met.ofW (cc := cX3_ghostIn) (maxL := 2) (ret := (some .boolean)) (by decide) rfl ?_
  intro p e s m args below meth c s₁ B hml hv
  obtain ⟨F, hI, rfl, rfl⟩ := x_begin B hml hv
  replace F : x_F p s m _ meth c cX3_ghostIn 2 RX3 (some .boolean) := F
  have hx := F.1
  have hb := F.2.1
  have hml := F.2.2.1
  have hown := F.2.2.2.1
  have hts := F.2.2.2.2.1
  refine x_entry (vs := [.ref (X.2.2 j 2), .int a1]) (n := 2) (Nat.le_of_ble_eq_true rfl) (fun ls hl => ?_)
  replace hl : lv_has ls 2 [(0, .ref (X.2.2 j 2)), (1, .int a1)] := hl
  unfold fX3_ghostIn at h
  refine lv_iload_n hx hb dX3_ghostIn_0 rfl (lv_at hl 1 rfl) ?_
  obtain ⟨r1, h2, h⟩ := x_bnd h
  refine x_aci hI (x_runN (rest := []) F hI (mX6_isRoom l X (x_sh σ j u) _ a1 r1 h2) u_mln_X3_50 u_co_X6_isRoom u_ini_X6 u_st_X6_isRoom hd_X6_isRoom ⟨by decide, by decide⟩ ⟨rfl, rfl⟩ rfl hl.1 rfl (Nat.le_of_ble_eq_true rfl) dX3_ghostIn_1 ⟨Nat.zero_le _, Nat.zero_le _⟩) (fun H locs hI => ?_)
  refine lv_if_eq (tgt := 23) hx hb dX3_ghostIn_4 (by decide) (fun c3 => ?_) (fun c3 => ?_)
  · have h := x_ift h c3
    refine lv_iconst (v := 0) hx hb dX3_ghostIn_23 (by decide) ?_
    rw [x_some h]
    exact x_zret (v := 0) F hI (by decide) dX3_ghostIn_24
  · have h := x_iff h c3
    refine lv_aload_n hx hb dX3_ghostIn_7 rfl (lv_at hl 0 rfl) ?_
    refine xg_3_7 F hI (x_inH hj (by decide)) u_fl_X3_33 dX3_ghostIn_8 ?_
    refine lv_iload_n hx hb dX3_ghostIn_11 rfl (lv_at hl 1 rfl) ?_
    refine lv_ishr hx hb dX3_ghostIn_12 ?_
    refine lv_iconst (v := 1) hx hb dX3_ghostIn_13 (by decide) ?_
    refine lv_iand hx hb dX3_ghostIn_14 ?_
    refine lv_iconst (v := 1) hx hb dX3_ghostIn_15 (by decide) ?_
    refine lv_icmp_ne (tgt := 23) hx hb dX3_ghostIn_16 (by decide) (fun c4 => ?_) (fun c4 => ?_)
    · have h := x_iff h c4
      refine lv_iconst (v := 0) hx hb dX3_ghostIn_23 (by decide) ?_
      rw [x_some h]
      exact x_zret (v := 0) F hI (by decide) dX3_ghostIn_24
    · have h := x_ift h c4
      refine lv_iconst (v := 1) hx hb dX3_ghostIn_19 (by decide) ?_
      refine lv_goto (tgt := 24) hx hb dX3_ghostIn_20 (by decide) ?_
      rw [x_some h]
      exact x_zret (v := 1) F hI (by decide) dX3_ghostIn_24
abbrev rm_X3_reservedRoom : Room := { frames := 0, cells := 0, slots := 0, locals := 0 }
def fX3_reservedRoom_b2 : Nat → x_H → Int32 → Int32 → Option Int32
  | 0, _, _, _ => none
  | n + 1, u, y1, y2 => (if (16 : Int32) ≤ y2 then some (-1 : Int32) else (if x_in y2 16 then (if (u 16 (Int32.toNatClampNeg y2)) = y1 then some (y2) else x_let (y2 + (1 : Int32)) fun x4 => fX3_reservedRoom_b2 n u y1 x4) else none))
set_option maxHeartbeats 4000000 in
set_option maxRecDepth 100000 in
theorem wX3_reservedRoom_b2 {p : Program} {l : Launch} {e : Env} {s : State} {m : MethodId} {args : Array Value} {below : List Frame} {meth : Method} {c : Code} {X : x_T} {σ : x_S} {r : Int32} {j : Nat} (hj : j < 10) (F : x_F p s m args meth c cX3_reservedRoom 3 RX3 (some .int)) : ∀ (n : Nat) (u : x_H) (y1 : Int32) (y2 : Int32) (H : Heap) (locs : List Loc) (ls : Array Slot), fX3_reservedRoom_b2 n u y1 y2 = some r → x_I X (x_sh σ j u) s H locs → lv_has ls 3 [(0, .ref (X.2.2 j 2)), (1, .int y1), (2, .int y2)] → W p l e rm_X3_reservedRoom s m args below meth c H locs 0 0 (MQ below (x_Qi X r (x_sh σ j u) s.heap.size) args s 0 0 (x_A X s.heap.size)) (F0 m 2 ls []) := by
  have hx := F.1
  have hb := F.2.1
  have hml := F.2.2.1
  have hown := F.2.2.2.1
  have hts := F.2.2.2.2.1
  intro n
  induction n with
  | zero =>
    intro u y1 y2 H locs ls h
    rw [fX3_reservedRoom_b2] at h
    cases h
  | succ n ih =>
    intro u y1 y2 H locs ls h hI hl
    rw [fX3_reservedRoom_b2] at h
    refine lv_iload_n hx hb dX3_reservedRoom_2 rfl (lv_at hl 2 rfl) ?_
    refine lv_bipush (v := 16) hx hb dX3_reservedRoom_3 (by decide) ?_
    refine lv_icmp_ge (tgt := 26) hx hb dX3_reservedRoom_5 (by decide) (fun c1 => ?_) (fun c1 => ?_)
    · have h := x_ift h c1
      refine lv_iconst (v := (-1)) hx hb dX3_reservedRoom_26 (by decide) ?_
      rw [x_some h]
      exact x_iret F hI dX3_reservedRoom_27
    · have h := x_iff h c1
      refine lv_aload_n hx hb dX3_reservedRoom_8 rfl (lv_at hl 0 rfl) ?_
      refine xg_3_4 F hI (x_inH hj (by decide)) u_fl_X3_24 dX3_reservedRoom_9 ?_
      refine lv_iload_n hx hb dX3_reservedRoom_12 rfl (lv_at hl 2 rfl) ?_
      obtain ⟨g2, h⟩ := x_chk h
      refine xh_iald (n := 16) F hI (x_inH hj (by decide)) (fun _ => rfl) g2 dX3_reservedRoom_13 ?_
      refine lv_iload_n hx hb dX3_reservedRoom_14 rfl (lv_at hl 1 rfl) ?_
      refine lv_icmp_ne (tgt := 20) hx hb dX3_reservedRoom_15 (by decide) (fun c3 => ?_) (fun c3 => ?_)
      · have h := x_iff h c3
        obtain ⟨x4, e5⟩ : ∃ z : Int32, z = (y2 + (1 : Int32)) := ⟨_, rfl⟩
        have h := x_let_at h e5
        refine lv_iinc (v := x4) (lv' := [(2, .int x4), (0, .ref (X.2.2 j 2)), (1, .int y1)]) hx hb dX3_reservedRoom_20 hl (k := 2) rfl (by rw [e5]; rfl) (by decide) rfl (fun ls hl => ?_)
        refine lv_goto (tgt := 2) hx hb dX3_reservedRoom_23 (by decide) ?_
        exact ih u y1 x4 _ _ _ h hI (lv_sub hl [1, 2, 0] rfl)
      · have h := x_ift h c3
        refine lv_iload_n hx hb dX3_reservedRoom_18 rfl (lv_at hl 2 rfl) ?_
        rw [x_some h]
        exact x_iret F hI dX3_reservedRoom_19
def fX3_reservedRoom (u : x_H) (a1 : Int32) : Option Int32 := fX3_reservedRoom_b2 400 u a1 (0 : Int32)
set_option maxHeartbeats 4000000 in
set_option maxRecDepth 100000 in
theorem mX3_reservedRoom (l : Launch) (X : x_T) (σ : x_S) (j : Nat) (hj : j < 10) (sz : Nat) (u : x_H) (a1 : Int32) (r : Int32) (h : fX3_reservedRoom u a1 = some r) : Met l yX3_reservedRoom (x_ws yX3_reservedRoom cX3_reservedRoom 3 (some .int)) rm_X3_reservedRoom (x_Pc X (x_sh σ j u) sz [.ref (X.2.2 j 2), .int a1]) (x_Qi X r (x_sh σ j u) sz) 0 0 (x_A X sz) := by
  refine Met.ofW (cc := cX3_reservedRoom) (maxL := 3) (ret := (some .int)) (by decide) rfl ?_
  intro p e s m args below meth c s₁ B hml hv
  obtain ⟨F, hI, rfl, rfl⟩ := x_begin B hml hv
  replace F : x_F p s m _ meth c cX3_reservedRoom 3 RX3 (some .int) := F
  have hx := F.1
  have hb := F.2.1
  have hml := F.2.2.1
  have hown := F.2.2.2.1
  have hts := F.2.2.2.2.1
  refine x_entry (vs := [.ref (X.2.2 j 2), .int a1]) (n := 3) (Nat.le_of_ble_eq_true rfl) (fun ls hl => ?_)
  replace hl : lv_has ls 3 [(0, .ref (X.2.2 j 2)), (1, .int a1)] := hl
  unfold fX3_reservedRoom at h
  refine lv_iconst (v := 0) hx hb dX3_reservedRoom_0 (by decide) ?_
  refine lv_istore_n (lv' := [(2, .int (0)), (0, .ref (X.2.2 j 2)), (1, .int a1)]) hx hb dX3_reservedRoom_1 rfl hl (by decide) rfl (fun ls hl => ?_)
  exact wX3_reservedRoom_b2 hj F 400 u a1 (0 : Int32) _ _ _ h hI (lv_sub hl [1, 2, 0] rfl)
abbrev rm_X3_dropReservation : Room := { frames := 1, cells := 0, slots := 0, locals := 22 }
def fX3_dropReservation (u : x_H) (a1 : Int32) : Option (Int32 × x_H) := (Option.bind (fX3_reservedRoom u a1) fun r1 => (Option.bind (fX6_isRoom r1) fun r3 => (if r3 = 0 then some (r1, u) else (if x_in r1 16 then x_let (x_hu u 16 (Int32.toNatClampNeg r1) (-1 : Int32)) fun u6 => some (r1, u6) else none))))
set_option maxHeartbeats 4000000 in
set_option maxRecDepth 100000 in
theorem mX3_dropReservation (l : Launch) (X : x_T) (σ : x_S) (j : Nat) (hj : j < 10) (sz : Nat) (u : x_H) (a1 : Int32) (r : (Int32 × x_H)) (h : fX3_dropReservation u a1 = some r) : Met l yX3_dropReservation (x_ws yX3_dropReservation cX3_dropReservation 3 (some .int)) rm_X3_dropReservation (x_Pc X (x_sh σ j u) sz [.ref (X.2.2 j 2), .int a1]) (x_Qi X r.1 (x_sh σ j r.2) sz) 0 0 (x_A X sz) := by
  refine Met.ofW (cc := cX3_dropReservation) (maxL := 3) (ret := (some .int)) (by decide) rfl ?_
  intro p e s m args below meth c s₁ B hml hv
  obtain ⟨F, hI, rfl, rfl⟩ := x_begin B hml hv
  replace F : x_F p s m _ meth c cX3_dropReservation 3 RX3 (some .int) := F
  have hx := F.1
  have hb := F.2.1
  have hml := F.2.2.1
  have hown := F.2.2.2.1
  have hts := F.2.2.2.2.1
  refine x_entry (vs := [.ref (X.2.2 j 2), .int a1]) (n := 3) (Nat.le_of_ble_eq_true rfl) (fun ls hl => ?_)
  replace hl : lv_has ls 3 [(0, .ref (X.2.2 j 2)), (1, .int a1)] := hl
  unfold fX3_dropReservation at h
  refine lv_aload_n hx hb dX3_dropReservation_0 rfl (lv_at hl 0 rfl) ?_
  refine lv_iload_n hx hb dX3_dropReservation_1 rfl (lv_at hl 1 rfl) ?_
  obtain ⟨r1, h2, h⟩ := x_bnd h
  refine x_aci hI (x_runV (rest := []) F hI (mX3_reservedRoom l X σ j hj _ u a1 r1 h2) g_X3_54 ⟨rfl, hd_X3_reservedRoom⟩ ⟨by decide, by decide⟩ ⟨rfl, rfl⟩ (x_inH hj (by decide)) rfl rfl rfl rfl hl.1 rfl (Nat.le_of_ble_eq_true rfl) dX3_dropReservation_2 ⟨Nat.zero_le _, Nat.zero_le _⟩) (fun H locs hI => ?_)
  refine lv_istore_n (lv' := [(2, .int r1), (0, .ref (X.2.2 j 2)), (1, .int a1)]) hx hb dX3_dropReservation_5 rfl hl (by decide) rfl (fun ls hl => ?_)
  refine lv_iload_n hx hb dX3_dropReservation_6 rfl (lv_at hl 0 rfl) ?_
  obtain ⟨r3, h4, h⟩ := x_bnd h
  refine x_aci hI (x_runN (rest := []) F hI (mX6_isRoom l X (x_sh σ j u) _ r1 r3 h4) u_mln_X3_50 u_co_X6_isRoom u_ini_X6 u_st_X6_isRoom hd_X6_isRoom ⟨by decide, by decide⟩ ⟨rfl, rfl⟩ rfl hl.1 rfl (Nat.le_of_ble_eq_true rfl) dX3_dropReservation_7 ⟨Nat.zero_le _, Nat.zero_le _⟩) (fun H locs hI => ?_)
  refine lv_if_eq (tgt := 20) hx hb dX3_dropReservation_10 (by decide) (fun c5 => ?_) (fun c5 => ?_)
  · have h := x_ift h c5
    refine lv_iload_n hx hb dX3_dropReservation_20 rfl (lv_at hl 0 rfl) ?_
    rw [x_some h]
    exact x_iret F hI dX3_dropReservation_21
  · have h := x_iff h c5
    refine lv_aload_n hx hb dX3_dropReservation_13 rfl (lv_at hl 1 rfl) ?_
    refine xg_3_4 F hI (x_inH hj (by decide)) u_fl_X3_24 dX3_dropReservation_14 ?_
    refine lv_iload_n hx hb dX3_dropReservation_17 rfl (lv_at hl 0 rfl) ?_
    refine lv_iconst (v := (-1)) hx hb dX3_dropReservation_18 (by decide) ?_
    obtain ⟨g8, h⟩ := x_chk h
    refine xh_iast (n := 16) F hI (x_inH hj (by decide)) (fun _ => rfl) g8 dX3_dropReservation_19 (fun H locs u6 e7 hI => ?_)
    have h := x_let_at h e7
    refine lv_iload_n hx hb dX3_dropReservation_20 rfl (lv_at hl 0 rfl) ?_
    rw [x_some h]
    exact x_iret F hI dX3_dropReservation_21
abbrev rm_X3_canBeOffered : Room := { frames := 0, cells := 0, slots := 0, locals := 0 }
def fX3_canBeOffered (u : x_H) (a1 : Int32) (a2 : Int32) : Option Int32 := (if a1 < 0 then some (0 : Int32) else (if (16 : Int32) ≤ a1 then some (0 : Int32) else (if x_in a1 16 then (if (u 12 (Int32.toNatClampNeg a1)) = 0 then (if (u 16 (Int32.toNatClampNeg a1)) = (-1 : Int32) then some (1 : Int32) else (if (u 16 (Int32.toNatClampNeg a1)) = a2 then some (1 : Int32) else some (0 : Int32))) else some (0 : Int32)) else none)))
set_option maxHeartbeats 4000000 in
set_option maxRecDepth 100000 in
theorem mX3_canBeOffered (l : Launch) (X : x_T) (σ : x_S) (j : Nat) (hj : j < 10) (sz : Nat) (u : x_H) (a1 : Int32) (a2 : Int32) (r : Int32) (h : fX3_canBeOffered u a1 a2 = some r) : Met l yX3_canBeOffered (x_ws yX3_canBeOffered cX3_canBeOffered 3 (some .boolean)) rm_X3_canBeOffered (x_Pc X (x_sh σ j u) sz [.ref (X.2.2 j 2), .int a1, .int a2]) (x_Qi X r (x_sh σ j u) sz) 0 0 (x_A X sz) := by
  refine Met.ofW (cc := cX3_canBeOffered) (maxL := 3) (ret := (some .boolean)) (by decide) rfl ?_
  intro p e s m args below meth c s₁ B hml hv
  obtain ⟨F, hI, rfl, rfl⟩ := x_begin B hml hv
  replace F : x_F p s m _ meth c cX3_canBeOffered 3 RX3 (some .boolean) := F
  have hx := F.1
  have hb := F.2.1
  have hml := F.2.2.1
  have hown := F.2.2.2.1
  have hts := F.2.2.2.2.1
  refine x_entry (vs := [.ref (X.2.2 j 2), .int a1, .int a2]) (n := 3) (Nat.le_of_ble_eq_true rfl) (fun ls hl => ?_)
  replace hl : lv_has ls 3 [(0, .ref (X.2.2 j 2)), (1, .int a1), (2, .int a2)] := hl
  unfold fX3_canBeOffered at h
  refine lv_iload_n hx hb dX3_canBeOffered_0 rfl (lv_at hl 1 rfl) ?_
  refine lv_if_lt (tgt := 43) hx hb dX3_canBeOffered_1 (by decide) (fun c1 => ?_) (fun c1 => ?_)
  · have h := x_ift h c1
    refine lv_iconst (v := 0) hx hb dX3_canBeOffered_43 (by decide) ?_
    rw [x_some h]
    exact x_zret (v := 0) F hI (by decide) dX3_canBeOffered_44
  · have h := x_iff h c1
    refine lv_iload_n hx hb dX3_canBeOffered_4 rfl (lv_at hl 1 rfl) ?_
    refine lv_bipush (v := 16) hx hb dX3_canBeOffered_5 (by decide) ?_
    refine lv_icmp_ge (tgt := 43) hx hb dX3_canBeOffered_7 (by decide) (fun c2 => ?_) (fun c2 => ?_)
    · have h := x_ift h c2
      refine lv_iconst (v := 0) hx hb dX3_canBeOffered_43 (by decide) ?_
      rw [x_some h]
      exact x_zret (v := 0) F hI (by decide) dX3_canBeOffered_44
    · have h := x_iff h c2
      refine lv_aload_n hx hb dX3_canBeOffered_10 rfl (lv_at hl 0 rfl) ?_
      refine xg_3_0 F hI (x_inH hj (by decide)) u_fl_X3_9 dX3_canBeOffered_11 ?_
      refine lv_iload_n hx hb dX3_canBeOffered_14 rfl (lv_at hl 1 rfl) ?_
      obtain ⟨g3, h⟩ := x_chk h
      refine xh_iald (n := 16) F hI (x_inH hj (by decide)) (fun _ => rfl) g3 dX3_canBeOffered_15 ?_
      refine lv_if_ne (tgt := 43) hx hb dX3_canBeOffered_16 (by decide) (fun c4 => ?_) (fun c4 => ?_)
      · have h := x_iff h c4
        refine lv_iconst (v := 0) hx hb dX3_canBeOffered_43 (by decide) ?_
        rw [x_some h]
        exact x_zret (v := 0) F hI (by decide) dX3_canBeOffered_44
      · have h := x_ift h c4
        refine lv_aload_n hx hb dX3_canBeOffered_19 rfl (lv_at hl 0 rfl) ?_
        refine xg_3_4 F hI (x_inH hj (by decide)) u_fl_X3_24 dX3_canBeOffered_20 ?_
        refine lv_iload_n hx hb dX3_canBeOffered_23 rfl (lv_at hl 1 rfl) ?_
        refine xh_iald (n := 16) F hI (x_inH hj (by decide)) (fun _ => rfl) g3 dX3_canBeOffered_24 ?_
        refine lv_iconst (v := (-1)) hx hb dX3_canBeOffered_25 (by decide) ?_
        refine lv_icmp_eq (tgt := 39) hx hb dX3_canBeOffered_26 (by decide) (fun c5 => ?_) (fun c5 => ?_)
        · have h := x_ift h c5
          refine lv_iconst (v := 1) hx hb dX3_canBeOffered_39 (by decide) ?_
          refine lv_goto (tgt := 44) hx hb dX3_canBeOffered_40 (by decide) ?_
          rw [x_some h]
          exact x_zret (v := 1) F hI (by decide) dX3_canBeOffered_44
        · have h := x_iff h c5
          refine lv_aload_n hx hb dX3_canBeOffered_29 rfl (lv_at hl 0 rfl) ?_
          refine xg_3_4 F hI (x_inH hj (by decide)) u_fl_X3_24 dX3_canBeOffered_30 ?_
          refine lv_iload_n hx hb dX3_canBeOffered_33 rfl (lv_at hl 1 rfl) ?_
          refine xh_iald (n := 16) F hI (x_inH hj (by decide)) (fun _ => rfl) g3 dX3_canBeOffered_34 ?_
          refine lv_iload_n hx hb dX3_canBeOffered_35 rfl (lv_at hl 2 rfl) ?_
          refine lv_icmp_ne (tgt := 43) hx hb dX3_canBeOffered_36 (by decide) (fun c6 => ?_) (fun c6 => ?_)
          · have h := x_iff h c6
            refine lv_iconst (v := 0) hx hb dX3_canBeOffered_43 (by decide) ?_
            rw [x_some h]
            exact x_zret (v := 0) F hI (by decide) dX3_canBeOffered_44
          · have h := x_ift h c6
            refine lv_iconst (v := 1) hx hb dX3_canBeOffered_39 (by decide) ?_
            refine lv_goto (tgt := 44) hx hb dX3_canBeOffered_40 (by decide) ?_
            rw [x_some h]
            exact x_zret (v := 1) F hI (by decide) dX3_canBeOffered_44
abbrev rm_X3_roomToOffer : Room := { frames := 1, cells := 0, slots := 0, locals := 22 }
def fX3_roomToOffer_b85 : Nat → x_H → Int32 → Int32 → Option Int32
  | 0, _, _, _ => none
  | n + 1, u, y1, y4 => (if (16 : Int32) ≤ y4 then some (-1 : Int32) else (Option.bind (fX3_canBeOffered u y4 y1) fun r22 => (if r22 = 0 then x_let (y4 + (1 : Int32)) fun x25 => fX3_roomToOffer_b85 n u y1 x25 else some (y4))))
set_option maxHeartbeats 4000000 in
set_option maxRecDepth 100000 in
theorem wX3_roomToOffer_b85 {p : Program} {l : Launch} {e : Env} {s : State} {m : MethodId} {args : Array Value} {below : List Frame} {meth : Method} {c : Code} {X : x_T} {σ : x_S} {r : Int32} {j : Nat} (hj : j < 10) (F : x_F p s m args meth c cX3_roomToOffer 5 RX3 (some .int)) : ∀ (n : Nat) (u : x_H) (y1 : Int32) (y4 : Int32) (H : Heap) (locs : List Loc) (ls : Array Slot), fX3_roomToOffer_b85 n u y1 y4 = some r → x_I X (x_sh σ j u) s H locs → lv_has ls 5 [(0, .ref (X.2.2 j 2)), (1, .int y1), (4, .int y4)] → W p l e rm_X3_roomToOffer s m args below meth c H locs 0 0 (MQ below (x_Qi X r (x_sh σ j u) s.heap.size) args s 0 0 (x_A X s.heap.size)) (F0 m 85 ls []) := by
  have hx := F.1
  have hb := F.2.1
  have hml := F.2.2.1
  have hown := F.2.2.2.1
  have hts := F.2.2.2.2.1
  intro n
  induction n with
  | zero =>
    intro u y1 y4 H locs ls h
    rw [fX3_roomToOffer_b85] at h
    cases h
  | succ n ih =>
    intro u y1 y4 H locs ls h hI hl
    rw [fX3_roomToOffer_b85] at h
    refine lv_iload hx hb dX3_roomToOffer_85 (lv_at hl 2 rfl) ?_
    refine lv_bipush (v := 16) hx hb dX3_roomToOffer_87 (by decide) ?_
    refine lv_icmp_ge (tgt := 111) hx hb dX3_roomToOffer_89 (by decide) (fun c21 => ?_) (fun c21 => ?_)
    · have h := x_ift h c21
      refine lv_iconst (v := (-1)) hx hb dX3_roomToOffer_111 (by decide) ?_
      rw [x_some h]
      exact x_iret F hI dX3_roomToOffer_112
    · have h := x_iff h c21
      refine lv_aload_n hx hb dX3_roomToOffer_92 rfl (lv_at hl 0 rfl) ?_
      refine lv_iload hx hb dX3_roomToOffer_93 (lv_at hl 2 rfl) ?_
      refine lv_iload_n hx hb dX3_roomToOffer_95 rfl (lv_at hl 1 rfl) ?_
      obtain ⟨r22, h23, h⟩ := x_bnd h
      refine x_aci hI (x_runV (rest := []) F hI (mX3_canBeOffered l X σ j hj _ u y4 y1 r22 h23) g_X3_58 ⟨rfl, hd_X3_canBeOffered⟩ ⟨by decide, by decide⟩ ⟨rfl, rfl⟩ (x_inH hj (by decide)) rfl rfl rfl rfl hl.1 rfl (Nat.le_of_ble_eq_true rfl) dX3_roomToOffer_96 ⟨Nat.zero_le _, Nat.zero_le _⟩) (fun H locs hI => ?_)
      refine lv_if_eq (tgt := 105) hx hb dX3_roomToOffer_99 (by decide) (fun c24 => ?_) (fun c24 => ?_)
      · have h := x_ift h c24
        obtain ⟨x25, e26⟩ : ∃ z : Int32, z = (y4 + (1 : Int32)) := ⟨_, rfl⟩
        have h := x_let_at h e26
        refine lv_iinc (v := x25) (lv' := [(4, .int x25), (0, .ref (X.2.2 j 2)), (1, .int y1)]) hx hb dX3_roomToOffer_105 hl (k := 2) rfl (by rw [e26]; rfl) (by decide) rfl (fun ls hl => ?_)
        refine lv_goto (tgt := 85) hx hb dX3_roomToOffer_108 (by decide) ?_
        exact ih u y1 x25 _ _ _ h hI (lv_sub hl [1, 2, 0] rfl)
      · have h := x_iff h c24
        refine lv_iload hx hb dX3_roomToOffer_102 (lv_at hl 2 rfl) ?_
        rw [x_some h]
        exact x_iret F hI dX3_roomToOffer_104
def fX3_roomToOffer_j70 (u : x_H) (y1 : Int32) (z0 : Int32) : Option Int32 := (Option.bind (fX3_canBeOffered u z0 y1) fun r18 => (if r18 = 0 then fX3_roomToOffer_b85 400 u y1 (0 : Int32) else some (z0)))
set_option maxHeartbeats 4000000 in
set_option maxRecDepth 100000 in
theorem wX3_roomToOffer_j70 {p : Program} {l : Launch} {e : Env} {s : State} {m : MethodId} {args : Array Value} {below : List Frame} {meth : Method} {c : Code} {X : x_T} {σ : x_S} {r : Int32} {j : Nat} (hj : j < 10) (F : x_F p s m args meth c cX3_roomToOffer 5 RX3 (some .int)) (u : x_H) (y1 : Int32) (z0 : Int32) (H : Heap) (locs : List Loc) (ls : Array Slot) (h : fX3_roomToOffer_j70 u y1 z0 = some r) (hI : x_I X (x_sh σ j u) s H locs) (hl : lv_has ls 5 [(0, .ref (X.2.2 j 2)), (1, .int y1)]) : W p l e rm_X3_roomToOffer s m args below meth c H locs 0 0 (MQ below (x_Qi X r (x_sh σ j u) s.heap.size) args s 0 0 (x_A X s.heap.size)) (F0 m 70 ls [.int z0]) := by
  have hx := F.1
  have hb := F.2.1
  have hml := F.2.2.1
  have hown := F.2.2.2.1
  have hts := F.2.2.2.2.1
  unfold fX3_roomToOffer_j70 at h
  refine lv_istore_n (lv' := [(3, .int z0), (0, .ref (X.2.2 j 2)), (1, .int y1)]) hx hb dX3_roomToOffer_70 rfl hl (by decide) rfl (fun ls hl => ?_)
  refine lv_aload_n hx hb dX3_roomToOffer_71 rfl (lv_at hl 1 rfl) ?_
  refine lv_iload_n hx hb dX3_roomToOffer_72 rfl (lv_at hl 0 rfl) ?_
  refine lv_iload_n hx hb dX3_roomToOffer_73 rfl (lv_at hl 2 rfl) ?_
  obtain ⟨r18, h19, h⟩ := x_bnd h
  refine x_aci hI (x_runV (rest := []) F hI (mX3_canBeOffered l X σ j hj _ u z0 y1 r18 h19) g_X3_58 ⟨rfl, hd_X3_canBeOffered⟩ ⟨by decide, by decide⟩ ⟨rfl, rfl⟩ (x_inH hj (by decide)) rfl rfl rfl rfl hl.1 rfl (Nat.le_of_ble_eq_true rfl) dX3_roomToOffer_74 ⟨Nat.zero_le _, Nat.zero_le _⟩) (fun H locs hI => ?_)
  refine lv_if_eq (tgt := 82) hx hb dX3_roomToOffer_77 (by decide) (fun c20 => ?_) (fun c20 => ?_)
  · have h := x_ift h c20
    refine lv_iconst (v := 0) hx hb dX3_roomToOffer_82 (by decide) ?_
    refine lv_istore (lv' := [(4, .int (0)), (3, .int z0), (0, .ref (X.2.2 j 2)), (1, .int y1)]) hx hb dX3_roomToOffer_83 hl (by decide) rfl (fun ls hl => ?_)
    exact wX3_roomToOffer_b85 hj F 400 u y1 (0 : Int32) _ _ _ h hI (lv_sub hl [2, 3, 0] rfl)
  · have h := x_iff h c20
    refine lv_iload_n hx hb dX3_roomToOffer_80 rfl (lv_at hl 0 rfl) ?_
    rw [x_some h]
    exact x_iret F hI dX3_roomToOffer_81
def fX3_roomToOffer_b2 : Nat → x_H → Int32 → Int32 → Option Int32
  | 0, _, _, _ => none
  | n + 1, u, y1, y2 => (if (16 : Int32) ≤ y2 then (Option.bind (fX3_reservedRoom u y1) fun r2 => (Option.bind (fX3_canBeOffered u r2 y1) fun r4 => (if r4 = 0 then (Option.bind (fX6_isGuest y1) fun r7 => (if r7 = 0 then fX3_roomToOffer_j70 u y1 (-1 : Int32) else (if x_in y1 12 then fX3_roomToOffer_j70 u y1 (u 17 (Int32.toNatClampNeg y1)) else none))) else some (r2)))) else (if x_in y2 16 then (if (u 12 (Int32.toNatClampNeg y2)) = (1 : Int32) then (if (u 13 (Int32.toNatClampNeg y2)) = y1 then some (y2) else x_let (y2 + (1 : Int32)) fun x14 => fX3_roomToOffer_b2 n u y1 x14) else x_let (y2 + (1 : Int32)) fun x16 => fX3_roomToOffer_b2 n u y1 x16) else none))
set_option maxHeartbeats 4000000 in
set_option maxRecDepth 100000 in
theorem wX3_roomToOffer_b2 {p : Program} {l : Launch} {e : Env} {s : State} {m : MethodId} {args : Array Value} {below : List Frame} {meth : Method} {c : Code} {X : x_T} {σ : x_S} {r : Int32} {j : Nat} (hj : j < 10) (F : x_F p s m args meth c cX3_roomToOffer 5 RX3 (some .int)) : ∀ (n : Nat) (u : x_H) (y1 : Int32) (y2 : Int32) (H : Heap) (locs : List Loc) (ls : Array Slot), fX3_roomToOffer_b2 n u y1 y2 = some r → x_I X (x_sh σ j u) s H locs → lv_has ls 5 [(0, .ref (X.2.2 j 2)), (1, .int y1), (2, .int y2)] → W p l e rm_X3_roomToOffer s m args below meth c H locs 0 0 (MQ below (x_Qi X r (x_sh σ j u) s.heap.size) args s 0 0 (x_A X s.heap.size)) (F0 m 2 ls []) := by
  have hx := F.1
  have hb := F.2.1
  have hml := F.2.2.1
  have hown := F.2.2.2.1
  have hts := F.2.2.2.2.1
  intro n
  induction n with
  | zero =>
    intro u y1 y2 H locs ls h
    rw [fX3_roomToOffer_b2] at h
    cases h
  | succ n ih =>
    intro u y1 y2 H locs ls h hI hl
    rw [fX3_roomToOffer_b2] at h
    refine lv_iload_n hx hb dX3_roomToOffer_2 rfl (lv_at hl 2 rfl) ?_
    refine lv_bipush (v := 16) hx hb dX3_roomToOffer_3 (by decide) ?_
    refine lv_icmp_ge (tgt := 36) hx hb dX3_roomToOffer_5 (by decide) (fun c1 => ?_) (fun c1 => ?_)
    · have h := x_ift h c1
      refine lv_aload_n hx hb dX3_roomToOffer_36 rfl (lv_at hl 0 rfl) ?_
      refine lv_iload_n hx hb dX3_roomToOffer_37 rfl (lv_at hl 1 rfl) ?_
      obtain ⟨r2, h3, h⟩ := x_bnd h
      refine x_aci hI (x_runV (rest := []) F hI (mX3_reservedRoom l X σ j hj _ u y1 r2 h3) g_X3_54 ⟨rfl, hd_X3_reservedRoom⟩ ⟨by decide, by decide⟩ ⟨rfl, rfl⟩ (x_inH hj (by decide)) rfl rfl rfl rfl hl.1 rfl (Nat.le_of_ble_eq_true rfl) dX3_roomToOffer_38 ⟨Nat.zero_le _, Nat.zero_le _⟩) (fun H locs hI => ?_)
      refine lv_istore_n (lv' := [(2, .int r2), (0, .ref (X.2.2 j 2)), (1, .int y1)]) hx hb dX3_roomToOffer_41 rfl hl (by decide) rfl (fun ls hl => ?_)
      refine lv_aload_n hx hb dX3_roomToOffer_42 rfl (lv_at hl 1 rfl) ?_
      refine lv_iload_n hx hb dX3_roomToOffer_43 rfl (lv_at hl 0 rfl) ?_
      refine lv_iload_n hx hb dX3_roomToOffer_44 rfl (lv_at hl 2 rfl) ?_
      obtain ⟨r4, h5, h⟩ := x_bnd h
      refine x_aci hI (x_runV (rest := []) F hI (mX3_canBeOffered l X σ j hj _ u r2 y1 r4 h5) g_X3_58 ⟨rfl, hd_X3_canBeOffered⟩ ⟨by decide, by decide⟩ ⟨rfl, rfl⟩ (x_inH hj (by decide)) rfl rfl rfl rfl hl.1 rfl (Nat.le_of_ble_eq_true rfl) dX3_roomToOffer_45 ⟨Nat.zero_le _, Nat.zero_le _⟩) (fun H locs hI => ?_)
      refine lv_if_eq (tgt := 53) hx hb dX3_roomToOffer_48 (by decide) (fun c6 => ?_) (fun c6 => ?_)
      · have h := x_ift h c6
        refine lv_iload_n hx hb dX3_roomToOffer_53 rfl (lv_at hl 2 rfl) ?_
        obtain ⟨r7, h8, h⟩ := x_bnd h
        refine x_aci hI (x_runN (rest := []) F hI (mX6_isGuest l X (x_sh σ j u) _ y1 r7 h8) u_mln_X3_62 u_co_X6_isGuest u_ini_X6 u_st_X6_isGuest hd_X6_isGuest ⟨by decide, by decide⟩ ⟨rfl, rfl⟩ rfl hl.1 rfl (Nat.le_of_ble_eq_true rfl) dX3_roomToOffer_54 ⟨Nat.zero_le _, Nat.zero_le _⟩) (fun H locs hI => ?_)
        refine lv_if_eq (tgt := 69) hx hb dX3_roomToOffer_57 (by decide) (fun c9 => ?_) (fun c9 => ?_)
        · have h := x_ift h c9
          refine lv_iconst (v := (-1)) hx hb dX3_roomToOffer_69 (by decide) ?_
          exact wX3_roomToOffer_j70 hj F u y1 (-1 : Int32) _ _ _ h hI (lv_sub hl [1, 2] rfl)
        · have h := x_iff h c9
          refine lv_aload_n hx hb dX3_roomToOffer_60 rfl (lv_at hl 1 rfl) ?_
          refine xg_3_5 F hI (x_inH hj (by decide)) u_fl_X3_27 dX3_roomToOffer_61 ?_
          refine lv_iload_n hx hb dX3_roomToOffer_64 rfl (lv_at hl 2 rfl) ?_
          obtain ⟨g10, h⟩ := x_chk h
          refine xh_iald (n := 12) F hI (x_inH hj (by decide)) (fun _ => rfl) g10 dX3_roomToOffer_65 ?_
          refine lv_goto (tgt := 70) hx hb dX3_roomToOffer_66 (by decide) ?_
          exact wX3_roomToOffer_j70 hj F u y1 (u 17 (Int32.toNatClampNeg y1)) _ _ _ h hI (lv_sub hl [1, 2] rfl)
      · have h := x_iff h c6
        refine lv_iload_n hx hb dX3_roomToOffer_51 rfl (lv_at hl 0 rfl) ?_
        rw [x_some h]
        exact x_iret F hI dX3_roomToOffer_52
    · have h := x_iff h c1
      refine lv_aload_n hx hb dX3_roomToOffer_8 rfl (lv_at hl 0 rfl) ?_
      refine xg_3_0 F hI (x_inH hj (by decide)) u_fl_X3_9 dX3_roomToOffer_9 ?_
      refine lv_iload_n hx hb dX3_roomToOffer_12 rfl (lv_at hl 2 rfl) ?_
      obtain ⟨g11, h⟩ := x_chk h
      refine xh_iald (n := 16) F hI (x_inH hj (by decide)) (fun _ => rfl) g11 dX3_roomToOffer_13 ?_
      refine lv_iconst (v := 1) hx hb dX3_roomToOffer_14 (by decide) ?_
      refine lv_icmp_ne (tgt := 30) hx hb dX3_roomToOffer_15 (by decide) (fun c12 => ?_) (fun c12 => ?_)
      · have h := x_iff h c12
        obtain ⟨x16, e17⟩ : ∃ z : Int32, z = (y2 + (1 : Int32)) := ⟨_, rfl⟩
        have h := x_let_at h e17
        refine lv_iinc (v := x16) (lv' := [(2, .int x16), (0, .ref (X.2.2 j 2)), (1, .int y1)]) hx hb dX3_roomToOffer_30 hl (k := 2) rfl (by rw [e17]; rfl) (by decide) rfl (fun ls hl => ?_)
        refine lv_goto (tgt := 2) hx hb dX3_roomToOffer_33 (by decide) ?_
        exact ih u y1 x16 _ _ _ h hI (lv_sub hl [1, 2, 0] rfl)
      · have h := x_ift h c12
        refine lv_aload_n hx hb dX3_roomToOffer_18 rfl (lv_at hl 0 rfl) ?_
        refine xg_3_1 F hI (x_inH hj (by decide)) u_fl_X3_15 dX3_roomToOffer_19 ?_
        refine lv_iload_n hx hb dX3_roomToOffer_22 rfl (lv_at hl 2 rfl) ?_
        refine xh_iald (n := 16) F hI (x_inH hj (by decide)) (fun _ => rfl) g11 dX3_roomToOffer_23 ?_
        refine lv_iload_n hx hb dX3_roomToOffer_24 rfl (lv_at hl 1 rfl) ?_
        refine lv_icmp_ne (tgt := 30) hx hb dX3_roomToOffer_25 (by decide) (fun c13 => ?_) (fun c13 => ?_)
        · have h := x_iff h c13
          obtain ⟨x14, e15⟩ : ∃ z : Int32, z = (y2 + (1 : Int32)) := ⟨_, rfl⟩
          have h := x_let_at h e15
          refine lv_iinc (v := x14) (lv' := [(2, .int x14), (0, .ref (X.2.2 j 2)), (1, .int y1)]) hx hb dX3_roomToOffer_30 hl (k := 2) rfl (by rw [e15]; rfl) (by decide) rfl (fun ls hl => ?_)
          refine lv_goto (tgt := 2) hx hb dX3_roomToOffer_33 (by decide) ?_
          exact ih u y1 x14 _ _ _ h hI (lv_sub hl [1, 2, 0] rfl)
        · have h := x_ift h c13
          refine lv_iload_n hx hb dX3_roomToOffer_28 rfl (lv_at hl 2 rfl) ?_
          rw [x_some h]
          exact x_iret F hI dX3_roomToOffer_29
def fX3_roomToOffer (u : x_H) (a1 : Int32) : Option Int32 := fX3_roomToOffer_b2 400 u a1 (0 : Int32)
set_option maxHeartbeats 4000000 in
set_option maxRecDepth 100000 in
theorem mX3_roomToOffer (l : Launch) (X : x_T) (σ : x_S) (j : Nat) (hj : j < 10) (sz : Nat) (u : x_H) (a1 : Int32) (r : Int32) (h : fX3_roomToOffer u a1 = some r) : Met l yX3_roomToOffer (x_ws yX3_roomToOffer cX3_roomToOffer 5 (some .int)) rm_X3_roomToOffer (x_Pc X (x_sh σ j u) sz [.ref (X.2.2 j 2), .int a1]) (x_Qi X r (x_sh σ j u) sz) 0 0 (x_A X sz) := by
  refine Met.ofW (cc := cX3_roomToOffer) (maxL := 5) (ret := (some .int)) (by decide) rfl ?_
  intro p e s m args below meth c s₁ B hml hv
  obtain ⟨F, hI, rfl, rfl⟩ := x_begin B hml hv
  replace F : x_F p s m _ meth c cX3_roomToOffer 5 RX3 (some .int) := F
  have hx := F.1
  have hb := F.2.1
  have hml := F.2.2.1
  have hown := F.2.2.2.1
  have hts := F.2.2.2.2.1
  refine x_entry (vs := [.ref (X.2.2 j 2), .int a1]) (n := 5) (Nat.le_of_ble_eq_true rfl) (fun ls hl => ?_)
  replace hl : lv_has ls 5 [(0, .ref (X.2.2 j 2)), (1, .int a1)] := hl
  unfold fX3_roomToOffer at h
  refine lv_iconst (v := 0) hx hb dX3_roomToOffer_0 (by decide) ?_
  refine lv_istore_n (lv' := [(2, .int (0)), (0, .ref (X.2.2 j 2)), (1, .int a1)]) hx hb dX3_roomToOffer_1 rfl hl (by decide) rfl (fun ls hl => ?_)
  exact wX3_roomToOffer_b2 hj F 400 u a1 (0 : Int32) _ _ _ h hI (lv_sub hl [1, 2, 0] rfl)
abbrev rm_X3_offer : Room := { frames := 1, cells := 0, slots := 0, locals := 20 }
def fX3_offer (u : x_H) (a1 : Int32) (a2 : Int32) (a3 : Int32) : Option x_H := (Option.bind (fX6_isRoom a1) fun r1 => (if r1 = 0 then some (u) else (if x_in a1 16 then x_let (x_hu u 12 (Int32.toNatClampNeg a1) (1 : Int32)) fun u4 => x_let (x_hu u4 13 (Int32.toNatClampNeg a1) a2) fun u7 => x_let (x_hu u7 14 (Int32.toNatClampNeg a1) (a3 + (u7 2 2))) fun u9 => some (u9) else none)))
set_option maxHeartbeats 4000000 in
set_option maxRecDepth 100000 in
theorem mX3_offer (l : Launch) (X : x_T) (σ : x_S) (j : Nat) (hj : j < 10) (sz : Nat) (u : x_H) (a1 : Int32) (a2 : Int32) (a3 : Int32) (r : x_H) (h : fX3_offer u a1 a2 a3 = some r) : Met l yX3_offer (x_ws yX3_offer cX3_offer 4 none) rm_X3_offer (x_Pc X (x_sh σ j u) sz [.ref (X.2.2 j 2), .int a1, .int a2, .int a3]) (x_Qv X (x_sh σ j r) sz) 0 0 (x_A X sz) := by
  refine Met.ofW (cc := cX3_offer) (maxL := 4) (ret := none) (by decide) rfl ?_
  intro p e s m args below meth c s₁ B hml hv
  obtain ⟨F, hI, rfl, rfl⟩ := x_begin B hml hv
  replace F : x_F p s m _ meth c cX3_offer 4 RX3 none := F
  have hx := F.1
  have hb := F.2.1
  have hml := F.2.2.1
  have hown := F.2.2.2.1
  have hts := F.2.2.2.2.1
  refine x_entry (vs := [.ref (X.2.2 j 2), .int a1, .int a2, .int a3]) (n := 4) (Nat.le_of_ble_eq_true rfl) (fun ls hl => ?_)
  replace hl : lv_has ls 4 [(0, .ref (X.2.2 j 2)), (1, .int a1), (2, .int a2), (3, .int a3)] := hl
  unfold fX3_offer at h
  refine lv_iload_n hx hb dX3_offer_0 rfl (lv_at hl 1 rfl) ?_
  obtain ⟨r1, h2, h⟩ := x_bnd h
  refine x_aci hI (x_runN (rest := []) F hI (mX6_isRoom l X (x_sh σ j u) _ a1 r1 h2) u_mln_X3_50 u_co_X6_isRoom u_ini_X6 u_st_X6_isRoom hd_X6_isRoom ⟨by decide, by decide⟩ ⟨rfl, rfl⟩ rfl hl.1 rfl (Nat.le_of_ble_eq_true rfl) dX3_offer_1 ⟨Nat.zero_le _, Nat.zero_le _⟩) (fun H locs hI => ?_)
  refine lv_if_eq (tgt := 33) hx hb dX3_offer_4 (by decide) (fun c3 => ?_) (fun c3 => ?_)
  · have h := x_ift h c3
    rw [x_some h]
    exact x_vret F hI dX3_offer_33
  · have h := x_iff h c3
    refine lv_aload_n hx hb dX3_offer_7 rfl (lv_at hl 0 rfl) ?_
    refine xg_3_0 F hI (x_inH hj (by decide)) u_fl_X3_9 dX3_offer_8 ?_
    refine lv_iload_n hx hb dX3_offer_11 rfl (lv_at hl 1 rfl) ?_
    refine lv_iconst (v := 1) hx hb dX3_offer_12 (by decide) ?_
    obtain ⟨g6, h⟩ := x_chk h
    refine xh_iast (n := 16) F hI (x_inH hj (by decide)) (fun _ => rfl) g6 dX3_offer_13 (fun H locs u4 e5 hI => ?_)
    have h := x_let_at h e5
    refine lv_aload_n hx hb dX3_offer_14 rfl (lv_at hl 0 rfl) ?_
    refine xg_3_1 F hI (x_inH hj (by decide)) u_fl_X3_15 dX3_offer_15 ?_
    refine lv_iload_n hx hb dX3_offer_18 rfl (lv_at hl 1 rfl) ?_
    refine lv_iload_n hx hb dX3_offer_19 rfl (lv_at hl 2 rfl) ?_
    refine xh_iast (n := 16) F hI (x_inH hj (by decide)) (fun _ => rfl) g6 dX3_offer_20 (fun H locs u7 e8 hI => ?_)
    have h := x_let_at h e8
    refine lv_aload_n hx hb dX3_offer_21 rfl (lv_at hl 0 rfl) ?_
    refine xg_3_2 F hI (x_inH hj (by decide)) u_fl_X3_18 dX3_offer_22 ?_
    refine lv_iload_n hx hb dX3_offer_25 rfl (lv_at hl 1 rfl) ?_
    refine lv_iload_n hx hb dX3_offer_26 rfl (lv_at hl 3 rfl) ?_
    refine lv_aload_n hx hb dX3_offer_27 rfl (lv_at hl 0 rfl) ?_
    refine xg_3_9 F hI (x_inH hj (by decide)) u_fl_X3_40 dX3_offer_28 ?_
    refine lv_iadd hx hb dX3_offer_31 ?_
    refine xh_iast (n := 16) F hI (x_inH hj (by decide)) (fun _ => rfl) g6 dX3_offer_32 (fun H locs u9 e10 hI => ?_)
    have h := x_let_at h e10
    rw [x_some h]
    exact x_vret F hI dX3_offer_33
abbrev rm_X3_isLeasedTo : Room := { frames := 0, cells := 0, slots := 0, locals := 0 }
def fX3_isLeasedTo (u : x_H) (a1 : Int32) (a2 : Int32) : Option Int32 := (if a1 < 0 then some (0 : Int32) else (if (16 : Int32) ≤ a1 then some (0 : Int32) else (if x_in a1 16 then (if (u 12 (Int32.toNatClampNeg a1)) = (2 : Int32) then (if (u 13 (Int32.toNatClampNeg a1)) = a2 then some (1 : Int32) else some (0 : Int32)) else some (0 : Int32)) else none)))
set_option maxHeartbeats 4000000 in
set_option maxRecDepth 100000 in
theorem mX3_isLeasedTo (l : Launch) (X : x_T) (σ : x_S) (j : Nat) (hj : j < 10) (sz : Nat) (u : x_H) (a1 : Int32) (a2 : Int32) (r : Int32) (h : fX3_isLeasedTo u a1 a2 = some r) : Met l yX3_isLeasedTo (x_ws yX3_isLeasedTo cX3_isLeasedTo 3 (some .boolean)) rm_X3_isLeasedTo (x_Pc X (x_sh σ j u) sz [.ref (X.2.2 j 2), .int a1, .int a2]) (x_Qi X r (x_sh σ j u) sz) 0 0 (x_A X sz) := by
  refine Met.ofW (cc := cX3_isLeasedTo) (maxL := 3) (ret := (some .boolean)) (by decide) rfl ?_
  intro p e s m args below meth c s₁ B hml hv
  obtain ⟨F, hI, rfl, rfl⟩ := x_begin B hml hv
  replace F : x_F p s m _ meth c cX3_isLeasedTo 3 RX3 (some .boolean) := F
  have hx := F.1
  have hb := F.2.1
  have hml := F.2.2.1
  have hown := F.2.2.2.1
  have hts := F.2.2.2.2.1
  refine x_entry (vs := [.ref (X.2.2 j 2), .int a1, .int a2]) (n := 3) (Nat.le_of_ble_eq_true rfl) (fun ls hl => ?_)
  replace hl : lv_has ls 3 [(0, .ref (X.2.2 j 2)), (1, .int a1), (2, .int a2)] := hl
  unfold fX3_isLeasedTo at h
  refine lv_iload_n hx hb dX3_isLeasedTo_0 rfl (lv_at hl 1 rfl) ?_
  refine lv_if_lt (tgt := 34) hx hb dX3_isLeasedTo_1 (by decide) (fun c1 => ?_) (fun c1 => ?_)
  · have h := x_ift h c1
    refine lv_iconst (v := 0) hx hb dX3_isLeasedTo_34 (by decide) ?_
    rw [x_some h]
    exact x_zret (v := 0) F hI (by decide) dX3_isLeasedTo_35
  · have h := x_iff h c1
    refine lv_iload_n hx hb dX3_isLeasedTo_4 rfl (lv_at hl 1 rfl) ?_
    refine lv_bipush (v := 16) hx hb dX3_isLeasedTo_5 (by decide) ?_
    refine lv_icmp_ge (tgt := 34) hx hb dX3_isLeasedTo_7 (by decide) (fun c2 => ?_) (fun c2 => ?_)
    · have h := x_ift h c2
      refine lv_iconst (v := 0) hx hb dX3_isLeasedTo_34 (by decide) ?_
      rw [x_some h]
      exact x_zret (v := 0) F hI (by decide) dX3_isLeasedTo_35
    · have h := x_iff h c2
      refine lv_aload_n hx hb dX3_isLeasedTo_10 rfl (lv_at hl 0 rfl) ?_
      refine xg_3_0 F hI (x_inH hj (by decide)) u_fl_X3_9 dX3_isLeasedTo_11 ?_
      refine lv_iload_n hx hb dX3_isLeasedTo_14 rfl (lv_at hl 1 rfl) ?_
      obtain ⟨g3, h⟩ := x_chk h
      refine xh_iald (n := 16) F hI (x_inH hj (by decide)) (fun _ => rfl) g3 dX3_isLeasedTo_15 ?_
      refine lv_iconst (v := 2) hx hb dX3_isLeasedTo_16 (by decide) ?_
      refine lv_icmp_ne (tgt := 34) hx hb dX3_isLeasedTo_17 (by decide) (fun c4 => ?_) (fun c4 => ?_)
      · have h := x_iff h c4
        refine lv_iconst (v := 0) hx hb dX3_isLeasedTo_34 (by decide) ?_
        rw [x_some h]
        exact x_zret (v := 0) F hI (by decide) dX3_isLeasedTo_35
      · have h := x_ift h c4
        refine lv_aload_n hx hb dX3_isLeasedTo_20 rfl (lv_at hl 0 rfl) ?_
        refine xg_3_1 F hI (x_inH hj (by decide)) u_fl_X3_15 dX3_isLeasedTo_21 ?_
        refine lv_iload_n hx hb dX3_isLeasedTo_24 rfl (lv_at hl 1 rfl) ?_
        refine xh_iald (n := 16) F hI (x_inH hj (by decide)) (fun _ => rfl) g3 dX3_isLeasedTo_25 ?_
        refine lv_iload_n hx hb dX3_isLeasedTo_26 rfl (lv_at hl 2 rfl) ?_
        refine lv_icmp_ne (tgt := 34) hx hb dX3_isLeasedTo_27 (by decide) (fun c5 => ?_) (fun c5 => ?_)
        · have h := x_iff h c5
          refine lv_iconst (v := 0) hx hb dX3_isLeasedTo_34 (by decide) ?_
          rw [x_some h]
          exact x_zret (v := 0) F hI (by decide) dX3_isLeasedTo_35
        · have h := x_ift h c5
          refine lv_iconst (v := 1) hx hb dX3_isLeasedTo_30 (by decide) ?_
          refine lv_goto (tgt := 35) hx hb dX3_isLeasedTo_31 (by decide) ?_
          rw [x_some h]
          exact x_zret (v := 1) F hI (by decide) dX3_isLeasedTo_35
abbrev rm_X3_isHeldFor : Room := { frames := 1, cells := 0, slots := 0, locals := 20 }
def fX3_isHeldFor (u : x_H) (a1 : Int32) (a2 : Int32) : Option Int32 := (Option.bind (fX6_isRoom a1) fun r1 => (if r1 = 0 then some (0 : Int32) else (if x_in a1 16 then (if (u 13 (Int32.toNatClampNeg a1)) = a2 then (if (u 12 (Int32.toNatClampNeg a1)) = (1 : Int32) then some (1 : Int32) else (if (u 12 (Int32.toNatClampNeg a1)) = (2 : Int32) then some (1 : Int32) else some (0 : Int32))) else some (0 : Int32)) else none)))
set_option maxHeartbeats 4000000 in
set_option maxRecDepth 100000 in
theorem mX3_isHeldFor (l : Launch) (X : x_T) (σ : x_S) (j : Nat) (hj : j < 10) (sz : Nat) (u : x_H) (a1 : Int32) (a2 : Int32) (r : Int32) (h : fX3_isHeldFor u a1 a2 = some r) : Met l yX3_isHeldFor (x_ws yX3_isHeldFor cX3_isHeldFor 3 (some .boolean)) rm_X3_isHeldFor (x_Pc X (x_sh σ j u) sz [.ref (X.2.2 j 2), .int a1, .int a2]) (x_Qi X r (x_sh σ j u) sz) 0 0 (x_A X sz) := by
  refine Met.ofW (cc := cX3_isHeldFor) (maxL := 3) (ret := (some .boolean)) (by decide) rfl ?_
  intro p e s m args below meth c s₁ B hml hv
  obtain ⟨F, hI, rfl, rfl⟩ := x_begin B hml hv
  replace F : x_F p s m _ meth c cX3_isHeldFor 3 RX3 (some .boolean) := F
  have hx := F.1
  have hb := F.2.1
  have hml := F.2.2.1
  have hown := F.2.2.2.1
  have hts := F.2.2.2.2.1
  refine x_entry (vs := [.ref (X.2.2 j 2), .int a1, .int a2]) (n := 3) (Nat.le_of_ble_eq_true rfl) (fun ls hl => ?_)
  replace hl : lv_has ls 3 [(0, .ref (X.2.2 j 2)), (1, .int a1), (2, .int a2)] := hl
  unfold fX3_isHeldFor at h
  refine lv_iload_n hx hb dX3_isHeldFor_0 rfl (lv_at hl 1 rfl) ?_
  obtain ⟨r1, h2, h⟩ := x_bnd h
  refine x_aci hI (x_runN (rest := []) F hI (mX6_isRoom l X (x_sh σ j u) _ a1 r1 h2) u_mln_X3_50 u_co_X6_isRoom u_ini_X6 u_st_X6_isRoom hd_X6_isRoom ⟨by decide, by decide⟩ ⟨rfl, rfl⟩ rfl hl.1 rfl (Nat.le_of_ble_eq_true rfl) dX3_isHeldFor_1 ⟨Nat.zero_le _, Nat.zero_le _⟩) (fun H locs hI => ?_)
  refine lv_if_eq (tgt := 41) hx hb dX3_isHeldFor_4 (by decide) (fun c3 => ?_) (fun c3 => ?_)
  · have h := x_ift h c3
    refine lv_iconst (v := 0) hx hb dX3_isHeldFor_41 (by decide) ?_
    rw [x_some h]
    exact x_zret (v := 0) F hI (by decide) dX3_isHeldFor_42
  · have h := x_iff h c3
    refine lv_aload_n hx hb dX3_isHeldFor_7 rfl (lv_at hl 0 rfl) ?_
    refine xg_3_1 F hI (x_inH hj (by decide)) u_fl_X3_15 dX3_isHeldFor_8 ?_
    refine lv_iload_n hx hb dX3_isHeldFor_11 rfl (lv_at hl 1 rfl) ?_
    obtain ⟨g4, h⟩ := x_chk h
    refine xh_iald (n := 16) F hI (x_inH hj (by decide)) (fun _ => rfl) g4 dX3_isHeldFor_12 ?_
    refine lv_iload_n hx hb dX3_isHeldFor_13 rfl (lv_at hl 2 rfl) ?_
    refine lv_icmp_ne (tgt := 41) hx hb dX3_isHeldFor_14 (by decide) (fun c5 => ?_) (fun c5 => ?_)
    · have h := x_iff h c5
      refine lv_iconst (v := 0) hx hb dX3_isHeldFor_41 (by decide) ?_
      rw [x_some h]
      exact x_zret (v := 0) F hI (by decide) dX3_isHeldFor_42
    · have h := x_ift h c5
      refine lv_aload_n hx hb dX3_isHeldFor_17 rfl (lv_at hl 0 rfl) ?_
      refine xg_3_0 F hI (x_inH hj (by decide)) u_fl_X3_9 dX3_isHeldFor_18 ?_
      refine lv_iload_n hx hb dX3_isHeldFor_21 rfl (lv_at hl 1 rfl) ?_
      refine xh_iald (n := 16) F hI (x_inH hj (by decide)) (fun _ => rfl) g4 dX3_isHeldFor_22 ?_
      refine lv_iconst (v := 1) hx hb dX3_isHeldFor_23 (by decide) ?_
      refine lv_icmp_eq (tgt := 37) hx hb dX3_isHeldFor_24 (by decide) (fun c6 => ?_) (fun c6 => ?_)
      · have h := x_ift h c6
        refine lv_iconst (v := 1) hx hb dX3_isHeldFor_37 (by decide) ?_
        refine lv_goto (tgt := 42) hx hb dX3_isHeldFor_38 (by decide) ?_
        rw [x_some h]
        exact x_zret (v := 1) F hI (by decide) dX3_isHeldFor_42
      · have h := x_iff h c6
        refine lv_aload_n hx hb dX3_isHeldFor_27 rfl (lv_at hl 0 rfl) ?_
        refine xg_3_0 F hI (x_inH hj (by decide)) u_fl_X3_9 dX3_isHeldFor_28 ?_
        refine lv_iload_n hx hb dX3_isHeldFor_31 rfl (lv_at hl 1 rfl) ?_
        refine xh_iald (n := 16) F hI (x_inH hj (by decide)) (fun _ => rfl) g4 dX3_isHeldFor_32 ?_
        refine lv_iconst (v := 2) hx hb dX3_isHeldFor_33 (by decide) ?_
        refine lv_icmp_ne (tgt := 41) hx hb dX3_isHeldFor_34 (by decide) (fun c7 => ?_) (fun c7 => ?_)
        · have h := x_iff h c7
          refine lv_iconst (v := 0) hx hb dX3_isHeldFor_41 (by decide) ?_
          rw [x_some h]
          exact x_zret (v := 0) F hI (by decide) dX3_isHeldFor_42
        · have h := x_ift h c7
          refine lv_iconst (v := 1) hx hb dX3_isHeldFor_37 (by decide) ?_
          refine lv_goto (tgt := 42) hx hb dX3_isHeldFor_38 (by decide) ?_
          rw [x_some h]
          exact x_zret (v := 1) F hI (by decide) dX3_isHeldFor_42
abbrev rm_X3_lease : Room := { frames := 1, cells := 0, slots := 0, locals := 22 }
def fX3_lease_j58 (u : x_H) (y1 : Int32) (y2 : Int32) (y4 : Int32) (y5 : Int32) : Option x_H := (if x_in y1 16 then x_let (x_hu u 12 (Int32.toNatClampNeg y1) (2 : Int32)) fun u18 => x_let (x_hu u18 13 (Int32.toNatClampNeg y1) y2) fun u21 => x_let (x_hu u21 14 (Int32.toNatClampNeg y1) y5) fun u23 => x_let (x_hu u23 15 (Int32.toNatClampNeg y1) y4) fun u25 => (if x_in y2 12 then x_let (x_hu u25 17 (Int32.toNatClampNeg y2) y1) fun u27 => some (u27) else none) else none)
set_option maxHeartbeats 4000000 in
set_option maxRecDepth 100000 in
theorem wX3_lease_j58 {p : Program} {l : Launch} {e : Env} {s : State} {m : MethodId} {args : Array Value} {below : List Frame} {meth : Method} {c : Code} {X : x_T} {σ : x_S} {r : x_H} {j : Nat} (hj : j < 10) (F : x_F p s m args meth c cX3_lease 6 RX3 none) (u : x_H) (y1 : Int32) (y2 : Int32) (y4 : Int32) (y5 : Int32) (H : Heap) (locs : List Loc) (ls : Array Slot) (h : fX3_lease_j58 u y1 y2 y4 y5 = some r) (hI : x_I X (x_sh σ j u) s H locs) (hl : lv_has ls 6 [(0, .ref (X.2.2 j 2)), (1, .int y1), (2, .int y2), (4, .int y4), (5, .int y5)]) : W p l e rm_X3_lease s m args below meth c H locs 0 0 (MQ below (x_Qv X (x_sh σ j r) s.heap.size) args s 0 0 (x_A X s.heap.size)) (F0 m 58 ls []) := by
  have hx := F.1
  have hb := F.2.1
  have hml := F.2.2.1
  have hown := F.2.2.2.1
  have hts := F.2.2.2.2.1
  unfold fX3_lease_j58 at h
  refine lv_aload_n hx hb dX3_lease_58 rfl (lv_at hl 0 rfl) ?_
  refine xg_3_0 F hI (x_inH hj (by decide)) u_fl_X3_9 dX3_lease_59 ?_
  refine lv_iload_n hx hb dX3_lease_62 rfl (lv_at hl 1 rfl) ?_
  refine lv_iconst (v := 2) hx hb dX3_lease_63 (by decide) ?_
  obtain ⟨g20, h⟩ := x_chk h
  refine xh_iast (n := 16) F hI (x_inH hj (by decide)) (fun _ => rfl) g20 dX3_lease_64 (fun H locs u18 e19 hI => ?_)
  have h := x_let_at h e19
  refine lv_aload_n hx hb dX3_lease_65 rfl (lv_at hl 0 rfl) ?_
  refine xg_3_1 F hI (x_inH hj (by decide)) u_fl_X3_15 dX3_lease_66 ?_
  refine lv_iload_n hx hb dX3_lease_69 rfl (lv_at hl 1 rfl) ?_
  refine lv_iload_n hx hb dX3_lease_70 rfl (lv_at hl 2 rfl) ?_
  refine xh_iast (n := 16) F hI (x_inH hj (by decide)) (fun _ => rfl) g20 dX3_lease_71 (fun H locs u21 e22 hI => ?_)
  have h := x_let_at h e22
  refine lv_aload_n hx hb dX3_lease_72 rfl (lv_at hl 0 rfl) ?_
  refine xg_3_2 F hI (x_inH hj (by decide)) u_fl_X3_18 dX3_lease_73 ?_
  refine lv_iload_n hx hb dX3_lease_76 rfl (lv_at hl 1 rfl) ?_
  refine lv_iload hx hb dX3_lease_77 (lv_at hl 4 rfl) ?_
  refine xh_iast (n := 16) F hI (x_inH hj (by decide)) (fun _ => rfl) g20 dX3_lease_79 (fun H locs u23 e24 hI => ?_)
  have h := x_let_at h e24
  refine lv_aload_n hx hb dX3_lease_80 rfl (lv_at hl 0 rfl) ?_
  refine xg_3_3 F hI (x_inH hj (by decide)) u_fl_X3_21 dX3_lease_81 ?_
  refine lv_iload_n hx hb dX3_lease_84 rfl (lv_at hl 1 rfl) ?_
  refine lv_iload hx hb dX3_lease_85 (lv_at hl 3 rfl) ?_
  refine xh_iast (n := 16) F hI (x_inH hj (by decide)) (fun _ => rfl) g20 dX3_lease_87 (fun H locs u25 e26 hI => ?_)
  have h := x_let_at h e26
  refine lv_aload_n hx hb dX3_lease_88 rfl (lv_at hl 0 rfl) ?_
  refine xg_3_5 F hI (x_inH hj (by decide)) u_fl_X3_27 dX3_lease_89 ?_
  refine lv_iload_n hx hb dX3_lease_92 rfl (lv_at hl 2 rfl) ?_
  refine lv_iload_n hx hb dX3_lease_93 rfl (lv_at hl 1 rfl) ?_
  obtain ⟨g29, h⟩ := x_chk h
  refine xh_iast (n := 12) F hI (x_inH hj (by decide)) (fun _ => rfl) g29 dX3_lease_94 (fun H locs u27 e28 hI => ?_)
  have h := x_let_at h e28
  rw [x_some h]
  exact x_vret F hI dX3_lease_95
def fX3_lease (u : x_H) (a1 : Int32) (a2 : Int32) (a3 : Int32) (a4 : Int32) : Option x_H := (Option.bind (fX6_isRoom a1) fun r1 => (if r1 = 0 then some (u) else (Option.bind (fX6_isGuest a2) fun r4 => (if r4 = 0 then some (u) else x_let (a3 + (u 2 1)) fun x7 => (Option.bind (fX3_isLeasedTo u a1 a2) fun r9 => (if r9 = 0 then (if x_in a2 12 then x_let (x_hu u 18 (Int32.toNatClampNeg a2) ((u 18 (Int32.toNatClampNeg a2)) + (1 : Int32))) fun u13 => fX3_lease_j58 u13 a1 a2 a4 x7 else none) else (if x_in a1 16 then x_let (if x7 < (u 14 (Int32.toNatClampNeg a1)) then (u 14 (Int32.toNatClampNeg a1)) else x7) fun x16 => fX3_lease_j58 u a1 a2 a4 x16 else none)))))))
set_option maxHeartbeats 4000000 in
set_option maxRecDepth 100000 in
theorem mX3_lease (l : Launch) (X : x_T) (σ : x_S) (j : Nat) (hj : j < 10) (sz : Nat) (u : x_H) (a1 : Int32) (a2 : Int32) (a3 : Int32) (a4 : Int32) (r : x_H) (h : fX3_lease u a1 a2 a3 a4 = some r) : Met l yX3_lease (x_ws yX3_lease cX3_lease 6 none) rm_X3_lease (x_Pc X (x_sh σ j u) sz [.ref (X.2.2 j 2), .int a1, .int a2, .int a3, .int a4]) (x_Qv X (x_sh σ j r) sz) 0 0 (x_A X sz) := by
  refine Met.ofW (cc := cX3_lease) (maxL := 6) (ret := none) (by decide) rfl ?_
  intro p e s m args below meth c s₁ B hml hv
  obtain ⟨F, hI, rfl, rfl⟩ := x_begin B hml hv
  replace F : x_F p s m _ meth c cX3_lease 6 RX3 none := F
  have hx := F.1
  have hb := F.2.1
  have hml := F.2.2.1
  have hown := F.2.2.2.1
  have hts := F.2.2.2.2.1
  refine x_entry (vs := [.ref (X.2.2 j 2), .int a1, .int a2, .int a3, .int a4]) (n := 6) (Nat.le_of_ble_eq_true rfl) (fun ls hl => ?_)
  replace hl : lv_has ls 6 [(0, .ref (X.2.2 j 2)), (1, .int a1), (2, .int a2), (3, .int a3), (4, .int a4)] := hl
  unfold fX3_lease at h
  refine lv_iload_n hx hb dX3_lease_0 rfl (lv_at hl 1 rfl) ?_
  obtain ⟨r1, h2, h⟩ := x_bnd h
  refine x_aci hI (x_runN (rest := []) F hI (mX6_isRoom l X (x_sh σ j u) _ a1 r1 h2) u_mln_X3_50 u_co_X6_isRoom u_ini_X6 u_st_X6_isRoom hd_X6_isRoom ⟨by decide, by decide⟩ ⟨rfl, rfl⟩ rfl hl.1 rfl (Nat.le_of_ble_eq_true rfl) dX3_lease_1 ⟨Nat.zero_le _, Nat.zero_le _⟩) (fun H locs hI => ?_)
  refine lv_if_eq (tgt := 14) hx hb dX3_lease_4 (by decide) (fun c3 => ?_) (fun c3 => ?_)
  · have h := x_ift h c3
    rw [x_some h]
    exact x_vret F hI dX3_lease_14
  · have h := x_iff h c3
    refine lv_iload_n hx hb dX3_lease_7 rfl (lv_at hl 2 rfl) ?_
    obtain ⟨r4, h5, h⟩ := x_bnd h
    refine x_aci hI (x_runN (rest := []) F hI (mX6_isGuest l X (x_sh σ j u) _ a2 r4 h5) u_mln_X3_62 u_co_X6_isGuest u_ini_X6 u_st_X6_isGuest hd_X6_isGuest ⟨by decide, by decide⟩ ⟨rfl, rfl⟩ rfl hl.1 rfl (Nat.le_of_ble_eq_true rfl) dX3_lease_8 ⟨Nat.zero_le _, Nat.zero_le _⟩) (fun H locs hI => ?_)
    refine lv_if_ne (tgt := 15) hx hb dX3_lease_11 (by decide) (fun c6 => ?_) (fun c6 => ?_)
    · have h := x_iff h c6
      refine lv_iload_n hx hb dX3_lease_15 rfl (lv_at hl 3 rfl) ?_
      refine lv_aload_n hx hb dX3_lease_16 rfl (lv_at hl 0 rfl) ?_
      refine xg_3_8 F hI (x_inH hj (by decide)) u_fl_X3_37 dX3_lease_17 ?_
      refine lv_iadd hx hb dX3_lease_20 ?_
      refine lv_topi (fun x7 e8 => ?_)
      have h := x_let_at h e8
      refine lv_istore (lv' := [(5, .int x7), (0, .ref (X.2.2 j 2)), (1, .int a1), (2, .int a2), (3, .int a3), (4, .int a4)]) hx hb dX3_lease_21 hl (by decide) rfl (fun ls hl => ?_)
      refine lv_aload_n hx hb dX3_lease_23 rfl (lv_at hl 1 rfl) ?_
      refine lv_iload_n hx hb dX3_lease_24 rfl (lv_at hl 2 rfl) ?_
      refine lv_iload_n hx hb dX3_lease_25 rfl (lv_at hl 3 rfl) ?_
      obtain ⟨r9, h10, h⟩ := x_bnd h
      refine x_aci hI (x_runV (rest := []) F hI (mX3_isLeasedTo l X σ j hj _ u a1 a2 r9 h10) g_X3_65 ⟨rfl, hd_X3_isLeasedTo⟩ ⟨by decide, by decide⟩ ⟨rfl, rfl⟩ (x_inH hj (by decide)) rfl rfl rfl rfl hl.1 rfl (Nat.le_of_ble_eq_true rfl) dX3_lease_26 ⟨Nat.zero_le _, Nat.zero_le _⟩) (fun H locs hI => ?_)
      refine lv_if_eq (tgt := 48) hx hb dX3_lease_29 (by decide) (fun c11 => ?_) (fun c11 => ?_)
      · have h := x_ift h c11
        refine lv_aload_n hx hb dX3_lease_48 rfl (lv_at hl 1 rfl) ?_
        refine xg_3_6 F hI (x_inH hj (by decide)) u_fl_X3_30 dX3_lease_49 ?_
        refine lv_iload_n hx hb dX3_lease_52 rfl (lv_at hl 3 rfl) ?_
        refine lv_dup2_11 hx hb dX3_lease_53 rfl rfl ?_
        obtain ⟨g12, h⟩ := x_chk h
        refine xh_iald (n := 12) F hI (x_inH hj (by decide)) (fun _ => rfl) g12 dX3_lease_54 ?_
        refine lv_iconst (v := 1) hx hb dX3_lease_55 (by decide) ?_
        refine lv_iadd hx hb dX3_lease_56 ?_
        refine xh_iast (n := 12) F hI (x_inH hj (by decide)) (fun _ => rfl) g12 dX3_lease_57 (fun H locs u13 e14 hI => ?_)
        have h := x_let_at h e14
        exact wX3_lease_j58 hj F u13 a1 a2 a4 x7 _ _ _ h hI (lv_sub hl [1, 2, 3, 5, 0] rfl)
      · have h := x_iff h c11
        refine lv_iload hx hb dX3_lease_32 (lv_at hl 0 rfl) ?_
        refine lv_aload_n hx hb dX3_lease_34 rfl (lv_at hl 1 rfl) ?_
        refine xg_3_2 F hI (x_inH hj (by decide)) u_fl_X3_18 dX3_lease_35 ?_
        refine lv_iload_n hx hb dX3_lease_38 rfl (lv_at hl 2 rfl) ?_
        obtain ⟨g15, h⟩ := x_chk h
        refine xh_iald (n := 16) F hI (x_inH hj (by decide)) (fun _ => rfl) g15 dX3_lease_39 ?_
        refine va_mmax hx hb (hml.trans hl.1.symm) hown (hts _ u_ml_X3_68) (hts _ u_st_java_lang_Mathmax) (hts _ u_ini_java_lang_Math) (hts _ u_co_java_lang_Mathmax) (by decide) (Nat.le_of_ble_eq_true rfl) (Nat.zero_le _) (Nat.zero_le _) dX3_lease_40 ?_
        refine lv_topi (fun x16 e17 => ?_)
        have h := x_let_at h e17
        refine lv_istore (lv' := [(5, .int x16), (0, .ref (X.2.2 j 2)), (1, .int a1), (2, .int a2), (3, .int a3), (4, .int a4)]) hx hb dX3_lease_43 hl (by decide) rfl (fun ls hl => ?_)
        refine lv_goto (tgt := 58) hx hb dX3_lease_45 (by decide) ?_
        exact wX3_lease_j58 hj F u a1 a2 a4 x16 _ _ _ h hI (lv_sub hl [1, 2, 3, 5, 0] rfl)
    · have h := x_ift h c6
      rw [x_some h]
      exact x_vret F hI dX3_lease_14
abbrev rm_X3_mayEnd : Room := { frames := 1, cells := 0, slots := 0, locals := 22 }
def fX3_mayEnd (u : x_H) (a1 : Int32) (a2 : Int32) (a3 : Int32) : Option Int32 := (Option.bind (fX3_isLeasedTo u a1 a2) fun r1 => (if r1 = 0 then some (0 : Int32) else (if x_in a1 16 then (if a3 ≤ (u 15 (Int32.toNatClampNeg a1)) then some (0 : Int32) else some (1 : Int32)) else none)))
set_option maxHeartbeats 4000000 in
set_option maxRecDepth 100000 in
theorem mX3_mayEnd (l : Launch) (X : x_T) (σ : x_S) (j : Nat) (hj : j < 10) (sz : Nat) (u : x_H) (a1 : Int32) (a2 : Int32) (a3 : Int32) (r : Int32) (h : fX3_mayEnd u a1 a2 a3 = some r) : Met l yX3_mayEnd (x_ws yX3_mayEnd cX3_mayEnd 4 (some .boolean)) rm_X3_mayEnd (x_Pc X (x_sh σ j u) sz [.ref (X.2.2 j 2), .int a1, .int a2, .int a3]) (x_Qi X r (x_sh σ j u) sz) 0 0 (x_A X sz) := by
  refine Met.ofW (cc := cX3_mayEnd) (maxL := 4) (ret := (some .boolean)) (by decide) rfl ?_
  intro p e s m args below meth c s₁ B hml hv
  obtain ⟨F, hI, rfl, rfl⟩ := x_begin B hml hv
  replace F : x_F p s m _ meth c cX3_mayEnd 4 RX3 (some .boolean) := F
  have hx := F.1
  have hb := F.2.1
  have hml := F.2.2.1
  have hown := F.2.2.2.1
  have hts := F.2.2.2.2.1
  refine x_entry (vs := [.ref (X.2.2 j 2), .int a1, .int a2, .int a3]) (n := 4) (Nat.le_of_ble_eq_true rfl) (fun ls hl => ?_)
  replace hl : lv_has ls 4 [(0, .ref (X.2.2 j 2)), (1, .int a1), (2, .int a2), (3, .int a3)] := hl
  unfold fX3_mayEnd at h
  refine lv_aload_n hx hb dX3_mayEnd_0 rfl (lv_at hl 0 rfl) ?_
  refine lv_iload_n hx hb dX3_mayEnd_1 rfl (lv_at hl 1 rfl) ?_
  refine lv_iload_n hx hb dX3_mayEnd_2 rfl (lv_at hl 2 rfl) ?_
  obtain ⟨r1, h2, h⟩ := x_bnd h
  refine x_aci hI (x_runV (rest := []) F hI (mX3_isLeasedTo l X σ j hj _ u a1 a2 r1 h2) g_X3_65 ⟨rfl, hd_X3_isLeasedTo⟩ ⟨by decide, by decide⟩ ⟨rfl, rfl⟩ (x_inH hj (by decide)) rfl rfl rfl rfl hl.1 rfl (Nat.le_of_ble_eq_true rfl) dX3_mayEnd_3 ⟨Nat.zero_le _, Nat.zero_le _⟩) (fun H locs hI => ?_)
  refine lv_if_eq (tgt := 23) hx hb dX3_mayEnd_6 (by decide) (fun c3 => ?_) (fun c3 => ?_)
  · have h := x_ift h c3
    refine lv_iconst (v := 0) hx hb dX3_mayEnd_23 (by decide) ?_
    rw [x_some h]
    exact x_zret (v := 0) F hI (by decide) dX3_mayEnd_24
  · have h := x_iff h c3
    refine lv_aload_n hx hb dX3_mayEnd_9 rfl (lv_at hl 0 rfl) ?_
    refine xg_3_3 F hI (x_inH hj (by decide)) u_fl_X3_21 dX3_mayEnd_10 ?_
    refine lv_iload_n hx hb dX3_mayEnd_13 rfl (lv_at hl 1 rfl) ?_
    obtain ⟨g4, h⟩ := x_chk h
    refine xh_iald (n := 16) F hI (x_inH hj (by decide)) (fun _ => rfl) g4 dX3_mayEnd_14 ?_
    refine lv_iload_n hx hb dX3_mayEnd_15 rfl (lv_at hl 3 rfl) ?_
    refine lv_icmp_ge (tgt := 23) hx hb dX3_mayEnd_16 (by decide) (fun c5 => ?_) (fun c5 => ?_)
    · have h := x_ift h c5
      refine lv_iconst (v := 0) hx hb dX3_mayEnd_23 (by decide) ?_
      rw [x_some h]
      exact x_zret (v := 0) F hI (by decide) dX3_mayEnd_24
    · have h := x_iff h c5
      refine lv_iconst (v := 1) hx hb dX3_mayEnd_19 (by decide) ?_
      refine lv_goto (tgt := 24) hx hb dX3_mayEnd_20 (by decide) ?_
      rw [x_some h]
      exact x_zret (v := 1) F hI (by decide) dX3_mayEnd_24
abbrev rm_X3_dropLease : Room := { frames := 0, cells := 0, slots := 0, locals := 0 }
def fX3_dropLease_j20 (u : x_H) (z0 : Int32) : Option x_H := (if z0 < 0 then some (u) else (if (12 : Int32) ≤ z0 then some (u) else (if x_in z0 12 then x_let (x_hu u 18 (Int32.toNatClampNeg z0) ((u 18 (Int32.toNatClampNeg z0)) - (1 : Int32))) fun u6 => some (u6) else none)))
set_option maxHeartbeats 4000000 in
set_option maxRecDepth 100000 in
theorem wX3_dropLease_j20 {p : Program} {l : Launch} {e : Env} {s : State} {m : MethodId} {args : Array Value} {below : List Frame} {meth : Method} {c : Code} {X : x_T} {σ : x_S} {r : x_H} {j : Nat} (hj : j < 10) (F : x_F p s m args meth c cX3_dropLease 3 RX3 none) (u : x_H) (z0 : Int32) (H : Heap) (locs : List Loc) (ls : Array Slot) (h : fX3_dropLease_j20 u z0 = some r) (hI : x_I X (x_sh σ j u) s H locs) (hl : lv_has ls 3 [(0, .ref (X.2.2 j 2))]) : W p l e rm_X3_dropLease s m args below meth c H locs 0 0 (MQ below (x_Qv X (x_sh σ j r) s.heap.size) args s 0 0 (x_A X s.heap.size)) (F0 m 20 ls [.int z0]) := by
  have hx := F.1
  have hb := F.2.1
  have hml := F.2.2.1
  have hown := F.2.2.2.1
  have hts := F.2.2.2.2.1
  unfold fX3_dropLease_j20 at h
  refine lv_istore_n (lv' := [(2, .int z0), (0, .ref (X.2.2 j 2))]) hx hb dX3_dropLease_20 rfl hl (by decide) rfl (fun ls hl => ?_)
  refine lv_iload_n hx hb dX3_dropLease_21 rfl (lv_at hl 0 rfl) ?_
  refine lv_if_lt (tgt := 41) hx hb dX3_dropLease_22 (by decide) (fun c3 => ?_) (fun c3 => ?_)
  · have h := x_ift h c3
    rw [x_some h]
    exact x_vret F hI dX3_dropLease_41
  · have h := x_iff h c3
    refine lv_iload_n hx hb dX3_dropLease_25 rfl (lv_at hl 0 rfl) ?_
    refine lv_bipush (v := 12) hx hb dX3_dropLease_26 (by decide) ?_
    refine lv_icmp_ge (tgt := 41) hx hb dX3_dropLease_28 (by decide) (fun c4 => ?_) (fun c4 => ?_)
    · have h := x_ift h c4
      rw [x_some h]
      exact x_vret F hI dX3_dropLease_41
    · have h := x_iff h c4
      refine lv_aload_n hx hb dX3_dropLease_31 rfl (lv_at hl 1 rfl) ?_
      refine xg_3_6 F hI (x_inH hj (by decide)) u_fl_X3_30 dX3_dropLease_32 ?_
      refine lv_iload_n hx hb dX3_dropLease_35 rfl (lv_at hl 0 rfl) ?_
      refine lv_dup2_11 hx hb dX3_dropLease_36 rfl rfl ?_
      obtain ⟨g5, h⟩ := x_chk h
      refine xh_iald (n := 12) F hI (x_inH hj (by decide)) (fun _ => rfl) g5 dX3_dropLease_37 ?_
      refine lv_iconst (v := 1) hx hb dX3_dropLease_38 (by decide) ?_
      refine lv_isub hx hb dX3_dropLease_39 ?_
      refine xh_iast (n := 12) F hI (x_inH hj (by decide)) (fun _ => rfl) g5 dX3_dropLease_40 (fun H locs u6 e7 hI => ?_)
      have h := x_let_at h e7
      rw [x_some h]
      exact x_vret F hI dX3_dropLease_41
def fX3_dropLease (u : x_H) (a1 : Int32) : Option x_H := (if x_in a1 16 then (if (u 12 (Int32.toNatClampNeg a1)) = (2 : Int32) then fX3_dropLease_j20 u (u 13 (Int32.toNatClampNeg a1)) else fX3_dropLease_j20 u (-1 : Int32)) else none)
set_option maxHeartbeats 4000000 in
set_option maxRecDepth 100000 in
theorem mX3_dropLease (l : Launch) (X : x_T) (σ : x_S) (j : Nat) (hj : j < 10) (sz : Nat) (u : x_H) (a1 : Int32) (r : x_H) (h : fX3_dropLease u a1 = some r) : Met l yX3_dropLease (x_ws yX3_dropLease cX3_dropLease 3 none) rm_X3_dropLease (x_Pc X (x_sh σ j u) sz [.ref (X.2.2 j 2), .int a1]) (x_Qv X (x_sh σ j r) sz) 0 0 (x_A X sz) := by
  refine Met.ofW (cc := cX3_dropLease) (maxL := 3) (ret := none) (by decide) rfl ?_
  intro p e s m args below meth c s₁ B hml hv
  obtain ⟨F, hI, rfl, rfl⟩ := x_begin B hml hv
  replace F : x_F p s m _ meth c cX3_dropLease 3 RX3 none := F
  have hx := F.1
  have hb := F.2.1
  have hml := F.2.2.1
  have hown := F.2.2.2.1
  have hts := F.2.2.2.2.1
  refine x_entry (vs := [.ref (X.2.2 j 2), .int a1]) (n := 3) (Nat.le_of_ble_eq_true rfl) (fun ls hl => ?_)
  replace hl : lv_has ls 3 [(0, .ref (X.2.2 j 2)), (1, .int a1)] := hl
  unfold fX3_dropLease at h
  refine lv_aload_n hx hb dX3_dropLease_0 rfl (lv_at hl 0 rfl) ?_
  refine xg_3_0 F hI (x_inH hj (by decide)) u_fl_X3_9 dX3_dropLease_1 ?_
  refine lv_iload_n hx hb dX3_dropLease_4 rfl (lv_at hl 1 rfl) ?_
  obtain ⟨g1, h⟩ := x_chk h
  refine xh_iald (n := 16) F hI (x_inH hj (by decide)) (fun _ => rfl) g1 dX3_dropLease_5 ?_
  refine lv_iconst (v := 2) hx hb dX3_dropLease_6 (by decide) ?_
  refine lv_icmp_ne (tgt := 19) hx hb dX3_dropLease_7 (by decide) (fun c2 => ?_) (fun c2 => ?_)
  · have h := x_iff h c2
    refine lv_iconst (v := (-1)) hx hb dX3_dropLease_19 (by decide) ?_
    exact wX3_dropLease_j20 hj F u (-1 : Int32) _ _ _ h hI (lv_sub hl [0] rfl)
  · have h := x_ift h c2
    refine lv_aload_n hx hb dX3_dropLease_10 rfl (lv_at hl 0 rfl) ?_
    refine xg_3_1 F hI (x_inH hj (by decide)) u_fl_X3_15 dX3_dropLease_11 ?_
    refine lv_iload_n hx hb dX3_dropLease_14 rfl (lv_at hl 1 rfl) ?_
    refine xh_iald (n := 16) F hI (x_inH hj (by decide)) (fun _ => rfl) g1 dX3_dropLease_15 ?_
    refine lv_goto (tgt := 20) hx hb dX3_dropLease_16 (by decide) ?_
    exact wX3_dropLease_j20 hj F u (u 13 (Int32.toNatClampNeg a1)) _ _ _ h hI (lv_sub hl [0] rfl)
abbrev rm_X3_free : Room := { frames := 1, cells := 0, slots := 0, locals := 22 }
def fX3_free (u : x_H) (a1 : Int32) : Option x_H := (Option.bind (fX6_isRoom a1) fun r1 => (if r1 = 0 then some (u) else (Option.bind (fX3_dropLease u a1) fun r4 => (if x_in a1 16 then x_let (x_hu r4 12 (Int32.toNatClampNeg a1) (0 : Int32)) fun u6 => x_let (x_hu u6 13 (Int32.toNatClampNeg a1) (-1 : Int32)) fun u9 => x_let (x_hu u9 14 (Int32.toNatClampNeg a1) (0 : Int32)) fun u11 => some (u11) else none))))
set_option maxHeartbeats 4000000 in
set_option maxRecDepth 100000 in
theorem mX3_free (l : Launch) (X : x_T) (σ : x_S) (j : Nat) (hj : j < 10) (sz : Nat) (u : x_H) (a1 : Int32) (r : x_H) (h : fX3_free u a1 = some r) : Met l yX3_free (x_ws yX3_free cX3_free 2 none) rm_X3_free (x_Pc X (x_sh σ j u) sz [.ref (X.2.2 j 2), .int a1]) (x_Qv X (x_sh σ j r) sz) 0 0 (x_A X sz) := by
  refine Met.ofW (cc := cX3_free) (maxL := 2) (ret := none) (by decide) rfl ?_
  intro p e s m args below meth c s₁ B hml hv
  obtain ⟨F, hI, rfl, rfl⟩ := x_begin B hml hv
  replace F : x_F p s m _ meth c cX3_free 2 RX3 none := F
  have hx := F.1
  have hb := F.2.1
  have hml := F.2.2.1
  have hown := F.2.2.2.1
  have hts := F.2.2.2.2.1
  refine x_entry (vs := [.ref (X.2.2 j 2), .int a1]) (n := 2) (Nat.le_of_ble_eq_true rfl) (fun ls hl => ?_)
  replace hl : lv_has ls 2 [(0, .ref (X.2.2 j 2)), (1, .int a1)] := hl
  unfold fX3_free at h
  refine lv_iload_n hx hb dX3_free_0 rfl (lv_at hl 1 rfl) ?_
  obtain ⟨r1, h2, h⟩ := x_bnd h
  refine x_aci hI (x_runN (rest := []) F hI (mX6_isRoom l X (x_sh σ j u) _ a1 r1 h2) u_mln_X3_50 u_co_X6_isRoom u_ini_X6 u_st_X6_isRoom hd_X6_isRoom ⟨by decide, by decide⟩ ⟨rfl, rfl⟩ rfl hl.1 rfl (Nat.le_of_ble_eq_true rfl) dX3_free_1 ⟨Nat.zero_le _, Nat.zero_le _⟩) (fun H locs hI => ?_)
  refine lv_if_eq (tgt := 33) hx hb dX3_free_4 (by decide) (fun c3 => ?_) (fun c3 => ?_)
  · have h := x_ift h c3
    rw [x_some h]
    exact x_vret F hI dX3_free_33
  · have h := x_iff h c3
    refine lv_aload_n hx hb dX3_free_7 rfl (lv_at hl 0 rfl) ?_
    refine lv_iload_n hx hb dX3_free_8 rfl (lv_at hl 1 rfl) ?_
    obtain ⟨r4, h5, h⟩ := x_bnd h
    refine x_acv hI (x_runV (rest := []) F hI (mX3_dropLease l X σ j hj _ u a1 r4 h5) g_X3_74 ⟨rfl, hd_X3_dropLease⟩ ⟨by decide, by decide⟩ ⟨rfl, rfl⟩ (x_inH hj (by decide)) rfl rfl rfl rfl hl.1 rfl (Nat.le_of_ble_eq_true rfl) dX3_free_9 ⟨Nat.zero_le _, Nat.zero_le _⟩) (fun H locs hI => ?_)
    refine lv_aload_n hx hb dX3_free_12 rfl (lv_at hl 0 rfl) ?_
    refine xg_3_0 F hI (x_inH hj (by decide)) u_fl_X3_9 dX3_free_13 ?_
    refine lv_iload_n hx hb dX3_free_16 rfl (lv_at hl 1 rfl) ?_
    refine lv_iconst (v := 0) hx hb dX3_free_17 (by decide) ?_
    obtain ⟨g8, h⟩ := x_chk h
    refine xh_iast (n := 16) F hI (x_inH hj (by decide)) (fun _ => rfl) g8 dX3_free_18 (fun H locs u6 e7 hI => ?_)
    have h := x_let_at h e7
    refine lv_aload_n hx hb dX3_free_19 rfl (lv_at hl 0 rfl) ?_
    refine xg_3_1 F hI (x_inH hj (by decide)) u_fl_X3_15 dX3_free_20 ?_
    refine lv_iload_n hx hb dX3_free_23 rfl (lv_at hl 1 rfl) ?_
    refine lv_iconst (v := (-1)) hx hb dX3_free_24 (by decide) ?_
    refine xh_iast (n := 16) F hI (x_inH hj (by decide)) (fun _ => rfl) g8 dX3_free_25 (fun H locs u9 e10 hI => ?_)
    have h := x_let_at h e10
    refine lv_aload_n hx hb dX3_free_26 rfl (lv_at hl 0 rfl) ?_
    refine xg_3_2 F hI (x_inH hj (by decide)) u_fl_X3_18 dX3_free_27 ?_
    refine lv_iload_n hx hb dX3_free_30 rfl (lv_at hl 1 rfl) ?_
    refine lv_iconst (v := 0) hx hb dX3_free_31 (by decide) ?_
    refine xh_iast (n := 16) F hI (x_inH hj (by decide)) (fun _ => rfl) g8 dX3_free_32 (fun H locs u11 e12 hI => ?_)
    have h := x_let_at h e12
    rw [x_some h]
    exact x_vret F hI dX3_free_33
abbrev rm_X3_shut : Room := { frames := 1, cells := 0, slots := 0, locals := 22 }
def fX3_shut (u : x_H) (a1 : Int32) (a2 : Int32) : Option x_H := (Option.bind (fX6_isRoom a1) fun r1 => (if r1 = 0 then some (u) else (Option.bind (fX3_dropLease u a1) fun r4 => (if x_in a1 16 then x_let (x_hu r4 12 (Int32.toNatClampNeg a1) (3 : Int32)) fun u6 => x_let (x_hu u6 13 (Int32.toNatClampNeg a1) (-1 : Int32)) fun u9 => x_let (x_hu u9 14 (Int32.toNatClampNeg a1) (a2 + (u9 2 3))) fun u11 => some (u11) else none))))
set_option maxHeartbeats 4000000 in
set_option maxRecDepth 100000 in
theorem mX3_shut (l : Launch) (X : x_T) (σ : x_S) (j : Nat) (hj : j < 10) (sz : Nat) (u : x_H) (a1 : Int32) (a2 : Int32) (r : x_H) (h : fX3_shut u a1 a2 = some r) : Met l yX3_shut (x_ws yX3_shut cX3_shut 3 none) rm_X3_shut (x_Pc X (x_sh σ j u) sz [.ref (X.2.2 j 2), .int a1, .int a2]) (x_Qv X (x_sh σ j r) sz) 0 0 (x_A X sz) := by
  refine Met.ofW (cc := cX3_shut) (maxL := 3) (ret := none) (by decide) rfl ?_
  intro p e s m args below meth c s₁ B hml hv
  obtain ⟨F, hI, rfl, rfl⟩ := x_begin B hml hv
  replace F : x_F p s m _ meth c cX3_shut 3 RX3 none := F
  have hx := F.1
  have hb := F.2.1
  have hml := F.2.2.1
  have hown := F.2.2.2.1
  have hts := F.2.2.2.2.1
  refine x_entry (vs := [.ref (X.2.2 j 2), .int a1, .int a2]) (n := 3) (Nat.le_of_ble_eq_true rfl) (fun ls hl => ?_)
  replace hl : lv_has ls 3 [(0, .ref (X.2.2 j 2)), (1, .int a1), (2, .int a2)] := hl
  unfold fX3_shut at h
  refine lv_iload_n hx hb dX3_shut_0 rfl (lv_at hl 1 rfl) ?_
  obtain ⟨r1, h2, h⟩ := x_bnd h
  refine x_aci hI (x_runN (rest := []) F hI (mX6_isRoom l X (x_sh σ j u) _ a1 r1 h2) u_mln_X3_50 u_co_X6_isRoom u_ini_X6 u_st_X6_isRoom hd_X6_isRoom ⟨by decide, by decide⟩ ⟨rfl, rfl⟩ rfl hl.1 rfl (Nat.le_of_ble_eq_true rfl) dX3_shut_1 ⟨Nat.zero_le _, Nat.zero_le _⟩) (fun H locs hI => ?_)
  refine lv_if_eq (tgt := 38) hx hb dX3_shut_4 (by decide) (fun c3 => ?_) (fun c3 => ?_)
  · have h := x_ift h c3
    rw [x_some h]
    exact x_vret F hI dX3_shut_38
  · have h := x_iff h c3
    refine lv_aload_n hx hb dX3_shut_7 rfl (lv_at hl 0 rfl) ?_
    refine lv_iload_n hx hb dX3_shut_8 rfl (lv_at hl 1 rfl) ?_
    obtain ⟨r4, h5, h⟩ := x_bnd h
    refine x_acv hI (x_runV (rest := []) F hI (mX3_dropLease l X σ j hj _ u a1 r4 h5) g_X3_74 ⟨rfl, hd_X3_dropLease⟩ ⟨by decide, by decide⟩ ⟨rfl, rfl⟩ (x_inH hj (by decide)) rfl rfl rfl rfl hl.1 rfl (Nat.le_of_ble_eq_true rfl) dX3_shut_9 ⟨Nat.zero_le _, Nat.zero_le _⟩) (fun H locs hI => ?_)
    refine lv_aload_n hx hb dX3_shut_12 rfl (lv_at hl 0 rfl) ?_
    refine xg_3_0 F hI (x_inH hj (by decide)) u_fl_X3_9 dX3_shut_13 ?_
    refine lv_iload_n hx hb dX3_shut_16 rfl (lv_at hl 1 rfl) ?_
    refine lv_iconst (v := 3) hx hb dX3_shut_17 (by decide) ?_
    obtain ⟨g8, h⟩ := x_chk h
    refine xh_iast (n := 16) F hI (x_inH hj (by decide)) (fun _ => rfl) g8 dX3_shut_18 (fun H locs u6 e7 hI => ?_)
    have h := x_let_at h e7
    refine lv_aload_n hx hb dX3_shut_19 rfl (lv_at hl 0 rfl) ?_
    refine xg_3_1 F hI (x_inH hj (by decide)) u_fl_X3_15 dX3_shut_20 ?_
    refine lv_iload_n hx hb dX3_shut_23 rfl (lv_at hl 1 rfl) ?_
    refine lv_iconst (v := (-1)) hx hb dX3_shut_24 (by decide) ?_
    refine xh_iast (n := 16) F hI (x_inH hj (by decide)) (fun _ => rfl) g8 dX3_shut_25 (fun H locs u9 e10 hI => ?_)
    have h := x_let_at h e10
    refine lv_aload_n hx hb dX3_shut_26 rfl (lv_at hl 0 rfl) ?_
    refine xg_3_2 F hI (x_inH hj (by decide)) u_fl_X3_18 dX3_shut_27 ?_
    refine lv_iload_n hx hb dX3_shut_30 rfl (lv_at hl 1 rfl) ?_
    refine lv_iload_n hx hb dX3_shut_31 rfl (lv_at hl 2 rfl) ?_
    refine lv_aload_n hx hb dX3_shut_32 rfl (lv_at hl 0 rfl) ?_
    refine xg_3_10 F hI (x_inH hj (by decide)) u_fl_X3_43 dX3_shut_33 ?_
    refine lv_iadd hx hb dX3_shut_36 ?_
    refine xh_iast (n := 16) F hI (x_inH hj (by decide)) (fun _ => rfl) g8 dX3_shut_37 (fun H locs u11 e12 hI => ?_)
    have h := x_let_at h e12
    rw [x_some h]
    exact x_vret F hI dX3_shut_38
abbrev rm_X3_freeEnded : Room := { frames := 2, cells := 0, slots := 0, locals := 43 }
def fX3_freeEnded_b4 : Nat → x_H → Int32 → Int32 → Int32 → Option (Int32 × x_H)
  | 0, _, _, _, _ => none
  | n + 1, u, y1, y2, y3 => (if (16 : Int32) ≤ y3 then some (y2, u) else (if x_in y3 16 then (if (u 12 (Int32.toNatClampNeg y3)) = 0 then x_let (y3 + (1 : Int32)) fun x4 => fX3_freeEnded_b4 n u y1 y2 x4 else (if y1 < (u 14 (Int32.toNatClampNeg y3)) then x_let (y3 + (1 : Int32)) fun x7 => fX3_freeEnded_b4 n u y1 y2 x7 else (Option.bind (fX3_free u y3) fun r9 => x_let (y2 + (1 : Int32)) fun x11 => x_let (y3 + (1 : Int32)) fun x13 => fX3_freeEnded_b4 n r9 y1 x11 x13))) else none))
set_option maxHeartbeats 4000000 in
set_option maxRecDepth 100000 in
theorem wX3_freeEnded_b4 {p : Program} {l : Launch} {e : Env} {s : State} {m : MethodId} {args : Array Value} {below : List Frame} {meth : Method} {c : Code} {X : x_T} {σ : x_S} {r : (Int32 × x_H)} {j : Nat} (hj : j < 10) (F : x_F p s m args meth c cX3_freeEnded 4 RX3 (some .int)) : ∀ (n : Nat) (u : x_H) (y1 : Int32) (y2 : Int32) (y3 : Int32) (H : Heap) (locs : List Loc) (ls : Array Slot), fX3_freeEnded_b4 n u y1 y2 y3 = some r → x_I X (x_sh σ j u) s H locs → lv_has ls 4 [(0, .ref (X.2.2 j 2)), (1, .int y1), (2, .int y2), (3, .int y3)] → W p l e rm_X3_freeEnded s m args below meth c H locs 0 0 (MQ below (x_Qi X r.1 (x_sh σ j r.2) s.heap.size) args s 0 0 (x_A X s.heap.size)) (F0 m 4 ls []) := by
  have hx := F.1
  have hb := F.2.1
  have hml := F.2.2.1
  have hown := F.2.2.2.1
  have hts := F.2.2.2.2.1
  intro n
  induction n with
  | zero =>
    intro u y1 y2 y3 H locs ls h
    rw [fX3_freeEnded_b4] at h
    cases h
  | succ n ih =>
    intro u y1 y2 y3 H locs ls h hI hl
    rw [fX3_freeEnded_b4] at h
    refine lv_iload_n hx hb dX3_freeEnded_4 rfl (lv_at hl 3 rfl) ?_
    refine lv_bipush (v := 16) hx hb dX3_freeEnded_5 (by decide) ?_
    refine lv_icmp_ge (tgt := 43) hx hb dX3_freeEnded_7 (by decide) (fun c1 => ?_) (fun c1 => ?_)
    · have h := x_ift h c1
      refine lv_iload_n hx hb dX3_freeEnded_43 rfl (lv_at hl 2 rfl) ?_
      rw [x_some h]
      exact x_iret F hI dX3_freeEnded_44
    · have h := x_iff h c1
      refine lv_aload_n hx hb dX3_freeEnded_10 rfl (lv_at hl 0 rfl) ?_
      refine xg_3_0 F hI (x_inH hj (by decide)) u_fl_X3_9 dX3_freeEnded_11 ?_
      refine lv_iload_n hx hb dX3_freeEnded_14 rfl (lv_at hl 3 rfl) ?_
      obtain ⟨g2, h⟩ := x_chk h
      refine xh_iald (n := 16) F hI (x_inH hj (by decide)) (fun _ => rfl) g2 dX3_freeEnded_15 ?_
      refine lv_if_eq (tgt := 37) hx hb dX3_freeEnded_16 (by decide) (fun c3 => ?_) (fun c3 => ?_)
      · have h := x_ift h c3
        obtain ⟨x4, e5⟩ : ∃ z : Int32, z = (y3 + (1 : Int32)) := ⟨_, rfl⟩
        have h := x_let_at h e5
        refine lv_iinc (v := x4) (lv' := [(3, .int x4), (0, .ref (X.2.2 j 2)), (1, .int y1), (2, .int y2)]) hx hb dX3_freeEnded_37 hl (k := 3) rfl (by rw [e5]; rfl) (by decide) rfl (fun ls hl => ?_)
        refine lv_goto (tgt := 4) hx hb dX3_freeEnded_40 (by decide) ?_
        exact ih u y1 y2 x4 _ _ _ h hI (lv_sub hl [1, 2, 3, 0] rfl)
      · have h := x_iff h c3
        refine lv_aload_n hx hb dX3_freeEnded_19 rfl (lv_at hl 0 rfl) ?_
        refine xg_3_2 F hI (x_inH hj (by decide)) u_fl_X3_18 dX3_freeEnded_20 ?_
        refine lv_iload_n hx hb dX3_freeEnded_23 rfl (lv_at hl 3 rfl) ?_
        refine xh_iald (n := 16) F hI (x_inH hj (by decide)) (fun _ => rfl) g2 dX3_freeEnded_24 ?_
        refine lv_iload_n hx hb dX3_freeEnded_25 rfl (lv_at hl 1 rfl) ?_
        refine lv_icmp_gt (tgt := 37) hx hb dX3_freeEnded_26 (by decide) (fun c6 => ?_) (fun c6 => ?_)
        · have h := x_ift h c6
          obtain ⟨x7, e8⟩ : ∃ z : Int32, z = (y3 + (1 : Int32)) := ⟨_, rfl⟩
          have h := x_let_at h e8
          refine lv_iinc (v := x7) (lv' := [(3, .int x7), (0, .ref (X.2.2 j 2)), (1, .int y1), (2, .int y2)]) hx hb dX3_freeEnded_37 hl (k := 3) rfl (by rw [e8]; rfl) (by decide) rfl (fun ls hl => ?_)
          refine lv_goto (tgt := 4) hx hb dX3_freeEnded_40 (by decide) ?_
          exact ih u y1 y2 x7 _ _ _ h hI (lv_sub hl [1, 2, 3, 0] rfl)
        · have h := x_iff h c6
          refine lv_aload_n hx hb dX3_freeEnded_29 rfl (lv_at hl 0 rfl) ?_
          refine lv_iload_n hx hb dX3_freeEnded_30 rfl (lv_at hl 3 rfl) ?_
          obtain ⟨r9, h10, h⟩ := x_bnd h
          refine x_acv hI (x_runV (rest := []) F hI (mX3_free l X σ j hj _ u y3 r9 h10) g_X3_78 ⟨rfl, hd_X3_free⟩ ⟨by decide, by decide⟩ ⟨rfl, rfl⟩ (x_inH hj (by decide)) rfl rfl rfl rfl hl.1 rfl (Nat.le_of_ble_eq_true rfl) dX3_freeEnded_31 ⟨Nat.zero_le _, Nat.zero_le _⟩) (fun H locs hI => ?_)
          obtain ⟨x11, e12⟩ : ∃ z : Int32, z = (y2 + (1 : Int32)) := ⟨_, rfl⟩
          have h := x_let_at h e12
          refine lv_iinc (v := x11) (lv' := [(2, .int x11), (0, .ref (X.2.2 j 2)), (1, .int y1), (3, .int y3)]) hx hb dX3_freeEnded_34 hl (k := 2) rfl (by rw [e12]; rfl) (by decide) rfl (fun ls hl => ?_)
          obtain ⟨x13, e14⟩ : ∃ z : Int32, z = (y3 + (1 : Int32)) := ⟨_, rfl⟩
          have h := x_let_at h e14
          refine lv_iinc (v := x13) (lv' := [(3, .int x13), (2, .int x11), (0, .ref (X.2.2 j 2)), (1, .int y1)]) hx hb dX3_freeEnded_37 hl (k := 3) rfl (by rw [e14]; rfl) (by decide) rfl (fun ls hl => ?_)
          refine lv_goto (tgt := 4) hx hb dX3_freeEnded_40 (by decide) ?_
          exact ih r9 y1 x11 x13 _ _ _ h hI (lv_sub hl [2, 3, 1, 0] rfl)
def fX3_freeEnded (u : x_H) (a1 : Int32) : Option (Int32 × x_H) := fX3_freeEnded_b4 400 u a1 (0 : Int32) (0 : Int32)
set_option maxHeartbeats 4000000 in
set_option maxRecDepth 100000 in
theorem mX3_freeEnded (l : Launch) (X : x_T) (σ : x_S) (j : Nat) (hj : j < 10) (sz : Nat) (u : x_H) (a1 : Int32) (r : (Int32 × x_H)) (h : fX3_freeEnded u a1 = some r) : Met l yX3_freeEnded (x_ws yX3_freeEnded cX3_freeEnded 4 (some .int)) rm_X3_freeEnded (x_Pc X (x_sh σ j u) sz [.ref (X.2.2 j 2), .int a1]) (x_Qi X r.1 (x_sh σ j r.2) sz) 0 0 (x_A X sz) := by
  refine Met.ofW (cc := cX3_freeEnded) (maxL := 4) (ret := (some .int)) (by decide) rfl ?_
  intro p e s m args below meth c s₁ B hml hv
  obtain ⟨F, hI, rfl, rfl⟩ := x_begin B hml hv
  replace F : x_F p s m _ meth c cX3_freeEnded 4 RX3 (some .int) := F
  have hx := F.1
  have hb := F.2.1
  have hml := F.2.2.1
  have hown := F.2.2.2.1
  have hts := F.2.2.2.2.1
  refine x_entry (vs := [.ref (X.2.2 j 2), .int a1]) (n := 4) (Nat.le_of_ble_eq_true rfl) (fun ls hl => ?_)
  replace hl : lv_has ls 4 [(0, .ref (X.2.2 j 2)), (1, .int a1)] := hl
  unfold fX3_freeEnded at h
  refine lv_iconst (v := 0) hx hb dX3_freeEnded_0 (by decide) ?_
  refine lv_istore_n (lv' := [(2, .int (0)), (0, .ref (X.2.2 j 2)), (1, .int a1)]) hx hb dX3_freeEnded_1 rfl hl (by decide) rfl (fun ls hl => ?_)
  refine lv_iconst (v := 0) hx hb dX3_freeEnded_2 (by decide) ?_
  refine lv_istore_n (lv' := [(3, .int (0)), (2, .int (0)), (0, .ref (X.2.2 j 2)), (1, .int a1)]) hx hb dX3_freeEnded_3 rfl hl (by decide) rfl (fun ls hl => ?_)
  exact wX3_freeEnded_b4 hj F 400 u a1 (0 : Int32) (0 : Int32) _ _ _ h hI (lv_sub hl [2, 3, 1, 0] rfl)
abbrev rm_X3_ticksUntilFree : Room := { frames := 1, cells := 0, slots := 0, locals := 20 }
def fX3_ticksUntilFree (u : x_H) (a1 : Int32) (a2 : Int32) : Option Int32 := (Option.bind (fX6_isRoom a1) fun r1 => (if r1 = 0 then some (0 : Int32) else (if x_in a1 16 then (if (u 12 (Int32.toNatClampNeg a1)) = 0 then some (0 : Int32) else some ((u 14 (Int32.toNatClampNeg a1)) - a2)) else none)))
set_option maxHeartbeats 4000000 in
set_option maxRecDepth 100000 in
theorem mX3_ticksUntilFree (l : Launch) (X : x_T) (σ : x_S) (j : Nat) (hj : j < 10) (sz : Nat) (u : x_H) (a1 : Int32) (a2 : Int32) (r : Int32) (h : fX3_ticksUntilFree u a1 a2 = some r) : Met l yX3_ticksUntilFree (x_ws yX3_ticksUntilFree cX3_ticksUntilFree 3 (some .int)) rm_X3_ticksUntilFree (x_Pc X (x_sh σ j u) sz [.ref (X.2.2 j 2), .int a1, .int a2]) (x_Qi X r (x_sh σ j u) sz) 0 0 (x_A X sz) := by
  refine Met.ofW (cc := cX3_ticksUntilFree) (maxL := 3) (ret := (some .int)) (by decide) rfl ?_
  intro p e s m args below meth c s₁ B hml hv
  obtain ⟨F, hI, rfl, rfl⟩ := x_begin B hml hv
  replace F : x_F p s m _ meth c cX3_ticksUntilFree 3 RX3 (some .int) := F
  have hx := F.1
  have hb := F.2.1
  have hml := F.2.2.1
  have hown := F.2.2.2.1
  have hts := F.2.2.2.2.1
  refine x_entry (vs := [.ref (X.2.2 j 2), .int a1, .int a2]) (n := 3) (Nat.le_of_ble_eq_true rfl) (fun ls hl => ?_)
  replace hl : lv_has ls 3 [(0, .ref (X.2.2 j 2)), (1, .int a1), (2, .int a2)] := hl
  unfold fX3_ticksUntilFree at h
  refine lv_iload_n hx hb dX3_ticksUntilFree_0 rfl (lv_at hl 1 rfl) ?_
  obtain ⟨r1, h2, h⟩ := x_bnd h
  refine x_aci hI (x_runN (rest := []) F hI (mX6_isRoom l X (x_sh σ j u) _ a1 r1 h2) u_mln_X3_50 u_co_X6_isRoom u_ini_X6 u_st_X6_isRoom hd_X6_isRoom ⟨by decide, by decide⟩ ⟨rfl, rfl⟩ rfl hl.1 rfl (Nat.le_of_ble_eq_true rfl) dX3_ticksUntilFree_1 ⟨Nat.zero_le _, Nat.zero_le _⟩) (fun H locs hI => ?_)
  refine lv_if_eq (tgt := 16) hx hb dX3_ticksUntilFree_4 (by decide) (fun c3 => ?_) (fun c3 => ?_)
  · have h := x_ift h c3
    refine lv_iconst (v := 0) hx hb dX3_ticksUntilFree_16 (by decide) ?_
    refine lv_goto (tgt := 28) hx hb dX3_ticksUntilFree_17 (by decide) ?_
    rw [x_some h]
    exact x_iret F hI dX3_ticksUntilFree_28
  · have h := x_iff h c3
    refine lv_aload_n hx hb dX3_ticksUntilFree_7 rfl (lv_at hl 0 rfl) ?_
    refine xg_3_0 F hI (x_inH hj (by decide)) u_fl_X3_9 dX3_ticksUntilFree_8 ?_
    refine lv_iload_n hx hb dX3_ticksUntilFree_11 rfl (lv_at hl 1 rfl) ?_
    obtain ⟨g4, h⟩ := x_chk h
    refine xh_iald (n := 16) F hI (x_inH hj (by decide)) (fun _ => rfl) g4 dX3_ticksUntilFree_12 ?_
    refine lv_if_ne (tgt := 20) hx hb dX3_ticksUntilFree_13 (by decide) (fun c5 => ?_) (fun c5 => ?_)
    · have h := x_iff h c5
      refine lv_aload_n hx hb dX3_ticksUntilFree_20 rfl (lv_at hl 0 rfl) ?_
      refine xg_3_2 F hI (x_inH hj (by decide)) u_fl_X3_18 dX3_ticksUntilFree_21 ?_
      refine lv_iload_n hx hb dX3_ticksUntilFree_24 rfl (lv_at hl 1 rfl) ?_
      refine xh_iald (n := 16) F hI (x_inH hj (by decide)) (fun _ => rfl) g4 dX3_ticksUntilFree_25 ?_
      refine lv_iload_n hx hb dX3_ticksUntilFree_26 rfl (lv_at hl 2 rfl) ?_
      refine lv_isub hx hb dX3_ticksUntilFree_27 ?_
      rw [x_some h]
      exact x_iret F hI dX3_ticksUntilFree_28
    · have h := x_ift h c5
      refine lv_iconst (v := 0) hx hb dX3_ticksUntilFree_16 (by decide) ?_
      refine lv_goto (tgt := 28) hx hb dX3_ticksUntilFree_17 (by decide) ?_
      rw [x_some h]
      exact x_iret F hI dX3_ticksUntilFree_28
abbrev rm_X3_leastTicksUntilFree : Room := { frames := 2, cells := 0, slots := 0, locals := 42 }
def fX3_leastTicksUntilFree_b4 : Nat → x_H → Int32 → Int32 → Int32 → Option Int32
  | 0, _, _, _, _ => none
  | n + 1, u, y1, y2, y3 => (if (16 : Int32) ≤ y3 then some (y2) else (Option.bind (fX3_ticksUntilFree u y3 y1) fun r2 => (if r2 ≤ 0 then x_let (y3 + (1 : Int32)) fun x5 => fX3_leastTicksUntilFree_b4 n u y1 y2 x5 else (if y2 = 0 then x_let (y3 + (1 : Int32)) fun x8 => fX3_leastTicksUntilFree_b4 n u y1 r2 x8 else (if y2 ≤ r2 then x_let (y3 + (1 : Int32)) fun x11 => fX3_leastTicksUntilFree_b4 n u y1 y2 x11 else x_let (y3 + (1 : Int32)) fun x13 => fX3_leastTicksUntilFree_b4 n u y1 r2 x13)))))
set_option maxHeartbeats 4000000 in
set_option maxRecDepth 100000 in
theorem wX3_leastTicksUntilFree_b4 {p : Program} {l : Launch} {e : Env} {s : State} {m : MethodId} {args : Array Value} {below : List Frame} {meth : Method} {c : Code} {X : x_T} {σ : x_S} {r : Int32} {j : Nat} (hj : j < 10) (F : x_F p s m args meth c cX3_leastTicksUntilFree 5 RX3 (some .int)) : ∀ (n : Nat) (u : x_H) (y1 : Int32) (y2 : Int32) (y3 : Int32) (H : Heap) (locs : List Loc) (ls : Array Slot), fX3_leastTicksUntilFree_b4 n u y1 y2 y3 = some r → x_I X (x_sh σ j u) s H locs → lv_has ls 5 [(0, .ref (X.2.2 j 2)), (1, .int y1), (2, .int y2), (3, .int y3)] → W p l e rm_X3_leastTicksUntilFree s m args below meth c H locs 0 0 (MQ below (x_Qi X r (x_sh σ j u) s.heap.size) args s 0 0 (x_A X s.heap.size)) (F0 m 4 ls []) := by
  have hx := F.1
  have hb := F.2.1
  have hml := F.2.2.1
  have hown := F.2.2.2.1
  have hts := F.2.2.2.2.1
  intro n
  induction n with
  | zero =>
    intro u y1 y2 y3 H locs ls h
    rw [fX3_leastTicksUntilFree_b4] at h
    cases h
  | succ n ih =>
    intro u y1 y2 y3 H locs ls h hI hl
    rw [fX3_leastTicksUntilFree_b4] at h
    refine lv_iload_n hx hb dX3_leastTicksUntilFree_4 rfl (lv_at hl 3 rfl) ?_
    refine lv_bipush (v := 16) hx hb dX3_leastTicksUntilFree_5 (by decide) ?_
    refine lv_icmp_ge (tgt := 42) hx hb dX3_leastTicksUntilFree_7 (by decide) (fun c1 => ?_) (fun c1 => ?_)
    · have h := x_ift h c1
      refine lv_iload_n hx hb dX3_leastTicksUntilFree_42 rfl (lv_at hl 2 rfl) ?_
      rw [x_some h]
      exact x_iret F hI dX3_leastTicksUntilFree_43
    · have h := x_iff h c1
      refine lv_aload_n hx hb dX3_leastTicksUntilFree_10 rfl (lv_at hl 0 rfl) ?_
      refine lv_iload_n hx hb dX3_leastTicksUntilFree_11 rfl (lv_at hl 3 rfl) ?_
      refine lv_iload_n hx hb dX3_leastTicksUntilFree_12 rfl (lv_at hl 1 rfl) ?_
      obtain ⟨r2, h3, h⟩ := x_bnd h
      refine x_aci hI (x_runV (rest := []) F hI (mX3_ticksUntilFree l X σ j hj _ u y3 y1 r2 h3) g_X3_81 ⟨rfl, hd_X3_ticksUntilFree⟩ ⟨by decide, by decide⟩ ⟨rfl, rfl⟩ (x_inH hj (by decide)) rfl rfl rfl rfl hl.1 rfl (Nat.le_of_ble_eq_true rfl) dX3_leastTicksUntilFree_13 ⟨Nat.zero_le _, Nat.zero_le _⟩) (fun H locs hI => ?_)
      refine lv_istore (lv' := [(4, .int r2), (0, .ref (X.2.2 j 2)), (1, .int y1), (2, .int y2), (3, .int y3)]) hx hb dX3_leastTicksUntilFree_16 hl (by decide) rfl (fun ls hl => ?_)
      refine lv_iload hx hb dX3_leastTicksUntilFree_18 (lv_at hl 0 rfl) ?_
      refine lv_if_le (tgt := 36) hx hb dX3_leastTicksUntilFree_20 (by decide) (fun c4 => ?_) (fun c4 => ?_)
      · have h := x_ift h c4
        obtain ⟨x5, e6⟩ : ∃ z : Int32, z = (y3 + (1 : Int32)) := ⟨_, rfl⟩
        have h := x_let_at h e6
        refine lv_iinc (v := x5) (lv' := [(3, .int x5), (4, .int r2), (0, .ref (X.2.2 j 2)), (1, .int y1), (2, .int y2)]) hx hb dX3_leastTicksUntilFree_36 hl (k := 4) rfl (by rw [e6]; rfl) (by decide) rfl (fun ls hl => ?_)
        refine lv_goto (tgt := 4) hx hb dX3_leastTicksUntilFree_39 (by decide) ?_
        exact ih u y1 y2 x5 _ _ _ h hI (lv_sub hl [2, 3, 4, 0] rfl)
      · have h := x_iff h c4
        refine lv_iload_n hx hb dX3_leastTicksUntilFree_23 rfl (lv_at hl 3 rfl) ?_
        refine lv_if_eq (tgt := 33) hx hb dX3_leastTicksUntilFree_24 (by decide) (fun c7 => ?_) (fun c7 => ?_)
        · have h := x_ift h c7
          refine lv_iload hx hb dX3_leastTicksUntilFree_33 (lv_at hl 0 rfl) ?_
          refine lv_istore_n (lv' := [(2, .int r2), (4, .int r2), (0, .ref (X.2.2 j 2)), (1, .int y1), (3, .int y3)]) hx hb dX3_leastTicksUntilFree_35 rfl hl (by decide) rfl (fun ls hl => ?_)
          obtain ⟨x8, e9⟩ : ∃ z : Int32, z = (y3 + (1 : Int32)) := ⟨_, rfl⟩
          have h := x_let_at h e9
          refine lv_iinc (v := x8) (lv' := [(3, .int x8), (2, .int r2), (4, .int r2), (0, .ref (X.2.2 j 2)), (1, .int y1)]) hx hb dX3_leastTicksUntilFree_36 hl (k := 4) rfl (by rw [e9]; rfl) (by decide) rfl (fun ls hl => ?_)
          refine lv_goto (tgt := 4) hx hb dX3_leastTicksUntilFree_39 (by decide) ?_
          exact ih u y1 r2 x8 _ _ _ h hI (lv_sub hl [3, 4, 1, 0] rfl)
        · have h := x_iff h c7
          refine lv_iload hx hb dX3_leastTicksUntilFree_27 (lv_at hl 0 rfl) ?_
          refine lv_iload_n hx hb dX3_leastTicksUntilFree_29 rfl (lv_at hl 3 rfl) ?_
          refine lv_icmp_ge (tgt := 36) hx hb dX3_leastTicksUntilFree_30 (by decide) (fun c10 => ?_) (fun c10 => ?_)
          · have h := x_ift h c10
            obtain ⟨x11, e12⟩ : ∃ z : Int32, z = (y3 + (1 : Int32)) := ⟨_, rfl⟩
            have h := x_let_at h e12
            refine lv_iinc (v := x11) (lv' := [(3, .int x11), (4, .int r2), (0, .ref (X.2.2 j 2)), (1, .int y1), (2, .int y2)]) hx hb dX3_leastTicksUntilFree_36 hl (k := 4) rfl (by rw [e12]; rfl) (by decide) rfl (fun ls hl => ?_)
            refine lv_goto (tgt := 4) hx hb dX3_leastTicksUntilFree_39 (by decide) ?_
            exact ih u y1 y2 x11 _ _ _ h hI (lv_sub hl [2, 3, 4, 0] rfl)
          · have h := x_iff h c10
            refine lv_iload hx hb dX3_leastTicksUntilFree_33 (lv_at hl 0 rfl) ?_
            refine lv_istore_n (lv' := [(2, .int r2), (4, .int r2), (0, .ref (X.2.2 j 2)), (1, .int y1), (3, .int y3)]) hx hb dX3_leastTicksUntilFree_35 rfl hl (by decide) rfl (fun ls hl => ?_)
            obtain ⟨x13, e14⟩ : ∃ z : Int32, z = (y3 + (1 : Int32)) := ⟨_, rfl⟩
            have h := x_let_at h e14
            refine lv_iinc (v := x13) (lv' := [(3, .int x13), (2, .int r2), (4, .int r2), (0, .ref (X.2.2 j 2)), (1, .int y1)]) hx hb dX3_leastTicksUntilFree_36 hl (k := 4) rfl (by rw [e14]; rfl) (by decide) rfl (fun ls hl => ?_)
            refine lv_goto (tgt := 4) hx hb dX3_leastTicksUntilFree_39 (by decide) ?_
            exact ih u y1 r2 x13 _ _ _ h hI (lv_sub hl [3, 4, 1, 0] rfl)
def fX3_leastTicksUntilFree (u : x_H) (a1 : Int32) : Option Int32 := fX3_leastTicksUntilFree_b4 400 u a1 (0 : Int32) (0 : Int32)
set_option maxHeartbeats 4000000 in
set_option maxRecDepth 100000 in
theorem mX3_leastTicksUntilFree (l : Launch) (X : x_T) (σ : x_S) (j : Nat) (hj : j < 10) (sz : Nat) (u : x_H) (a1 : Int32) (r : Int32) (h : fX3_leastTicksUntilFree u a1 = some r) : Met l yX3_leastTicksUntilFree (x_ws yX3_leastTicksUntilFree cX3_leastTicksUntilFree 5 (some .int)) rm_X3_leastTicksUntilFree (x_Pc X (x_sh σ j u) sz [.ref (X.2.2 j 2), .int a1]) (x_Qi X r (x_sh σ j u) sz) 0 0 (x_A X sz) := by
  refine Met.ofW (cc := cX3_leastTicksUntilFree) (maxL := 5) (ret := (some .int)) (by decide) rfl ?_
  intro p e s m args below meth c s₁ B hml hv
  obtain ⟨F, hI, rfl, rfl⟩ := x_begin B hml hv
  replace F : x_F p s m _ meth c cX3_leastTicksUntilFree 5 RX3 (some .int) := F
  have hx := F.1
  have hb := F.2.1
  have hml := F.2.2.1
  have hown := F.2.2.2.1
  have hts := F.2.2.2.2.1
  refine x_entry (vs := [.ref (X.2.2 j 2), .int a1]) (n := 5) (Nat.le_of_ble_eq_true rfl) (fun ls hl => ?_)
  replace hl : lv_has ls 5 [(0, .ref (X.2.2 j 2)), (1, .int a1)] := hl
  unfold fX3_leastTicksUntilFree at h
  refine lv_iconst (v := 0) hx hb dX3_leastTicksUntilFree_0 (by decide) ?_
  refine lv_istore_n (lv' := [(2, .int (0)), (0, .ref (X.2.2 j 2)), (1, .int a1)]) hx hb dX3_leastTicksUntilFree_1 rfl hl (by decide) rfl (fun ls hl => ?_)
  refine lv_iconst (v := 0) hx hb dX3_leastTicksUntilFree_2 (by decide) ?_
  refine lv_istore_n (lv' := [(3, .int (0)), (2, .int (0)), (0, .ref (X.2.2 j 2)), (1, .int a1)]) hx hb dX3_leastTicksUntilFree_3 rfl hl (by decide) rfl (fun ls hl => ?_)
  exact wX3_leastTicksUntilFree_b4 hj F 400 u a1 (0 : Int32) (0 : Int32) _ _ _ h hI (lv_sub hl [2, 3, 1, 0] rfl)
abbrev rm_X3_countRooms : Room := { frames := 0, cells := 0, slots := 0, locals := 0 }
def fX3_countRooms_b4 : Nat → x_H → Int32 → Int32 → Int32 → Option Int32
  | 0, _, _, _, _ => none
  | n + 1, u, y1, y2, y3 => (if (16 : Int32) ≤ y3 then some (y2) else (if x_in y3 16 then (if (u 12 (Int32.toNatClampNeg y3)) = y1 then x_let (y2 + (1 : Int32)) fun x4 => x_let (y3 + (1 : Int32)) fun x6 => fX3_countRooms_b4 n u y1 x4 x6 else x_let (y3 + (1 : Int32)) fun x8 => fX3_countRooms_b4 n u y1 y2 x8) else none))
set_option maxHeartbeats 4000000 in
set_option maxRecDepth 100000 in
theorem wX3_countRooms_b4 {p : Program} {l : Launch} {e : Env} {s : State} {m : MethodId} {args : Array Value} {below : List Frame} {meth : Method} {c : Code} {X : x_T} {σ : x_S} {r : Int32} {j : Nat} (hj : j < 10) (F : x_F p s m args meth c cX3_countRooms 4 RX3 (some .int)) : ∀ (n : Nat) (u : x_H) (y1 : Int32) (y2 : Int32) (y3 : Int32) (H : Heap) (locs : List Loc) (ls : Array Slot), fX3_countRooms_b4 n u y1 y2 y3 = some r → x_I X (x_sh σ j u) s H locs → lv_has ls 4 [(0, .ref (X.2.2 j 2)), (1, .int y1), (2, .int y2), (3, .int y3)] → W p l e rm_X3_countRooms s m args below meth c H locs 0 0 (MQ below (x_Qi X r (x_sh σ j u) s.heap.size) args s 0 0 (x_A X s.heap.size)) (F0 m 4 ls []) := by
  have hx := F.1
  have hb := F.2.1
  have hml := F.2.2.1
  have hown := F.2.2.2.1
  have hts := F.2.2.2.2.1
  intro n
  induction n with
  | zero =>
    intro u y1 y2 y3 H locs ls h
    rw [fX3_countRooms_b4] at h
    cases h
  | succ n ih =>
    intro u y1 y2 y3 H locs ls h hI hl
    rw [fX3_countRooms_b4] at h
    refine lv_iload_n hx hb dX3_countRooms_4 rfl (lv_at hl 3 rfl) ?_
    refine lv_bipush (v := 16) hx hb dX3_countRooms_5 (by decide) ?_
    refine lv_icmp_ge (tgt := 29) hx hb dX3_countRooms_7 (by decide) (fun c1 => ?_) (fun c1 => ?_)
    · have h := x_ift h c1
      refine lv_iload_n hx hb dX3_countRooms_29 rfl (lv_at hl 2 rfl) ?_
      rw [x_some h]
      exact x_iret F hI dX3_countRooms_30
    · have h := x_iff h c1
      refine lv_aload_n hx hb dX3_countRooms_10 rfl (lv_at hl 0 rfl) ?_
      refine xg_3_0 F hI (x_inH hj (by decide)) u_fl_X3_9 dX3_countRooms_11 ?_
      refine lv_iload_n hx hb dX3_countRooms_14 rfl (lv_at hl 3 rfl) ?_
      obtain ⟨g2, h⟩ := x_chk h
      refine xh_iald (n := 16) F hI (x_inH hj (by decide)) (fun _ => rfl) g2 dX3_countRooms_15 ?_
      refine lv_iload_n hx hb dX3_countRooms_16 rfl (lv_at hl 1 rfl) ?_
      refine lv_icmp_ne (tgt := 23) hx hb dX3_countRooms_17 (by decide) (fun c3 => ?_) (fun c3 => ?_)
      · have h := x_iff h c3
        obtain ⟨x8, e9⟩ : ∃ z : Int32, z = (y3 + (1 : Int32)) := ⟨_, rfl⟩
        have h := x_let_at h e9
        refine lv_iinc (v := x8) (lv' := [(3, .int x8), (0, .ref (X.2.2 j 2)), (1, .int y1), (2, .int y2)]) hx hb dX3_countRooms_23 hl (k := 3) rfl (by rw [e9]; rfl) (by decide) rfl (fun ls hl => ?_)
        refine lv_goto (tgt := 4) hx hb dX3_countRooms_26 (by decide) ?_
        exact ih u y1 y2 x8 _ _ _ h hI (lv_sub hl [1, 2, 3, 0] rfl)
      · have h := x_ift h c3
        obtain ⟨x4, e5⟩ : ∃ z : Int32, z = (y2 + (1 : Int32)) := ⟨_, rfl⟩
        have h := x_let_at h e5
        refine lv_iinc (v := x4) (lv' := [(2, .int x4), (0, .ref (X.2.2 j 2)), (1, .int y1), (3, .int y3)]) hx hb dX3_countRooms_20 hl (k := 2) rfl (by rw [e5]; rfl) (by decide) rfl (fun ls hl => ?_)
        obtain ⟨x6, e7⟩ : ∃ z : Int32, z = (y3 + (1 : Int32)) := ⟨_, rfl⟩
        have h := x_let_at h e7
        refine lv_iinc (v := x6) (lv' := [(3, .int x6), (2, .int x4), (0, .ref (X.2.2 j 2)), (1, .int y1)]) hx hb dX3_countRooms_23 hl (k := 3) rfl (by rw [e7]; rfl) (by decide) rfl (fun ls hl => ?_)
        refine lv_goto (tgt := 4) hx hb dX3_countRooms_26 (by decide) ?_
        exact ih u y1 x4 x6 _ _ _ h hI (lv_sub hl [2, 3, 1, 0] rfl)
def fX3_countRooms (u : x_H) (a1 : Int32) : Option Int32 := fX3_countRooms_b4 400 u a1 (0 : Int32) (0 : Int32)
set_option maxHeartbeats 4000000 in
set_option maxRecDepth 100000 in
theorem mX3_countRooms (l : Launch) (X : x_T) (σ : x_S) (j : Nat) (hj : j < 10) (sz : Nat) (u : x_H) (a1 : Int32) (r : Int32) (h : fX3_countRooms u a1 = some r) : Met l yX3_countRooms (x_ws yX3_countRooms cX3_countRooms 4 (some .int)) rm_X3_countRooms (x_Pc X (x_sh σ j u) sz [.ref (X.2.2 j 2), .int a1]) (x_Qi X r (x_sh σ j u) sz) 0 0 (x_A X sz) := by
  refine Met.ofW (cc := cX3_countRooms) (maxL := 4) (ret := (some .int)) (by decide) rfl ?_
  intro p e s m args below meth c s₁ B hml hv
  obtain ⟨F, hI, rfl, rfl⟩ := x_begin B hml hv
  replace F : x_F p s m _ meth c cX3_countRooms 4 RX3 (some .int) := F
  have hx := F.1
  have hb := F.2.1
  have hml := F.2.2.1
  have hown := F.2.2.2.1
  have hts := F.2.2.2.2.1
  refine x_entry (vs := [.ref (X.2.2 j 2), .int a1]) (n := 4) (Nat.le_of_ble_eq_true rfl) (fun ls hl => ?_)
  replace hl : lv_has ls 4 [(0, .ref (X.2.2 j 2)), (1, .int a1)] := hl
  unfold fX3_countRooms at h
  refine lv_iconst (v := 0) hx hb dX3_countRooms_0 (by decide) ?_
  refine lv_istore_n (lv' := [(2, .int (0)), (0, .ref (X.2.2 j 2)), (1, .int a1)]) hx hb dX3_countRooms_1 rfl hl (by decide) rfl (fun ls hl => ?_)
  refine lv_iconst (v := 0) hx hb dX3_countRooms_2 (by decide) ?_
  refine lv_istore_n (lv' := [(3, .int (0)), (2, .int (0)), (0, .ref (X.2.2 j 2)), (1, .int a1)]) hx hb dX3_countRooms_3 rfl hl (by decide) rfl (fun ls hl => ?_)
  exact wX3_countRooms_b4 hj F 400 u a1 (0 : Int32) (0 : Int32) _ _ _ h hI (lv_sub hl [2, 3, 1, 0] rfl)
abbrev rm_X3_countLeasesOfGuests : Room := { frames := 0, cells := 0, slots := 0, locals := 0 }
def fX3_countLeasesOfGuests_b4 : Nat → x_H → Int32 → Int32 → Option Int32
  | 0, _, _, _ => none
  | n + 1, u, y1, y2 => (if (12 : Int32) ≤ y2 then some (y1) else (if x_in y2 12 then x_let (y1 + (u 18 (Int32.toNatClampNeg y2))) fun x3 => x_let (y2 + (1 : Int32)) fun x5 => fX3_countLeasesOfGuests_b4 n u x3 x5 else none))
set_option maxHeartbeats 4000000 in
set_option maxRecDepth 100000 in
theorem wX3_countLeasesOfGuests_b4 {p : Program} {l : Launch} {e : Env} {s : State} {m : MethodId} {args : Array Value} {below : List Frame} {meth : Method} {c : Code} {X : x_T} {σ : x_S} {r : Int32} {j : Nat} (hj : j < 10) (F : x_F p s m args meth c cX3_countLeasesOfGuests 3 RX3 (some .int)) : ∀ (n : Nat) (u : x_H) (y1 : Int32) (y2 : Int32) (H : Heap) (locs : List Loc) (ls : Array Slot), fX3_countLeasesOfGuests_b4 n u y1 y2 = some r → x_I X (x_sh σ j u) s H locs → lv_has ls 3 [(0, .ref (X.2.2 j 2)), (1, .int y1), (2, .int y2)] → W p l e rm_X3_countLeasesOfGuests s m args below meth c H locs 0 0 (MQ below (x_Qi X r (x_sh σ j u) s.heap.size) args s 0 0 (x_A X s.heap.size)) (F0 m 4 ls []) := by
  have hx := F.1
  have hb := F.2.1
  have hml := F.2.2.1
  have hown := F.2.2.2.1
  have hts := F.2.2.2.2.1
  intro n
  induction n with
  | zero =>
    intro u y1 y2 H locs ls h
    rw [fX3_countLeasesOfGuests_b4] at h
    cases h
  | succ n ih =>
    intro u y1 y2 H locs ls h hI hl
    rw [fX3_countLeasesOfGuests_b4] at h
    refine lv_iload_n hx hb dX3_countLeasesOfGuests_4 rfl (lv_at hl 2 rfl) ?_
    refine lv_bipush (v := 12) hx hb dX3_countLeasesOfGuests_5 (by decide) ?_
    refine lv_icmp_ge (tgt := 25) hx hb dX3_countLeasesOfGuests_7 (by decide) (fun c1 => ?_) (fun c1 => ?_)
    · have h := x_ift h c1
      refine lv_iload_n hx hb dX3_countLeasesOfGuests_25 rfl (lv_at hl 1 rfl) ?_
      rw [x_some h]
      exact x_iret F hI dX3_countLeasesOfGuests_26
    · have h := x_iff h c1
      refine lv_iload_n hx hb dX3_countLeasesOfGuests_10 rfl (lv_at hl 1 rfl) ?_
      refine lv_aload_n hx hb dX3_countLeasesOfGuests_11 rfl (lv_at hl 0 rfl) ?_
      refine xg_3_6 F hI (x_inH hj (by decide)) u_fl_X3_30 dX3_countLeasesOfGuests_12 ?_
      refine lv_iload_n hx hb dX3_countLeasesOfGuests_15 rfl (lv_at hl 2 rfl) ?_
      obtain ⟨g2, h⟩ := x_chk h
      refine xh_iald (n := 12) F hI (x_inH hj (by decide)) (fun _ => rfl) g2 dX3_countLeasesOfGuests_16 ?_
      refine lv_iadd hx hb dX3_countLeasesOfGuests_17 ?_
      refine lv_topi (fun x3 e4 => ?_)
      have h := x_let_at h e4
      refine lv_istore_n (lv' := [(1, .int x3), (0, .ref (X.2.2 j 2)), (2, .int y2)]) hx hb dX3_countLeasesOfGuests_18 rfl hl (by decide) rfl (fun ls hl => ?_)
      obtain ⟨x5, e6⟩ : ∃ z : Int32, z = (y2 + (1 : Int32)) := ⟨_, rfl⟩
      have h := x_let_at h e6
      refine lv_iinc (v := x5) (lv' := [(2, .int x5), (1, .int x3), (0, .ref (X.2.2 j 2))]) hx hb dX3_countLeasesOfGuests_19 hl (k := 2) rfl (by rw [e6]; rfl) (by decide) rfl (fun ls hl => ?_)
      refine lv_goto (tgt := 4) hx hb dX3_countLeasesOfGuests_22 (by decide) ?_
      exact ih u x3 x5 _ _ _ h hI (lv_sub hl [2, 1, 0] rfl)
def fX3_countLeasesOfGuests (u : x_H) : Option Int32 := fX3_countLeasesOfGuests_b4 400 u (0 : Int32) (0 : Int32)
set_option maxHeartbeats 4000000 in
set_option maxRecDepth 100000 in
theorem mX3_countLeasesOfGuests (l : Launch) (X : x_T) (σ : x_S) (j : Nat) (hj : j < 10) (sz : Nat) (u : x_H) (r : Int32) (h : fX3_countLeasesOfGuests u  = some r) : Met l yX3_countLeasesOfGuests (x_ws yX3_countLeasesOfGuests cX3_countLeasesOfGuests 3 (some .int)) rm_X3_countLeasesOfGuests (x_Pc X (x_sh σ j u) sz [.ref (X.2.2 j 2)]) (x_Qi X r (x_sh σ j u) sz) 0 0 (x_A X sz) := by
  refine Met.ofW (cc := cX3_countLeasesOfGuests) (maxL := 3) (ret := (some .int)) (by decide) rfl ?_
  intro p e s m args below meth c s₁ B hml hv
  obtain ⟨F, hI, rfl, rfl⟩ := x_begin B hml hv
  replace F : x_F p s m _ meth c cX3_countLeasesOfGuests 3 RX3 (some .int) := F
  have hx := F.1
  have hb := F.2.1
  have hml := F.2.2.1
  have hown := F.2.2.2.1
  have hts := F.2.2.2.2.1
  refine x_entry (vs := [.ref (X.2.2 j 2)]) (n := 3) (Nat.le_of_ble_eq_true rfl) (fun ls hl => ?_)
  replace hl : lv_has ls 3 [(0, .ref (X.2.2 j 2))] := hl
  unfold fX3_countLeasesOfGuests at h
  refine lv_iconst (v := 0) hx hb dX3_countLeasesOfGuests_0 (by decide) ?_
  refine lv_istore_n (lv' := [(1, .int (0)), (0, .ref (X.2.2 j 2))]) hx hb dX3_countLeasesOfGuests_1 rfl hl (by decide) rfl (fun ls hl => ?_)
  refine lv_iconst (v := 0) hx hb dX3_countLeasesOfGuests_2 (by decide) ?_
  refine lv_istore_n (lv' := [(2, .int (0)), (1, .int (0)), (0, .ref (X.2.2 j 2))]) hx hb dX3_countLeasesOfGuests_3 rfl hl (by decide) rfl (fun ls hl => ?_)
  exact wX3_countLeasesOfGuests_b4 hj F 400 u (0 : Int32) (0 : Int32) _ _ _ h hI (lv_sub hl [2, 1, 0] rfl)
abbrev rm_X3_copyFrom : Room := { frames := 2, cells := 0, slots := 0, locals := 47 }
def fX3_copyFrom (u : x_H) (w : x_H) : Option x_H := x_let (x_hs u 12 (w 12)) fun u1 => x_let (x_hs u1 13 (w 13)) fun u3 => x_let (x_hs u3 14 (w 14)) fun u5 => x_let (x_hs u5 15 (w 15)) fun u7 => x_let (x_hs u7 16 (w 16)) fun u9 => x_let (x_hs u9 17 (w 17)) fun u11 => x_let (x_hs u11 18 (w 18)) fun u13 => x_let (x_hu u13 2 0 (w 2 0)) fun u15 => x_let (x_hu u15 2 1 (w 2 1)) fun u17 => x_let (x_hu u17 2 2 (w 2 2)) fun u19 => x_let (x_hu u19 2 3 (w 2 3)) fun u21 => some (u21)
set_option maxHeartbeats 4000000 in
set_option maxRecDepth 100000 in
theorem mX3_copyFrom (l : Launch) (X : x_T) (σ : x_S) (i j : Nat) (hi : i < 10) (hj : j < 10) (hne : i ≠ j) {w : x_H} (hw : σ i = w) (sz : Nat) (u : x_H) (r : x_H) (h : fX3_copyFrom u w  = some r) : Met l yX3_copyFrom (x_ws yX3_copyFrom cX3_copyFrom 2 none) rm_X3_copyFrom (x_Pc X (x_sh σ j u) sz [.ref (X.2.2 j 2), .ref (X.2.2 i 2)]) (x_Qv X (x_sh σ j r) sz) 0 0 (x_A X sz) := by
  refine Met.ofW (cc := cX3_copyFrom) (maxL := 2) (ret := none) (by decide) rfl ?_
  intro p e s m args below meth c s₁ B hml hv
  obtain ⟨F, hI, rfl, rfl⟩ := x_begin B hml hv
  replace F : x_F p s m _ meth c cX3_copyFrom 2 RX3 none := F
  have hx := F.1
  have hb := F.2.1
  have hml := F.2.2.1
  have hown := F.2.2.2.1
  have hts := F.2.2.2.2.1
  refine x_entry (vs := [.ref (X.2.2 j 2), .ref (X.2.2 i 2)]) (n := 2) (Nat.le_of_ble_eq_true rfl) (fun ls hl => ?_)
  replace hl : lv_has ls 2 [(0, .ref (X.2.2 j 2)), (1, .ref (X.2.2 i 2))] := hl
  unfold fX3_copyFrom at h
  refine lv_aload_n hx hb dX3_copyFrom_0 rfl (lv_at hl 1 rfl) ?_
  refine xo_3_0 F hI (x_inH hi (by decide)) hne hw u_fl_X3_9 dX3_copyFrom_1 ?_
  refine lv_aload_n hx hb dX3_copyFrom_4 rfl (lv_at hl 0 rfl) ?_
  refine xg_3_0 F hI (x_inH hj (by decide)) u_fl_X3_9 dX3_copyFrom_5 ?_
  refine x_acv hI (x_runN (rest := []) F hI (mX6_copyNumbers l X _ _ (n := 16) (x_inH hi (by decide)) (x_inH hj (by decide)) (fun _ => rfl) (fun _ => rfl) (by decide)) u_mln_X3_46 u_co_X6_copyNumbers u_ini_X6 u_st_X6_copyNumbers hd_X6_copyNumbers ⟨by decide, by decide⟩ ⟨rfl, rfl⟩ rfl hl.1 rfl (Nat.le_of_ble_eq_true rfl) dX3_copyFrom_8 ⟨Nat.zero_le _, Nat.zero_le _⟩) (fun H locs hI => ?_)
  rw [x_sh_eq, x_sh_sh, x_sh_ne _ _ hne, hw] at hI
  obtain ⟨u1, e2⟩ : ∃ z : x_H, z = (x_hs u 12 (w 12)) := ⟨_, rfl⟩
  rw [← e2] at hI
  have h := x_let_at h e2
  refine lv_aload_n hx hb dX3_copyFrom_11 rfl (lv_at hl 1 rfl) ?_
  refine xo_3_1 F hI (x_inH hi (by decide)) hne hw u_fl_X3_15 dX3_copyFrom_12 ?_
  refine lv_aload_n hx hb dX3_copyFrom_15 rfl (lv_at hl 0 rfl) ?_
  refine xg_3_1 F hI (x_inH hj (by decide)) u_fl_X3_15 dX3_copyFrom_16 ?_
  refine x_acv hI (x_runN (rest := []) F hI (mX6_copyNumbers l X _ _ (n := 16) (x_inH hi (by decide)) (x_inH hj (by decide)) (fun _ => rfl) (fun _ => rfl) (by decide)) u_mln_X3_46 u_co_X6_copyNumbers u_ini_X6 u_st_X6_copyNumbers hd_X6_copyNumbers ⟨by decide, by decide⟩ ⟨rfl, rfl⟩ rfl hl.1 rfl (Nat.le_of_ble_eq_true rfl) dX3_copyFrom_19 ⟨Nat.zero_le _, Nat.zero_le _⟩) (fun H locs hI => ?_)
  rw [x_sh_eq, x_sh_sh, x_sh_ne _ _ hne, hw] at hI
  obtain ⟨u3, e4⟩ : ∃ z : x_H, z = (x_hs u1 13 (w 13)) := ⟨_, rfl⟩
  rw [← e4] at hI
  have h := x_let_at h e4
  refine lv_aload_n hx hb dX3_copyFrom_22 rfl (lv_at hl 1 rfl) ?_
  refine xo_3_2 F hI (x_inH hi (by decide)) hne hw u_fl_X3_18 dX3_copyFrom_23 ?_
  refine lv_aload_n hx hb dX3_copyFrom_26 rfl (lv_at hl 0 rfl) ?_
  refine xg_3_2 F hI (x_inH hj (by decide)) u_fl_X3_18 dX3_copyFrom_27 ?_
  refine x_acv hI (x_runN (rest := []) F hI (mX6_copyNumbers l X _ _ (n := 16) (x_inH hi (by decide)) (x_inH hj (by decide)) (fun _ => rfl) (fun _ => rfl) (by decide)) u_mln_X3_46 u_co_X6_copyNumbers u_ini_X6 u_st_X6_copyNumbers hd_X6_copyNumbers ⟨by decide, by decide⟩ ⟨rfl, rfl⟩ rfl hl.1 rfl (Nat.le_of_ble_eq_true rfl) dX3_copyFrom_30 ⟨Nat.zero_le _, Nat.zero_le _⟩) (fun H locs hI => ?_)
  rw [x_sh_eq, x_sh_sh, x_sh_ne _ _ hne, hw] at hI
  obtain ⟨u5, e6⟩ : ∃ z : x_H, z = (x_hs u3 14 (w 14)) := ⟨_, rfl⟩
  rw [← e6] at hI
  have h := x_let_at h e6
  refine lv_aload_n hx hb dX3_copyFrom_33 rfl (lv_at hl 1 rfl) ?_
  refine xo_3_3 F hI (x_inH hi (by decide)) hne hw u_fl_X3_21 dX3_copyFrom_34 ?_
  refine lv_aload_n hx hb dX3_copyFrom_37 rfl (lv_at hl 0 rfl) ?_
  refine xg_3_3 F hI (x_inH hj (by decide)) u_fl_X3_21 dX3_copyFrom_38 ?_
  refine x_acv hI (x_runN (rest := []) F hI (mX6_copyNumbers l X _ _ (n := 16) (x_inH hi (by decide)) (x_inH hj (by decide)) (fun _ => rfl) (fun _ => rfl) (by decide)) u_mln_X3_46 u_co_X6_copyNumbers u_ini_X6 u_st_X6_copyNumbers hd_X6_copyNumbers ⟨by decide, by decide⟩ ⟨rfl, rfl⟩ rfl hl.1 rfl (Nat.le_of_ble_eq_true rfl) dX3_copyFrom_41 ⟨Nat.zero_le _, Nat.zero_le _⟩) (fun H locs hI => ?_)
  rw [x_sh_eq, x_sh_sh, x_sh_ne _ _ hne, hw] at hI
  obtain ⟨u7, e8⟩ : ∃ z : x_H, z = (x_hs u5 15 (w 15)) := ⟨_, rfl⟩
  rw [← e8] at hI
  have h := x_let_at h e8
  refine lv_aload_n hx hb dX3_copyFrom_44 rfl (lv_at hl 1 rfl) ?_
  refine xo_3_4 F hI (x_inH hi (by decide)) hne hw u_fl_X3_24 dX3_copyFrom_45 ?_
  refine lv_aload_n hx hb dX3_copyFrom_48 rfl (lv_at hl 0 rfl) ?_
  refine xg_3_4 F hI (x_inH hj (by decide)) u_fl_X3_24 dX3_copyFrom_49 ?_
  refine x_acv hI (x_runN (rest := []) F hI (mX6_copyNumbers l X _ _ (n := 16) (x_inH hi (by decide)) (x_inH hj (by decide)) (fun _ => rfl) (fun _ => rfl) (by decide)) u_mln_X3_46 u_co_X6_copyNumbers u_ini_X6 u_st_X6_copyNumbers hd_X6_copyNumbers ⟨by decide, by decide⟩ ⟨rfl, rfl⟩ rfl hl.1 rfl (Nat.le_of_ble_eq_true rfl) dX3_copyFrom_52 ⟨Nat.zero_le _, Nat.zero_le _⟩) (fun H locs hI => ?_)
  rw [x_sh_eq, x_sh_sh, x_sh_ne _ _ hne, hw] at hI
  obtain ⟨u9, e10⟩ : ∃ z : x_H, z = (x_hs u7 16 (w 16)) := ⟨_, rfl⟩
  rw [← e10] at hI
  have h := x_let_at h e10
  refine lv_aload_n hx hb dX3_copyFrom_55 rfl (lv_at hl 1 rfl) ?_
  refine xo_3_5 F hI (x_inH hi (by decide)) hne hw u_fl_X3_27 dX3_copyFrom_56 ?_
  refine lv_aload_n hx hb dX3_copyFrom_59 rfl (lv_at hl 0 rfl) ?_
  refine xg_3_5 F hI (x_inH hj (by decide)) u_fl_X3_27 dX3_copyFrom_60 ?_
  refine x_acv hI (x_runN (rest := []) F hI (mX6_copyNumbers l X _ _ (n := 12) (x_inH hi (by decide)) (x_inH hj (by decide)) (fun _ => rfl) (fun _ => rfl) (by decide)) u_mln_X3_46 u_co_X6_copyNumbers u_ini_X6 u_st_X6_copyNumbers hd_X6_copyNumbers ⟨by decide, by decide⟩ ⟨rfl, rfl⟩ rfl hl.1 rfl (Nat.le_of_ble_eq_true rfl) dX3_copyFrom_63 ⟨Nat.zero_le _, Nat.zero_le _⟩) (fun H locs hI => ?_)
  rw [x_sh_eq, x_sh_sh, x_sh_ne _ _ hne, hw] at hI
  obtain ⟨u11, e12⟩ : ∃ z : x_H, z = (x_hs u9 17 (w 17)) := ⟨_, rfl⟩
  rw [← e12] at hI
  have h := x_let_at h e12
  refine lv_aload_n hx hb dX3_copyFrom_66 rfl (lv_at hl 1 rfl) ?_
  refine xo_3_6 F hI (x_inH hi (by decide)) hne hw u_fl_X3_30 dX3_copyFrom_67 ?_
  refine lv_aload_n hx hb dX3_copyFrom_70 rfl (lv_at hl 0 rfl) ?_
  refine xg_3_6 F hI (x_inH hj (by decide)) u_fl_X3_30 dX3_copyFrom_71 ?_
  refine x_acv hI (x_runN (rest := []) F hI (mX6_copyNumbers l X _ _ (n := 12) (x_inH hi (by decide)) (x_inH hj (by decide)) (fun _ => rfl) (fun _ => rfl) (by decide)) u_mln_X3_46 u_co_X6_copyNumbers u_ini_X6 u_st_X6_copyNumbers hd_X6_copyNumbers ⟨by decide, by decide⟩ ⟨rfl, rfl⟩ rfl hl.1 rfl (Nat.le_of_ble_eq_true rfl) dX3_copyFrom_74 ⟨Nat.zero_le _, Nat.zero_le _⟩) (fun H locs hI => ?_)
  rw [x_sh_eq, x_sh_sh, x_sh_ne _ _ hne, hw] at hI
  obtain ⟨u13, e14⟩ : ∃ z : x_H, z = (x_hs u11 18 (w 18)) := ⟨_, rfl⟩
  rw [← e14] at hI
  have h := x_let_at h e14
  refine lv_aload_n hx hb dX3_copyFrom_77 rfl (lv_at hl 0 rfl) ?_
  refine lv_aload_n hx hb dX3_copyFrom_78 rfl (lv_at hl 1 rfl) ?_
  refine xo_3_7 F hI (x_inH hi (by decide)) hne hw u_fl_X3_33 dX3_copyFrom_79 ?_
  refine xp_3_7 F hI (x_inH hj (by decide)) u_fl_X3_33 dX3_copyFrom_82 (fun H locs u15 e16 hI => ?_)
  have h := x_let_at h e16
  refine lv_aload_n hx hb dX3_copyFrom_85 rfl (lv_at hl 0 rfl) ?_
  refine lv_aload_n hx hb dX3_copyFrom_86 rfl (lv_at hl 1 rfl) ?_
  refine xo_3_8 F hI (x_inH hi (by decide)) hne hw u_fl_X3_37 dX3_copyFrom_87 ?_
  refine xp_3_8 F hI (x_inH hj (by decide)) u_fl_X3_37 dX3_copyFrom_90 (fun H locs u17 e18 hI => ?_)
  have h := x_let_at h e18
  refine lv_aload_n hx hb dX3_copyFrom_93 rfl (lv_at hl 0 rfl) ?_
  refine lv_aload_n hx hb dX3_copyFrom_94 rfl (lv_at hl 1 rfl) ?_
  refine xo_3_9 F hI (x_inH hi (by decide)) hne hw u_fl_X3_40 dX3_copyFrom_95 ?_
  refine xp_3_9 F hI (x_inH hj (by decide)) u_fl_X3_40 dX3_copyFrom_98 (fun H locs u19 e20 hI => ?_)
  have h := x_let_at h e20
  refine lv_aload_n hx hb dX3_copyFrom_101 rfl (lv_at hl 0 rfl) ?_
  refine lv_aload_n hx hb dX3_copyFrom_102 rfl (lv_at hl 1 rfl) ?_
  refine xo_3_10 F hI (x_inH hi (by decide)) hne hw u_fl_X3_43 dX3_copyFrom_103 ?_
  refine xp_3_10 F hI (x_inH hj (by decide)) u_fl_X3_43 dX3_copyFrom_106 (fun H locs u21 e22 hI => ?_)
  have h := x_let_at h e22
  rw [x_some h]
  exact x_vret F hI dX3_copyFrom_109
