abbrev rm_X1_rest : Room := { frames := 1, cells := 0, slots := 0, locals := 20 }
def fX1_rest (u : x_H) (a1 : Int32) : Option x_H := (Option.bind (fX6_isGuest a1) fun r1 => (if r1 = 0 then some (u) else (if x_in a1 12 then x_let (x_hu u 5 (Int32.toNatClampNeg a1) (0 : Int32)) fun u4 => x_let (x_hu u4 6 (Int32.toNatClampNeg a1) (-1 : Int32)) fun u7 => some (u7) else none)))
set_option maxHeartbeats 4000000 in
set_option maxRecDepth 100000 in
theorem mX1_rest (l : Launch) (X : x_T) (σ : x_S) (j : Nat) (hj : j < 10) (sz : Nat) (u : x_H) (a1 : Int32) (r : x_H) (h : fX1_rest u a1 = some r) : Met l yX1_rest (x_ws yX1_rest cX1_rest 2 none) rm_X1_rest (x_Pc X (x_sh σ j u) sz [.ref (X.2.2 j 1), .int a1]) (x_Qv X (x_sh σ j r) sz) 0 0 (x_A X sz) := by
  refine Met.ofW (cc := cX1_rest) (maxL := 2) (ret := none) (by decide) rfl ?_
  intro p e s m args below meth c s₁ B hml hv
  obtain ⟨F, hI, rfl, rfl⟩ := x_begin B hml hv
  replace F : x_F p s m _ meth c cX1_rest 2 RX1 none := F
  have hx := F.1
  have hb := F.2.1
  have hml := F.2.2.1
  have hown := F.2.2.2.1
  have hts := F.2.2.2.2.1
  refine x_entry (vs := [.ref (X.2.2 j 1), .int a1]) (n := 2) (Nat.le_of_ble_eq_true rfl) (fun ls hl => ?_)
  replace hl : lv_has ls 2 [(0, .ref (X.2.2 j 1)), (1, .int a1)] := hl
  unfold fX1_rest at h
  refine lv_iload_n hx hb dX1_rest_0 rfl (lv_at hl 1 rfl) ?_
  obtain ⟨r1, h2, h⟩ := x_bnd h
  refine x_aci hI (x_runN (rest := []) F hI (mX6_isGuest l X (x_sh σ j u) _ a1 r1 h2) u_mln_X1_37 u_co_X6_isGuest u_ini_X6 u_st_X6_isGuest hd_X6_isGuest ⟨by decide, by decide⟩ ⟨rfl, rfl⟩ rfl hl.1 rfl (Nat.le_of_ble_eq_true rfl) dX1_rest_1 ⟨Nat.zero_le _, Nat.zero_le _⟩) (fun H locs hI => ?_)
  refine lv_if_eq (tgt := 21) hx hb dX1_rest_4 (by decide) (fun c3 => ?_) (fun c3 => ?_)
  · have h := x_ift h c3
    rw [x_some h]
    exact x_vret F hI dX1_rest_21
  · have h := x_iff h c3
    refine lv_aload_n hx hb dX1_rest_7 rfl (lv_at hl 0 rfl) ?_
    refine xg_1_0 F hI (x_inH hj (by decide)) u_fl_X1_9 dX1_rest_8 ?_
    refine lv_iload_n hx hb dX1_rest_11 rfl (lv_at hl 1 rfl) ?_
    refine lv_iconst (v := 0) hx hb dX1_rest_12 (by decide) ?_
    obtain ⟨g6, h⟩ := x_chk h
    refine xh_iast (n := 12) F hI (x_inH hj (by decide)) (fun _ => rfl) g6 dX1_rest_13 (fun H locs u4 e5 hI => ?_)
    have h := x_let_at h e5
    refine lv_aload_n hx hb dX1_rest_14 rfl (lv_at hl 0 rfl) ?_
    refine xg_1_1 F hI (x_inH hj (by decide)) u_fl_X1_15 dX1_rest_15 ?_
    refine lv_iload_n hx hb dX1_rest_18 rfl (lv_at hl 1 rfl) ?_
    refine lv_iconst (v := (-1)) hx hb dX1_rest_19 (by decide) ?_
    refine xh_iast (n := 12) F hI (x_inH hj (by decide)) (fun _ => rfl) g6 dX1_rest_20 (fun H locs u7 e8 hI => ?_)
    have h := x_let_at h e8
    rw [x_some h]
    exact x_vret F hI dX1_rest_21
abbrev rm_X1_heeds : Room := { frames := 1, cells := 0, slots := 0, locals := 20 }
def fX1_heeds (u : x_H) (a1 : Int32) (a2 : Int32) (a3 : Int32) : Option Int32 := (Option.bind (fX6_isGuest a1) fun r1 => (if r1 = 0 then some (0 : Int32) else (if x_in a1 12 then (if a3 = (u 7 (Int32.toNatClampNeg a1)) then (if (u 6 (Int32.toNatClampNeg a1)) = a2 then (if (u 5 (Int32.toNatClampNeg a1)) = (2 : Int32) then some (1 : Int32) else (if (u 5 (Int32.toNatClampNeg a1)) = (3 : Int32) then some (1 : Int32) else some (0 : Int32))) else some (0 : Int32)) else some (0 : Int32)) else none)))
set_option maxHeartbeats 4000000 in
set_option maxRecDepth 100000 in
theorem mX1_heeds (l : Launch) (X : x_T) (σ : x_S) (j : Nat) (hj : j < 10) (sz : Nat) (u : x_H) (a1 : Int32) (a2 : Int32) (a3 : Int32) (r : Int32) (h : fX1_heeds u a1 a2 a3 = some r) : Met l yX1_heeds (x_ws yX1_heeds cX1_heeds 4 (some .boolean)) rm_X1_heeds (x_Pc X (x_sh σ j u) sz [.ref (X.2.2 j 1), .int a1, .int a2, .int a3]) (x_Qi X r (x_sh σ j u) sz) 0 0 (x_A X sz) := by
  refine Met.ofW (cc := cX1_heeds) (maxL := 4) (ret := (some .boolean)) (by decide) rfl ?_
  intro p e s m args below meth c s₁ B hml hv
  obtain ⟨F, hI, rfl, rfl⟩ := x_begin B hml hv
  replace F : x_F p s m _ meth c cX1_heeds 4 RX1 (some .boolean) := F
  have hx := F.1
  have hb := F.2.1
  have hml := F.2.2.1
  have hown := F.2.2.2.1
  have hts := F.2.2.2.2.1
  refine x_entry (vs := [.ref (X.2.2 j 1), .int a1, .int a2, .int a3]) (n := 4) (Nat.le_of_ble_eq_true rfl) (fun ls hl => ?_)
  replace hl : lv_has ls 4 [(0, .ref (X.2.2 j 1)), (1, .int a1), (2, .int a2), (3, .int a3)] := hl
  unfold fX1_heeds at h
  refine lv_iload_n hx hb dX1_heeds_0 rfl (lv_at hl 1 rfl) ?_
  obtain ⟨r1, h2, h⟩ := x_bnd h
  refine x_aci hI (x_runN (rest := []) F hI (mX6_isGuest l X (x_sh σ j u) _ a1 r1 h2) u_mln_X1_37 u_co_X6_isGuest u_ini_X6 u_st_X6_isGuest hd_X6_isGuest ⟨by decide, by decide⟩ ⟨rfl, rfl⟩ rfl hl.1 rfl (Nat.le_of_ble_eq_true rfl) dX1_heeds_1 ⟨Nat.zero_le _, Nat.zero_le _⟩) (fun H locs hI => ?_)
  refine lv_if_eq (tgt := 51) hx hb dX1_heeds_4 (by decide) (fun c3 => ?_) (fun c3 => ?_)
  · have h := x_ift h c3
    refine lv_iconst (v := 0) hx hb dX1_heeds_51 (by decide) ?_
    rw [x_some h]
    exact x_zret (v := 0) F hI (by decide) dX1_heeds_52
  · have h := x_iff h c3
    refine lv_iload_n hx hb dX1_heeds_7 rfl (lv_at hl 3 rfl) ?_
    refine lv_aload_n hx hb dX1_heeds_8 rfl (lv_at hl 0 rfl) ?_
    refine xg_1_2 F hI (x_inH hj (by decide)) u_fl_X1_18 dX1_heeds_9 ?_
    refine lv_iload_n hx hb dX1_heeds_12 rfl (lv_at hl 1 rfl) ?_
    obtain ⟨g4, h⟩ := x_chk h
    refine xh_iald (n := 12) F hI (x_inH hj (by decide)) (fun _ => rfl) g4 dX1_heeds_13 ?_
    refine lv_icmp_ne (tgt := 51) hx hb dX1_heeds_14 (by decide) (fun c5 => ?_) (fun c5 => ?_)
    · have h := x_iff h c5
      refine lv_iconst (v := 0) hx hb dX1_heeds_51 (by decide) ?_
      rw [x_some h]
      exact x_zret (v := 0) F hI (by decide) dX1_heeds_52
    · have h := x_ift h c5
      refine lv_aload_n hx hb dX1_heeds_17 rfl (lv_at hl 0 rfl) ?_
      refine xg_1_1 F hI (x_inH hj (by decide)) u_fl_X1_15 dX1_heeds_18 ?_
      refine lv_iload_n hx hb dX1_heeds_21 rfl (lv_at hl 1 rfl) ?_
      refine xh_iald (n := 12) F hI (x_inH hj (by decide)) (fun _ => rfl) g4 dX1_heeds_22 ?_
      refine lv_iload_n hx hb dX1_heeds_23 rfl (lv_at hl 2 rfl) ?_
      refine lv_icmp_ne (tgt := 51) hx hb dX1_heeds_24 (by decide) (fun c6 => ?_) (fun c6 => ?_)
      · have h := x_iff h c6
        refine lv_iconst (v := 0) hx hb dX1_heeds_51 (by decide) ?_
        rw [x_some h]
        exact x_zret (v := 0) F hI (by decide) dX1_heeds_52
      · have h := x_ift h c6
        refine lv_aload_n hx hb dX1_heeds_27 rfl (lv_at hl 0 rfl) ?_
        refine xg_1_0 F hI (x_inH hj (by decide)) u_fl_X1_9 dX1_heeds_28 ?_
        refine lv_iload_n hx hb dX1_heeds_31 rfl (lv_at hl 1 rfl) ?_
        refine xh_iald (n := 12) F hI (x_inH hj (by decide)) (fun _ => rfl) g4 dX1_heeds_32 ?_
        refine lv_iconst (v := 2) hx hb dX1_heeds_33 (by decide) ?_
        refine lv_icmp_eq (tgt := 47) hx hb dX1_heeds_34 (by decide) (fun c7 => ?_) (fun c7 => ?_)
        · have h := x_ift h c7
          refine lv_iconst (v := 1) hx hb dX1_heeds_47 (by decide) ?_
          refine lv_goto (tgt := 52) hx hb dX1_heeds_48 (by decide) ?_
          rw [x_some h]
          exact x_zret (v := 1) F hI (by decide) dX1_heeds_52
        · have h := x_iff h c7
          refine lv_aload_n hx hb dX1_heeds_37 rfl (lv_at hl 0 rfl) ?_
          refine xg_1_0 F hI (x_inH hj (by decide)) u_fl_X1_9 dX1_heeds_38 ?_
          refine lv_iload_n hx hb dX1_heeds_41 rfl (lv_at hl 1 rfl) ?_
          refine xh_iald (n := 12) F hI (x_inH hj (by decide)) (fun _ => rfl) g4 dX1_heeds_42 ?_
          refine lv_iconst (v := 3) hx hb dX1_heeds_43 (by decide) ?_
          refine lv_icmp_ne (tgt := 51) hx hb dX1_heeds_44 (by decide) (fun c8 => ?_) (fun c8 => ?_)
          · have h := x_iff h c8
            refine lv_iconst (v := 0) hx hb dX1_heeds_51 (by decide) ?_
            rw [x_some h]
            exact x_zret (v := 0) F hI (by decide) dX1_heeds_52
          · have h := x_ift h c8
            refine lv_iconst (v := 1) hx hb dX1_heeds_47 (by decide) ?_
            refine lv_goto (tgt := 52) hx hb dX1_heeds_48 (by decide) ?_
            rw [x_some h]
            exact x_zret (v := 1) F hI (by decide) dX1_heeds_52
abbrev rm_X1_take : Room := { frames := 1, cells := 0, slots := 0, locals := 20 }
def fX1_take_j28 (u : x_H) (y1 : Int32) (y2 : Int32) : Option x_H := (if x_in y1 12 then x_let (x_hu u 5 (Int32.toNatClampNeg y1) (3 : Int32)) fun u8 => x_let (x_hu u8 9 (Int32.toNatClampNeg y1) (u8 8 (Int32.toNatClampNeg y1))) fun u11 => x_let (x_hu u11 10 (Int32.toNatClampNeg y1) y2) fun u13 => some (u13) else none)
set_option maxHeartbeats 4000000 in
set_option maxRecDepth 100000 in
theorem wX1_take_j28 {p : Program} {l : Launch} {e : Env} {s : State} {m : MethodId} {args : Array Value} {below : List Frame} {meth : Method} {c : Code} {X : x_T} {σ : x_S} {r : x_H} {j : Nat} (hj : j < 10) (F : x_F p s m args meth c cX1_take 3 RX1 none) (u : x_H) (y1 : Int32) (y2 : Int32) (H : Heap) (locs : List Loc) (ls : Array Slot) (h : fX1_take_j28 u y1 y2 = some r) (hI : x_I X (x_sh σ j u) s H locs) (hl : lv_has ls 3 [(0, .ref (X.2.2 j 1)), (1, .int y1), (2, .int y2)]) : W p l e rm_X1_take s m args below meth c H locs 0 0 (MQ below (x_Qv X (x_sh σ j r) s.heap.size) args s 0 0 (x_A X s.heap.size)) (F0 m 28 ls []) := by
  have hx := F.1
  have hb := F.2.1
  have hml := F.2.2.1
  have hown := F.2.2.2.1
  have hts := F.2.2.2.2.1
  unfold fX1_take_j28 at h
  refine lv_aload_n hx hb dX1_take_28 rfl (lv_at hl 0 rfl) ?_
  refine xg_1_0 F hI (x_inH hj (by decide)) u_fl_X1_9 dX1_take_29 ?_
  refine lv_iload_n hx hb dX1_take_32 rfl (lv_at hl 1 rfl) ?_
  refine lv_iconst (v := 3) hx hb dX1_take_33 (by decide) ?_
  obtain ⟨g10, h⟩ := x_chk h
  refine xh_iast (n := 12) F hI (x_inH hj (by decide)) (fun _ => rfl) g10 dX1_take_34 (fun H locs u8 e9 hI => ?_)
  have h := x_let_at h e9
  refine lv_aload_n hx hb dX1_take_35 rfl (lv_at hl 0 rfl) ?_
  refine xg_1_4 F hI (x_inH hj (by decide)) u_fl_X1_24 dX1_take_36 ?_
  refine lv_iload_n hx hb dX1_take_39 rfl (lv_at hl 1 rfl) ?_
  refine lv_aload_n hx hb dX1_take_40 rfl (lv_at hl 0 rfl) ?_
  refine xg_1_3 F hI (x_inH hj (by decide)) u_fl_X1_21 dX1_take_41 ?_
  refine lv_iload_n hx hb dX1_take_44 rfl (lv_at hl 1 rfl) ?_
  refine xh_iald (n := 12) F hI (x_inH hj (by decide)) (fun _ => rfl) g10 dX1_take_45 ?_
  refine xh_iast (n := 12) F hI (x_inH hj (by decide)) (fun _ => rfl) g10 dX1_take_46 (fun H locs u11 e12 hI => ?_)
  have h := x_let_at h e12
  refine lv_aload_n hx hb dX1_take_47 rfl (lv_at hl 0 rfl) ?_
  refine xg_1_5 F hI (x_inH hj (by decide)) u_fl_X1_27 dX1_take_48 ?_
  refine lv_iload_n hx hb dX1_take_51 rfl (lv_at hl 1 rfl) ?_
  refine lv_iload_n hx hb dX1_take_52 rfl (lv_at hl 2 rfl) ?_
  refine xh_iast (n := 12) F hI (x_inH hj (by decide)) (fun _ => rfl) g10 dX1_take_53 (fun H locs u13 e14 hI => ?_)
  have h := x_let_at h e14
  rw [x_some h]
  exact x_vret F hI dX1_take_54
def fX1_take (u : x_H) (a1 : Int32) (a2 : Int32) : Option x_H := (Option.bind (fX6_isGuest a1) fun r1 => (if r1 = 0 then some (u) else (if x_in a1 12 then (if (u 5 (Int32.toNatClampNeg a1)) = (2 : Int32) then x_let (x_hu u 11 (Int32.toNatClampNeg a1) ((u 11 (Int32.toNatClampNeg a1)) + (1 : Int32))) fun u6 => fX1_take_j28 u6 a1 a2 else fX1_take_j28 u a1 a2) else none)))
set_option maxHeartbeats 4000000 in
set_option maxRecDepth 100000 in
theorem mX1_take (l : Launch) (X : x_T) (σ : x_S) (j : Nat) (hj : j < 10) (sz : Nat) (u : x_H) (a1 : Int32) (a2 : Int32) (r : x_H) (h : fX1_take u a1 a2 = some r) : Met l yX1_take (x_ws yX1_take cX1_take 3 none) rm_X1_take (x_Pc X (x_sh σ j u) sz [.ref (X.2.2 j 1), .int a1, .int a2]) (x_Qv X (x_sh σ j r) sz) 0 0 (x_A X sz) := by
  refine Met.ofW (cc := cX1_take) (maxL := 3) (ret := none) (by decide) rfl ?_
  intro p e s m args below meth c s₁ B hml hv
  obtain ⟨F, hI, rfl, rfl⟩ := x_begin B hml hv
  replace F : x_F p s m _ meth c cX1_take 3 RX1 none := F
  have hx := F.1
  have hb := F.2.1
  have hml := F.2.2.1
  have hown := F.2.2.2.1
  have hts := F.2.2.2.2.1
  refine x_entry (vs := [.ref (X.2.2 j 1), .int a1, .int a2]) (n := 3) (Nat.le_of_ble_eq_true rfl) (fun ls hl => ?_)
  replace hl : lv_has ls 3 [(0, .ref (X.2.2 j 1)), (1, .int a1), (2, .int a2)] := hl
  unfold fX1_take at h
  refine lv_iload_n hx hb dX1_take_0 rfl (lv_at hl 1 rfl) ?_
  obtain ⟨r1, h2, h⟩ := x_bnd h
  refine x_aci hI (x_runN (rest := []) F hI (mX6_isGuest l X (x_sh σ j u) _ a1 r1 h2) u_mln_X1_37 u_co_X6_isGuest u_ini_X6 u_st_X6_isGuest hd_X6_isGuest ⟨by decide, by decide⟩ ⟨rfl, rfl⟩ rfl hl.1 rfl (Nat.le_of_ble_eq_true rfl) dX1_take_1 ⟨Nat.zero_le _, Nat.zero_le _⟩) (fun H locs hI => ?_)
  refine lv_if_ne (tgt := 8) hx hb dX1_take_4 (by decide) (fun c3 => ?_) (fun c3 => ?_)
  · have h := x_iff h c3
    refine lv_aload_n hx hb dX1_take_8 rfl (lv_at hl 0 rfl) ?_
    refine xg_1_0 F hI (x_inH hj (by decide)) u_fl_X1_9 dX1_take_9 ?_
    refine lv_iload_n hx hb dX1_take_12 rfl (lv_at hl 1 rfl) ?_
    obtain ⟨g4, h⟩ := x_chk h
    refine xh_iald (n := 12) F hI (x_inH hj (by decide)) (fun _ => rfl) g4 dX1_take_13 ?_
    refine lv_iconst (v := 2) hx hb dX1_take_14 (by decide) ?_
    refine lv_icmp_ne (tgt := 28) hx hb dX1_take_15 (by decide) (fun c5 => ?_) (fun c5 => ?_)
    · have h := x_iff h c5
      exact wX1_take_j28 hj F u a1 a2 _ _ _ h hI (lv_sub hl [0, 1, 2] rfl)
    · have h := x_ift h c5
      refine lv_aload_n hx hb dX1_take_18 rfl (lv_at hl 0 rfl) ?_
      refine xg_1_6 F hI (x_inH hj (by decide)) u_fl_X1_30 dX1_take_19 ?_
      refine lv_iload_n hx hb dX1_take_22 rfl (lv_at hl 1 rfl) ?_
      refine lv_dup2_11 hx hb dX1_take_23 rfl rfl ?_
      refine xh_iald (n := 12) F hI (x_inH hj (by decide)) (fun _ => rfl) g4 dX1_take_24 ?_
      refine lv_iconst (v := 1) hx hb dX1_take_25 (by decide) ?_
      refine lv_iadd hx hb dX1_take_26 ?_
      refine xh_iast (n := 12) F hI (x_inH hj (by decide)) (fun _ => rfl) g4 dX1_take_27 (fun H locs u6 e7 hI => ?_)
      have h := x_let_at h e7
      exact wX1_take_j28 hj F u6 a1 a2 _ _ _ h hI (lv_sub hl [0, 1, 2] rfl)
  · have h := x_ift h c3
    rw [x_some h]
    exact x_vret F hI dX1_take_7
abbrev rm_X1_ticksUntilEnd : Room := { frames := 1, cells := 0, slots := 0, locals := 21 }
def fX1_ticksUntilEnd (u : x_H) (a1 : Int32) (a2 : Int32) : Option Int32 := (Option.bind (fX6_isGuest a1) fun r1 => (if r1 = 0 then some (0 : Int32) else (if x_in a1 12 then (if (u 5 (Int32.toNatClampNeg a1)) = (3 : Int32) then some (if (0 : Int32) < (((u 9 (Int32.toNatClampNeg a1)) + (u 10 (Int32.toNatClampNeg a1))) - a2) then (((u 9 (Int32.toNatClampNeg a1)) + (u 10 (Int32.toNatClampNeg a1))) - a2) else (0 : Int32)) else some (0 : Int32)) else none)))
set_option maxHeartbeats 4000000 in
set_option maxRecDepth 100000 in
theorem mX1_ticksUntilEnd (l : Launch) (X : x_T) (σ : x_S) (j : Nat) (hj : j < 10) (sz : Nat) (u : x_H) (a1 : Int32) (a2 : Int32) (r : Int32) (h : fX1_ticksUntilEnd u a1 a2 = some r) : Met l yX1_ticksUntilEnd (x_ws yX1_ticksUntilEnd cX1_ticksUntilEnd 3 (some .int)) rm_X1_ticksUntilEnd (x_Pc X (x_sh σ j u) sz [.ref (X.2.2 j 1), .int a1, .int a2]) (x_Qi X r (x_sh σ j u) sz) 0 0 (x_A X sz) := by
  refine Met.ofW (cc := cX1_ticksUntilEnd) (maxL := 3) (ret := (some .int)) (by decide) rfl ?_
  intro p e s m args below meth c s₁ B hml hv
  obtain ⟨F, hI, rfl, rfl⟩ := x_begin B hml hv
  replace F : x_F p s m _ meth c cX1_ticksUntilEnd 3 RX1 (some .int) := F
  have hx := F.1
  have hb := F.2.1
  have hml := F.2.2.1
  have hown := F.2.2.2.1
  have hts := F.2.2.2.2.1
  refine x_entry (vs := [.ref (X.2.2 j 1), .int a1, .int a2]) (n := 3) (Nat.le_of_ble_eq_true rfl) (fun ls hl => ?_)
  replace hl : lv_has ls 3 [(0, .ref (X.2.2 j 1)), (1, .int a1), (2, .int a2)] := hl
  unfold fX1_ticksUntilEnd at h
  refine lv_iload_n hx hb dX1_ticksUntilEnd_0 rfl (lv_at hl 1 rfl) ?_
  obtain ⟨r1, h2, h⟩ := x_bnd h
  refine x_aci hI (x_runN (rest := []) F hI (mX6_isGuest l X (x_sh σ j u) _ a1 r1 h2) u_mln_X1_37 u_co_X6_isGuest u_ini_X6 u_st_X6_isGuest hd_X6_isGuest ⟨by decide, by decide⟩ ⟨rfl, rfl⟩ rfl hl.1 rfl (Nat.le_of_ble_eq_true rfl) dX1_ticksUntilEnd_1 ⟨Nat.zero_le _, Nat.zero_le _⟩) (fun H locs hI => ?_)
  refine lv_if_eq (tgt := 17) hx hb dX1_ticksUntilEnd_4 (by decide) (fun c3 => ?_) (fun c3 => ?_)
  · have h := x_ift h c3
    refine lv_iconst (v := 0) hx hb dX1_ticksUntilEnd_17 (by decide) ?_
    rw [x_some h]
    exact x_iret F hI dX1_ticksUntilEnd_18
  · have h := x_iff h c3
    refine lv_aload_n hx hb dX1_ticksUntilEnd_7 rfl (lv_at hl 0 rfl) ?_
    refine xg_1_0 F hI (x_inH hj (by decide)) u_fl_X1_9 dX1_ticksUntilEnd_8 ?_
    refine lv_iload_n hx hb dX1_ticksUntilEnd_11 rfl (lv_at hl 1 rfl) ?_
    obtain ⟨g4, h⟩ := x_chk h
    refine xh_iald (n := 12) F hI (x_inH hj (by decide)) (fun _ => rfl) g4 dX1_ticksUntilEnd_12 ?_
    refine lv_iconst (v := 3) hx hb dX1_ticksUntilEnd_13 (by decide) ?_
    refine lv_icmp_eq (tgt := 19) hx hb dX1_ticksUntilEnd_14 (by decide) (fun c5 => ?_) (fun c5 => ?_)
    · have h := x_ift h c5
      refine lv_iconst (v := 0) hx hb dX1_ticksUntilEnd_19 (by decide) ?_
      refine lv_aload_n hx hb dX1_ticksUntilEnd_20 rfl (lv_at hl 0 rfl) ?_
      refine xg_1_4 F hI (x_inH hj (by decide)) u_fl_X1_24 dX1_ticksUntilEnd_21 ?_
      refine lv_iload_n hx hb dX1_ticksUntilEnd_24 rfl (lv_at hl 1 rfl) ?_
      refine xh_iald (n := 12) F hI (x_inH hj (by decide)) (fun _ => rfl) g4 dX1_ticksUntilEnd_25 ?_
      refine lv_aload_n hx hb dX1_ticksUntilEnd_26 rfl (lv_at hl 0 rfl) ?_
      refine xg_1_5 F hI (x_inH hj (by decide)) u_fl_X1_27 dX1_ticksUntilEnd_27 ?_
      refine lv_iload_n hx hb dX1_ticksUntilEnd_30 rfl (lv_at hl 1 rfl) ?_
      refine xh_iald (n := 12) F hI (x_inH hj (by decide)) (fun _ => rfl) g4 dX1_ticksUntilEnd_31 ?_
      refine lv_iadd hx hb dX1_ticksUntilEnd_32 ?_
      refine lv_iload_n hx hb dX1_ticksUntilEnd_33 rfl (lv_at hl 2 rfl) ?_
      refine lv_isub hx hb dX1_ticksUntilEnd_34 ?_
      refine va_mmax hx hb (hml.trans hl.1.symm) hown (hts _ u_ml_X1_41) (hts _ u_st_java_lang_Mathmax) (hts _ u_ini_java_lang_Math) (hts _ u_co_java_lang_Mathmax) (by decide) (Nat.le_of_ble_eq_true rfl) (Nat.zero_le _) (Nat.zero_le _) dX1_ticksUntilEnd_35 ?_
      rw [x_some h]
      exact x_iret F hI dX1_ticksUntilEnd_38
    · have h := x_iff h c5
      refine lv_iconst (v := 0) hx hb dX1_ticksUntilEnd_17 (by decide) ?_
      rw [x_some h]
      exact x_iret F hI dX1_ticksUntilEnd_18
abbrev rm_X1_earlyAsking : Room := { frames := 0, cells := 0, slots := 0, locals := 0 }
def fX1_earlyAsking (u : x_H) (a1 : Int32) : Option Int32 := (if x_in a1 12 then some ((u 10 (Int32.toNatClampNeg a1)) / (2 : Int32)) else none)
set_option maxHeartbeats 4000000 in
set_option maxRecDepth 100000 in
theorem mX1_earlyAsking (l : Launch) (X : x_T) (σ : x_S) (j : Nat) (hj : j < 10) (sz : Nat) (u : x_H) (a1 : Int32) (r : Int32) (h : fX1_earlyAsking u a1 = some r) : Met l yX1_earlyAsking (x_ws yX1_earlyAsking cX1_earlyAsking 2 (some .int)) rm_X1_earlyAsking (x_Pc X (x_sh σ j u) sz [.ref (X.2.2 j 1), .int a1]) (x_Qi X r (x_sh σ j u) sz) 0 0 (x_A X sz) := by
  refine Met.ofW (cc := cX1_earlyAsking) (maxL := 2) (ret := (some .int)) (by decide) rfl ?_
  intro p e s m args below meth c s₁ B hml hv
  obtain ⟨F, hI, rfl, rfl⟩ := x_begin B hml hv
  replace F : x_F p s m _ meth c cX1_earlyAsking 2 RX1 (some .int) := F
  have hx := F.1
  have hb := F.2.1
  have hml := F.2.2.1
  have hown := F.2.2.2.1
  have hts := F.2.2.2.2.1
  refine x_entry (vs := [.ref (X.2.2 j 1), .int a1]) (n := 2) (Nat.le_of_ble_eq_true rfl) (fun ls hl => ?_)
  replace hl : lv_has ls 2 [(0, .ref (X.2.2 j 1)), (1, .int a1)] := hl
  unfold fX1_earlyAsking at h
  refine lv_aload_n hx hb dX1_earlyAsking_0 rfl (lv_at hl 0 rfl) ?_
  refine xg_1_5 F hI (x_inH hj (by decide)) u_fl_X1_27 dX1_earlyAsking_1 ?_
  refine lv_iload_n hx hb dX1_earlyAsking_4 rfl (lv_at hl 1 rfl) ?_
  obtain ⟨g1, h⟩ := x_chk h
  refine xh_iald (n := 12) F hI (x_inH hj (by decide)) (fun _ => rfl) g1 dX1_earlyAsking_5 ?_
  refine lv_iconst (v := 2) hx hb dX1_earlyAsking_6 (by decide) ?_
  refine lv_idiv hx hb dX1_earlyAsking_7 (by decide) ?_
  rw [x_some h]
  exact x_iret F hI dX1_earlyAsking_8
abbrev rm_X1_lateAsking : Room := { frames := 0, cells := 0, slots := 0, locals := 0 }
def fX1_lateAsking (u : x_H) (a1 : Int32) : Option Int32 := (if x_in a1 12 then some (((u 10 (Int32.toNatClampNeg a1)) * (7 : Int32)) / (8 : Int32)) else none)
set_option maxHeartbeats 4000000 in
set_option maxRecDepth 100000 in
theorem mX1_lateAsking (l : Launch) (X : x_T) (σ : x_S) (j : Nat) (hj : j < 10) (sz : Nat) (u : x_H) (a1 : Int32) (r : Int32) (h : fX1_lateAsking u a1 = some r) : Met l yX1_lateAsking (x_ws yX1_lateAsking cX1_lateAsking 2 (some .int)) rm_X1_lateAsking (x_Pc X (x_sh σ j u) sz [.ref (X.2.2 j 1), .int a1]) (x_Qi X r (x_sh σ j u) sz) 0 0 (x_A X sz) := by
  refine Met.ofW (cc := cX1_lateAsking) (maxL := 2) (ret := (some .int)) (by decide) rfl ?_
  intro p e s m args below meth c s₁ B hml hv
  obtain ⟨F, hI, rfl, rfl⟩ := x_begin B hml hv
  replace F : x_F p s m _ meth c cX1_lateAsking 2 RX1 (some .int) := F
  have hx := F.1
  have hb := F.2.1
  have hml := F.2.2.1
  have hown := F.2.2.2.1
  have hts := F.2.2.2.2.1
  refine x_entry (vs := [.ref (X.2.2 j 1), .int a1]) (n := 2) (Nat.le_of_ble_eq_true rfl) (fun ls hl => ?_)
  replace hl : lv_has ls 2 [(0, .ref (X.2.2 j 1)), (1, .int a1)] := hl
  unfold fX1_lateAsking at h
  refine lv_aload_n hx hb dX1_lateAsking_0 rfl (lv_at hl 0 rfl) ?_
  refine xg_1_5 F hI (x_inH hj (by decide)) u_fl_X1_27 dX1_lateAsking_1 ?_
  refine lv_iload_n hx hb dX1_lateAsking_4 rfl (lv_at hl 1 rfl) ?_
  obtain ⟨g1, h⟩ := x_chk h
  refine xh_iald (n := 12) F hI (x_inH hj (by decide)) (fun _ => rfl) g1 dX1_lateAsking_5 ?_
  refine lv_bipush (v := 7) hx hb dX1_lateAsking_6 (by decide) ?_
  refine lv_imul hx hb dX1_lateAsking_8 ?_
  refine lv_bipush (v := 8) hx hb dX1_lateAsking_9 (by decide) ?_
  refine lv_idiv hx hb dX1_lateAsking_11 (by decide) ?_
  rw [x_some h]
  exact x_iret F hI dX1_lateAsking_12
abbrev rm_X1_ticksUntilAsking : Room := { frames := 1, cells := 0, slots := 0, locals := 21 }
def fX1_ticksUntilAsking (u : x_H) (a1 : Int32) (a2 : Int32) : Option Int32 := (Option.bind (fX6_isGuest a1) fun r1 => (if r1 = 0 then some (0 : Int32) else (if x_in a1 12 then (if (u 5 (Int32.toNatClampNeg a1)) = (3 : Int32) then x_let (a2 - (u 9 (Int32.toNatClampNeg a1))) fun x6 => (Option.bind (fX1_earlyAsking u a1) fun r8 => (if r8 ≤ x6 then (Option.bind (fX1_lateAsking u a1) fun r11 => some (if (0 : Int32) < (r11 - x6) then (r11 - x6) else (0 : Int32))) else some (if (0 : Int32) < (r8 - x6) then (r8 - x6) else (0 : Int32)))) else some (0 : Int32)) else none)))
set_option maxHeartbeats 4000000 in
set_option maxRecDepth 100000 in
theorem mX1_ticksUntilAsking (l : Launch) (X : x_T) (σ : x_S) (j : Nat) (hj : j < 10) (sz : Nat) (u : x_H) (a1 : Int32) (a2 : Int32) (r : Int32) (h : fX1_ticksUntilAsking u a1 a2 = some r) : Met l yX1_ticksUntilAsking (x_ws yX1_ticksUntilAsking cX1_ticksUntilAsking 5 (some .int)) rm_X1_ticksUntilAsking (x_Pc X (x_sh σ j u) sz [.ref (X.2.2 j 1), .int a1, .int a2]) (x_Qi X r (x_sh σ j u) sz) 0 0 (x_A X sz) := by
  refine Met.ofW (cc := cX1_ticksUntilAsking) (maxL := 5) (ret := (some .int)) (by decide) rfl ?_
  intro p e s m args below meth c s₁ B hml hv
  obtain ⟨F, hI, rfl, rfl⟩ := x_begin B hml hv
  replace F : x_F p s m _ meth c cX1_ticksUntilAsking 5 RX1 (some .int) := F
  have hx := F.1
  have hb := F.2.1
  have hml := F.2.2.1
  have hown := F.2.2.2.1
  have hts := F.2.2.2.2.1
  refine x_entry (vs := [.ref (X.2.2 j 1), .int a1, .int a2]) (n := 5) (Nat.le_of_ble_eq_true rfl) (fun ls hl => ?_)
  replace hl : lv_has ls 5 [(0, .ref (X.2.2 j 1)), (1, .int a1), (2, .int a2)] := hl
  unfold fX1_ticksUntilAsking at h
  refine lv_iload_n hx hb dX1_ticksUntilAsking_0 rfl (lv_at hl 1 rfl) ?_
  obtain ⟨r1, h2, h⟩ := x_bnd h
  refine x_aci hI (x_runN (rest := []) F hI (mX6_isGuest l X (x_sh σ j u) _ a1 r1 h2) u_mln_X1_37 u_co_X6_isGuest u_ini_X6 u_st_X6_isGuest hd_X6_isGuest ⟨by decide, by decide⟩ ⟨rfl, rfl⟩ rfl hl.1 rfl (Nat.le_of_ble_eq_true rfl) dX1_ticksUntilAsking_1 ⟨Nat.zero_le _, Nat.zero_le _⟩) (fun H locs hI => ?_)
  refine lv_if_eq (tgt := 17) hx hb dX1_ticksUntilAsking_4 (by decide) (fun c3 => ?_) (fun c3 => ?_)
  · have h := x_ift h c3
    refine lv_iconst (v := 0) hx hb dX1_ticksUntilAsking_17 (by decide) ?_
    rw [x_some h]
    exact x_iret F hI dX1_ticksUntilAsking_18
  · have h := x_iff h c3
    refine lv_aload_n hx hb dX1_ticksUntilAsking_7 rfl (lv_at hl 0 rfl) ?_
    refine xg_1_0 F hI (x_inH hj (by decide)) u_fl_X1_9 dX1_ticksUntilAsking_8 ?_
    refine lv_iload_n hx hb dX1_ticksUntilAsking_11 rfl (lv_at hl 1 rfl) ?_
    obtain ⟨g4, h⟩ := x_chk h
    refine xh_iald (n := 12) F hI (x_inH hj (by decide)) (fun _ => rfl) g4 dX1_ticksUntilAsking_12 ?_
    refine lv_iconst (v := 3) hx hb dX1_ticksUntilAsking_13 (by decide) ?_
    refine lv_icmp_eq (tgt := 19) hx hb dX1_ticksUntilAsking_14 (by decide) (fun c5 => ?_) (fun c5 => ?_)
    · have h := x_ift h c5
      refine lv_iload_n hx hb dX1_ticksUntilAsking_19 rfl (lv_at hl 2 rfl) ?_
      refine lv_aload_n hx hb dX1_ticksUntilAsking_20 rfl (lv_at hl 0 rfl) ?_
      refine xg_1_4 F hI (x_inH hj (by decide)) u_fl_X1_24 dX1_ticksUntilAsking_21 ?_
      refine lv_iload_n hx hb dX1_ticksUntilAsking_24 rfl (lv_at hl 1 rfl) ?_
      refine xh_iald (n := 12) F hI (x_inH hj (by decide)) (fun _ => rfl) g4 dX1_ticksUntilAsking_25 ?_
      refine lv_isub hx hb dX1_ticksUntilAsking_26 ?_
      refine lv_topi (fun x6 e7 => ?_)
      have h := x_let_at h e7
      refine lv_istore_n (lv' := [(3, .int x6), (0, .ref (X.2.2 j 1)), (1, .int a1), (2, .int a2)]) hx hb dX1_ticksUntilAsking_27 rfl hl (by decide) rfl (fun ls hl => ?_)
      refine lv_aload_n hx hb dX1_ticksUntilAsking_28 rfl (lv_at hl 1 rfl) ?_
      refine lv_iload_n hx hb dX1_ticksUntilAsking_29 rfl (lv_at hl 2 rfl) ?_
      obtain ⟨r8, h9, h⟩ := x_bnd h
      refine x_aci hI (x_runV (rest := []) F hI (mX1_earlyAsking l X σ j hj _ u a1 r8 h9) g_X1_47 ⟨rfl, hd_X1_earlyAsking⟩ ⟨by decide, by decide⟩ ⟨rfl, rfl⟩ (x_inH hj (by decide)) rfl rfl rfl rfl hl.1 rfl (Nat.le_of_ble_eq_true rfl) dX1_ticksUntilAsking_30 ⟨Nat.zero_le _, Nat.zero_le _⟩) (fun H locs hI => ?_)
      refine lv_istore (lv' := [(4, .int r8), (3, .int x6), (0, .ref (X.2.2 j 1)), (1, .int a1), (2, .int a2)]) hx hb dX1_ticksUntilAsking_33 hl (by decide) rfl (fun ls hl => ?_)
      refine lv_iconst (v := 0) hx hb dX1_ticksUntilAsking_35 (by decide) ?_
      refine lv_iload_n hx hb dX1_ticksUntilAsking_36 rfl (lv_at hl 1 rfl) ?_
      refine lv_iload hx hb dX1_ticksUntilAsking_37 (lv_at hl 0 rfl) ?_
      refine lv_icmp_ge (tgt := 49) hx hb dX1_ticksUntilAsking_39 (by decide) (fun c10 => ?_) (fun c10 => ?_)
      · have h := x_ift h c10
        refine lv_aload_n hx hb dX1_ticksUntilAsking_49 rfl (lv_at hl 2 rfl) ?_
        refine lv_iload_n hx hb dX1_ticksUntilAsking_50 rfl (lv_at hl 3 rfl) ?_
        obtain ⟨r11, h12, h⟩ := x_bnd h
        refine x_aci hI (x_runV (rest := [.int (0)]) F hI (mX1_lateAsking l X σ j hj _ u a1 r11 h12) g_X1_51 ⟨rfl, hd_X1_lateAsking⟩ ⟨by decide, by decide⟩ ⟨rfl, rfl⟩ (x_inH hj (by decide)) rfl rfl rfl rfl hl.1 rfl (Nat.le_of_ble_eq_true rfl) dX1_ticksUntilAsking_51 ⟨Nat.zero_le _, Nat.zero_le _⟩) (fun H locs hI => ?_)
        refine lv_iload_n hx hb dX1_ticksUntilAsking_54 rfl (lv_at hl 1 rfl) ?_
        refine lv_isub hx hb dX1_ticksUntilAsking_55 ?_
        refine va_mmax hx hb (hml.trans hl.1.symm) hown (hts _ u_ml_X1_41) (hts _ u_st_java_lang_Mathmax) (hts _ u_ini_java_lang_Math) (hts _ u_co_java_lang_Mathmax) (by decide) (Nat.le_of_ble_eq_true rfl) (Nat.zero_le _) (Nat.zero_le _) dX1_ticksUntilAsking_56 ?_
        rw [x_some h]
        exact x_iret F hI dX1_ticksUntilAsking_59
      · have h := x_iff h c10
        refine lv_iload hx hb dX1_ticksUntilAsking_42 (lv_at hl 0 rfl) ?_
        refine lv_iload_n hx hb dX1_ticksUntilAsking_44 rfl (lv_at hl 1 rfl) ?_
        refine lv_isub hx hb dX1_ticksUntilAsking_45 ?_
        refine lv_goto (tgt := 56) hx hb dX1_ticksUntilAsking_46 (by decide) ?_
        refine va_mmax hx hb (hml.trans hl.1.symm) hown (hts _ u_ml_X1_41) (hts _ u_st_java_lang_Mathmax) (hts _ u_ini_java_lang_Math) (hts _ u_co_java_lang_Mathmax) (by decide) (Nat.le_of_ble_eq_true rfl) (Nat.zero_le _) (Nat.zero_le _) dX1_ticksUntilAsking_56 ?_
        rw [x_some h]
        exact x_iret F hI dX1_ticksUntilAsking_59
    · have h := x_iff h c5
      refine lv_iconst (v := 0) hx hb dX1_ticksUntilAsking_17 (by decide) ?_
      rw [x_some h]
      exact x_iret F hI dX1_ticksUntilAsking_18
abbrev rm_X1_asksAt : Room := { frames := 1, cells := 0, slots := 0, locals := 21 }
def fX1_asksAt (u : x_H) (a1 : Int32) (a2 : Int32) : Option Int32 := (Option.bind (fX6_isGuest a1) fun r1 => (if r1 = 0 then some (0 : Int32) else (if x_in a1 12 then (if (u 5 (Int32.toNatClampNeg a1)) = (3 : Int32) then x_let (a2 - (u 9 (Int32.toNatClampNeg a1))) fun x6 => (Option.bind (fX1_earlyAsking u a1) fun r8 => (if x6 = r8 then some (1 : Int32) else (Option.bind (fX1_lateAsking u a1) fun r11 => (if x6 = r11 then some (1 : Int32) else some (0 : Int32))))) else some (0 : Int32)) else none)))
set_option maxHeartbeats 4000000 in
set_option maxRecDepth 100000 in
theorem mX1_asksAt (l : Launch) (X : x_T) (σ : x_S) (j : Nat) (hj : j < 10) (sz : Nat) (u : x_H) (a1 : Int32) (a2 : Int32) (r : Int32) (h : fX1_asksAt u a1 a2 = some r) : Met l yX1_asksAt (x_ws yX1_asksAt cX1_asksAt 4 (some .boolean)) rm_X1_asksAt (x_Pc X (x_sh σ j u) sz [.ref (X.2.2 j 1), .int a1, .int a2]) (x_Qi X r (x_sh σ j u) sz) 0 0 (x_A X sz) := by
  refine Met.ofW (cc := cX1_asksAt) (maxL := 4) (ret := (some .boolean)) (by decide) rfl ?_
  intro p e s m args below meth c s₁ B hml hv
  obtain ⟨F, hI, rfl, rfl⟩ := x_begin B hml hv
  replace F : x_F p s m _ meth c cX1_asksAt 4 RX1 (some .boolean) := F
  have hx := F.1
  have hb := F.2.1
  have hml := F.2.2.1
  have hown := F.2.2.2.1
  have hts := F.2.2.2.2.1
  refine x_entry (vs := [.ref (X.2.2 j 1), .int a1, .int a2]) (n := 4) (Nat.le_of_ble_eq_true rfl) (fun ls hl => ?_)
  replace hl : lv_has ls 4 [(0, .ref (X.2.2 j 1)), (1, .int a1), (2, .int a2)] := hl
  unfold fX1_asksAt at h
  refine lv_iload_n hx hb dX1_asksAt_0 rfl (lv_at hl 1 rfl) ?_
  obtain ⟨r1, h2, h⟩ := x_bnd h
  refine x_aci hI (x_runN (rest := []) F hI (mX6_isGuest l X (x_sh σ j u) _ a1 r1 h2) u_mln_X1_37 u_co_X6_isGuest u_ini_X6 u_st_X6_isGuest hd_X6_isGuest ⟨by decide, by decide⟩ ⟨rfl, rfl⟩ rfl hl.1 rfl (Nat.le_of_ble_eq_true rfl) dX1_asksAt_1 ⟨Nat.zero_le _, Nat.zero_le _⟩) (fun H locs hI => ?_)
  refine lv_if_eq (tgt := 17) hx hb dX1_asksAt_4 (by decide) (fun c3 => ?_) (fun c3 => ?_)
  · have h := x_ift h c3
    refine lv_iconst (v := 0) hx hb dX1_asksAt_17 (by decide) ?_
    rw [x_some h]
    exact x_zret (v := 0) F hI (by decide) dX1_asksAt_18
  · have h := x_iff h c3
    refine lv_aload_n hx hb dX1_asksAt_7 rfl (lv_at hl 0 rfl) ?_
    refine xg_1_0 F hI (x_inH hj (by decide)) u_fl_X1_9 dX1_asksAt_8 ?_
    refine lv_iload_n hx hb dX1_asksAt_11 rfl (lv_at hl 1 rfl) ?_
    obtain ⟨g4, h⟩ := x_chk h
    refine xh_iald (n := 12) F hI (x_inH hj (by decide)) (fun _ => rfl) g4 dX1_asksAt_12 ?_
    refine lv_iconst (v := 3) hx hb dX1_asksAt_13 (by decide) ?_
    refine lv_icmp_eq (tgt := 19) hx hb dX1_asksAt_14 (by decide) (fun c5 => ?_) (fun c5 => ?_)
    · have h := x_ift h c5
      refine lv_iload_n hx hb dX1_asksAt_19 rfl (lv_at hl 2 rfl) ?_
      refine lv_aload_n hx hb dX1_asksAt_20 rfl (lv_at hl 0 rfl) ?_
      refine xg_1_4 F hI (x_inH hj (by decide)) u_fl_X1_24 dX1_asksAt_21 ?_
      refine lv_iload_n hx hb dX1_asksAt_24 rfl (lv_at hl 1 rfl) ?_
      refine xh_iald (n := 12) F hI (x_inH hj (by decide)) (fun _ => rfl) g4 dX1_asksAt_25 ?_
      refine lv_isub hx hb dX1_asksAt_26 ?_
      refine lv_topi (fun x6 e7 => ?_)
      have h := x_let_at h e7
      refine lv_istore_n (lv' := [(3, .int x6), (0, .ref (X.2.2 j 1)), (1, .int a1), (2, .int a2)]) hx hb dX1_asksAt_27 rfl hl (by decide) rfl (fun ls hl => ?_)
      refine lv_iload_n hx hb dX1_asksAt_28 rfl (lv_at hl 0 rfl) ?_
      refine lv_aload_n hx hb dX1_asksAt_29 rfl (lv_at hl 1 rfl) ?_
      refine lv_iload_n hx hb dX1_asksAt_30 rfl (lv_at hl 2 rfl) ?_
      obtain ⟨r8, h9, h⟩ := x_bnd h
      refine x_aci hI (x_runV (rest := [.int x6]) F hI (mX1_earlyAsking l X σ j hj _ u a1 r8 h9) g_X1_47 ⟨rfl, hd_X1_earlyAsking⟩ ⟨by decide, by decide⟩ ⟨rfl, rfl⟩ (x_inH hj (by decide)) rfl rfl rfl rfl hl.1 rfl (Nat.le_of_ble_eq_true rfl) dX1_asksAt_31 ⟨Nat.zero_le _, Nat.zero_le _⟩) (fun H locs hI => ?_)
      refine lv_icmp_eq (tgt := 46) hx hb dX1_asksAt_34 (by decide) (fun c10 => ?_) (fun c10 => ?_)
      · have h := x_ift h c10
        refine lv_iconst (v := 1) hx hb dX1_asksAt_46 (by decide) ?_
        refine lv_goto (tgt := 51) hx hb dX1_asksAt_47 (by decide) ?_
        rw [x_some h]
        exact x_zret (v := 1) F hI (by decide) dX1_asksAt_51
      · have h := x_iff h c10
        refine lv_iload_n hx hb dX1_asksAt_37 rfl (lv_at hl 0 rfl) ?_
        refine lv_aload_n hx hb dX1_asksAt_38 rfl (lv_at hl 1 rfl) ?_
        refine lv_iload_n hx hb dX1_asksAt_39 rfl (lv_at hl 2 rfl) ?_
        obtain ⟨r11, h12, h⟩ := x_bnd h
        refine x_aci hI (x_runV (rest := [.int x6]) F hI (mX1_lateAsking l X σ j hj _ u a1 r11 h12) g_X1_51 ⟨rfl, hd_X1_lateAsking⟩ ⟨by decide, by decide⟩ ⟨rfl, rfl⟩ (x_inH hj (by decide)) rfl rfl rfl rfl hl.1 rfl (Nat.le_of_ble_eq_true rfl) dX1_asksAt_40 ⟨Nat.zero_le _, Nat.zero_le _⟩) (fun H locs hI => ?_)
        refine lv_icmp_ne (tgt := 50) hx hb dX1_asksAt_43 (by decide) (fun c13 => ?_) (fun c13 => ?_)
        · have h := x_iff h c13
          refine lv_iconst (v := 0) hx hb dX1_asksAt_50 (by decide) ?_
          rw [x_some h]
          exact x_zret (v := 0) F hI (by decide) dX1_asksAt_51
        · have h := x_ift h c13
          refine lv_iconst (v := 1) hx hb dX1_asksAt_46 (by decide) ?_
          refine lv_goto (tgt := 51) hx hb dX1_asksAt_47 (by decide) ?_
          rw [x_some h]
          exact x_zret (v := 1) F hI (by decide) dX1_asksAt_51
    · have h := x_iff h c5
      refine lv_iconst (v := 0) hx hb dX1_asksAt_17 (by decide) ?_
      rw [x_some h]
      exact x_zret (v := 0) F hI (by decide) dX1_asksAt_18
abbrev rm_X1_countHoused : Room := { frames := 0, cells := 0, slots := 0, locals := 0 }
def fX1_countHoused_b4 : Nat → x_H → Int32 → Int32 → Option Int32
  | 0, _, _, _ => none
  | n + 1, u, y1, y2 => (if (12 : Int32) ≤ y2 then some (y1) else (if x_in y2 12 then (if (u 5 (Int32.toNatClampNeg y2)) = (3 : Int32) then x_let (y1 + (1 : Int32)) fun x4 => x_let (y2 + (1 : Int32)) fun x6 => fX1_countHoused_b4 n u x4 x6 else x_let (y2 + (1 : Int32)) fun x8 => fX1_countHoused_b4 n u y1 x8) else none))
set_option maxHeartbeats 4000000 in
set_option maxRecDepth 100000 in
theorem wX1_countHoused_b4 {p : Program} {l : Launch} {e : Env} {s : State} {m : MethodId} {args : Array Value} {below : List Frame} {meth : Method} {c : Code} {X : x_T} {σ : x_S} {r : Int32} {j : Nat} (hj : j < 10) (F : x_F p s m args meth c cX1_countHoused 3 RX1 (some .int)) : ∀ (n : Nat) (u : x_H) (y1 : Int32) (y2 : Int32) (H : Heap) (locs : List Loc) (ls : Array Slot), fX1_countHoused_b4 n u y1 y2 = some r → x_I X (x_sh σ j u) s H locs → lv_has ls 3 [(0, .ref (X.2.2 j 1)), (1, .int y1), (2, .int y2)] → W p l e rm_X1_countHoused s m args below meth c H locs 0 0 (MQ below (x_Qi X r (x_sh σ j u) s.heap.size) args s 0 0 (x_A X s.heap.size)) (F0 m 4 ls []) := by
  have hx := F.1
  have hb := F.2.1
  have hml := F.2.2.1
  have hown := F.2.2.2.1
  have hts := F.2.2.2.2.1
  intro n
  induction n with
  | zero =>
    intro u y1 y2 H locs ls h
    rw [fX1_countHoused_b4] at h
    cases h
  | succ n ih =>
    intro u y1 y2 H locs ls h hI hl
    rw [fX1_countHoused_b4] at h
    refine lv_iload_n hx hb dX1_countHoused_4 rfl (lv_at hl 2 rfl) ?_
    refine lv_bipush (v := 12) hx hb dX1_countHoused_5 (by decide) ?_
    refine lv_icmp_ge (tgt := 29) hx hb dX1_countHoused_7 (by decide) (fun c1 => ?_) (fun c1 => ?_)
    · have h := x_ift h c1
      refine lv_iload_n hx hb dX1_countHoused_29 rfl (lv_at hl 1 rfl) ?_
      rw [x_some h]
      exact x_iret F hI dX1_countHoused_30
    · have h := x_iff h c1
      refine lv_aload_n hx hb dX1_countHoused_10 rfl (lv_at hl 0 rfl) ?_
      refine xg_1_0 F hI (x_inH hj (by decide)) u_fl_X1_9 dX1_countHoused_11 ?_
      refine lv_iload_n hx hb dX1_countHoused_14 rfl (lv_at hl 2 rfl) ?_
      obtain ⟨g2, h⟩ := x_chk h
      refine xh_iald (n := 12) F hI (x_inH hj (by decide)) (fun _ => rfl) g2 dX1_countHoused_15 ?_
      refine lv_iconst (v := 3) hx hb dX1_countHoused_16 (by decide) ?_
      refine lv_icmp_ne (tgt := 23) hx hb dX1_countHoused_17 (by decide) (fun c3 => ?_) (fun c3 => ?_)
      · have h := x_iff h c3
        obtain ⟨x8, e9⟩ : ∃ z : Int32, z = (y2 + (1 : Int32)) := ⟨_, rfl⟩
        have h := x_let_at h e9
        refine lv_iinc (v := x8) (lv' := [(2, .int x8), (0, .ref (X.2.2 j 1)), (1, .int y1)]) hx hb dX1_countHoused_23 hl (k := 2) rfl (by rw [e9]; rfl) (by decide) rfl (fun ls hl => ?_)
        refine lv_goto (tgt := 4) hx hb dX1_countHoused_26 (by decide) ?_
        exact ih u y1 x8 _ _ _ h hI (lv_sub hl [1, 2, 0] rfl)
      · have h := x_ift h c3
        obtain ⟨x4, e5⟩ : ∃ z : Int32, z = (y1 + (1 : Int32)) := ⟨_, rfl⟩
        have h := x_let_at h e5
        refine lv_iinc (v := x4) (lv' := [(1, .int x4), (0, .ref (X.2.2 j 1)), (2, .int y2)]) hx hb dX1_countHoused_20 hl (k := 1) rfl (by rw [e5]; rfl) (by decide) rfl (fun ls hl => ?_)
        obtain ⟨x6, e7⟩ : ∃ z : Int32, z = (y2 + (1 : Int32)) := ⟨_, rfl⟩
        have h := x_let_at h e7
        refine lv_iinc (v := x6) (lv' := [(2, .int x6), (1, .int x4), (0, .ref (X.2.2 j 1))]) hx hb dX1_countHoused_23 hl (k := 2) rfl (by rw [e7]; rfl) (by decide) rfl (fun ls hl => ?_)
        refine lv_goto (tgt := 4) hx hb dX1_countHoused_26 (by decide) ?_
        exact ih u x4 x6 _ _ _ h hI (lv_sub hl [2, 1, 0] rfl)
def fX1_countHoused (u : x_H) : Option Int32 := fX1_countHoused_b4 400 u (0 : Int32) (0 : Int32)
set_option maxHeartbeats 4000000 in
set_option maxRecDepth 100000 in
theorem mX1_countHoused (l : Launch) (X : x_T) (σ : x_S) (j : Nat) (hj : j < 10) (sz : Nat) (u : x_H) (r : Int32) (h : fX1_countHoused u  = some r) : Met l yX1_countHoused (x_ws yX1_countHoused cX1_countHoused 3 (some .int)) rm_X1_countHoused (x_Pc X (x_sh σ j u) sz [.ref (X.2.2 j 1)]) (x_Qi X r (x_sh σ j u) sz) 0 0 (x_A X sz) := by
  refine Met.ofW (cc := cX1_countHoused) (maxL := 3) (ret := (some .int)) (by decide) rfl ?_
  intro p e s m args below meth c s₁ B hml hv
  obtain ⟨F, hI, rfl, rfl⟩ := x_begin B hml hv
  replace F : x_F p s m _ meth c cX1_countHoused 3 RX1 (some .int) := F
  have hx := F.1
  have hb := F.2.1
  have hml := F.2.2.1
  have hown := F.2.2.2.1
  have hts := F.2.2.2.2.1
  refine x_entry (vs := [.ref (X.2.2 j 1)]) (n := 3) (Nat.le_of_ble_eq_true rfl) (fun ls hl => ?_)
  replace hl : lv_has ls 3 [(0, .ref (X.2.2 j 1))] := hl
  unfold fX1_countHoused at h
  refine lv_iconst (v := 0) hx hb dX1_countHoused_0 (by decide) ?_
  refine lv_istore_n (lv' := [(1, .int (0)), (0, .ref (X.2.2 j 1))]) hx hb dX1_countHoused_1 rfl hl (by decide) rfl (fun ls hl => ?_)
  refine lv_iconst (v := 0) hx hb dX1_countHoused_2 (by decide) ?_
  refine lv_istore_n (lv' := [(2, .int (0)), (1, .int (0)), (0, .ref (X.2.2 j 1))]) hx hb dX1_countHoused_3 rfl hl (by decide) rfl (fun ls hl => ?_)
  exact wX1_countHoused_b4 hj F 400 u (0 : Int32) (0 : Int32) _ _ _ h hI (lv_sub hl [2, 1, 0] rfl)
abbrev rm_X1_copyFrom : Room := { frames := 2, cells := 0, slots := 0, locals := 47 }
def fX1_copyFrom (u : x_H) (w : x_H) : Option x_H := x_let (x_hs u 5 (w 5)) fun u1 => x_let (x_hs u1 6 (w 6)) fun u3 => x_let (x_hs u3 7 (w 7)) fun u5 => x_let (x_hs u5 8 (w 8)) fun u7 => x_let (x_hs u7 9 (w 9)) fun u9 => x_let (x_hs u9 10 (w 10)) fun u11 => x_let (x_hs u11 11 (w 11)) fun u13 => some (u13)
set_option maxHeartbeats 4000000 in
set_option maxRecDepth 100000 in
theorem mX1_copyFrom (l : Launch) (X : x_T) (σ : x_S) (i j : Nat) (hi : i < 10) (hj : j < 10) (hne : i ≠ j) {w : x_H} (hw : σ i = w) (sz : Nat) (u : x_H) (r : x_H) (h : fX1_copyFrom u w  = some r) : Met l yX1_copyFrom (x_ws yX1_copyFrom cX1_copyFrom 2 none) rm_X1_copyFrom (x_Pc X (x_sh σ j u) sz [.ref (X.2.2 j 1), .ref (X.2.2 i 1)]) (x_Qv X (x_sh σ j r) sz) 0 0 (x_A X sz) := by
  refine Met.ofW (cc := cX1_copyFrom) (maxL := 2) (ret := none) (by decide) rfl ?_
  intro p e s m args below meth c s₁ B hml hv
  obtain ⟨F, hI, rfl, rfl⟩ := x_begin B hml hv
  replace F : x_F p s m _ meth c cX1_copyFrom 2 RX1 none := F
  have hx := F.1
  have hb := F.2.1
  have hml := F.2.2.1
  have hown := F.2.2.2.1
  have hts := F.2.2.2.2.1
  refine x_entry (vs := [.ref (X.2.2 j 1), .ref (X.2.2 i 1)]) (n := 2) (Nat.le_of_ble_eq_true rfl) (fun ls hl => ?_)
  replace hl : lv_has ls 2 [(0, .ref (X.2.2 j 1)), (1, .ref (X.2.2 i 1))] := hl
  unfold fX1_copyFrom at h
  refine lv_aload_n hx hb dX1_copyFrom_0 rfl (lv_at hl 1 rfl) ?_
  refine xo_1_0 F hI (x_inH hi (by decide)) hne hw u_fl_X1_9 dX1_copyFrom_1 ?_
  refine lv_aload_n hx hb dX1_copyFrom_4 rfl (lv_at hl 0 rfl) ?_
  refine xg_1_0 F hI (x_inH hj (by decide)) u_fl_X1_9 dX1_copyFrom_5 ?_
  refine x_acv hI (x_runN (rest := []) F hI (mX6_copyNumbers l X _ _ (n := 12) (x_inH hi (by decide)) (x_inH hj (by decide)) (fun _ => rfl) (fun _ => rfl) (by decide)) u_mln_X1_33 u_co_X6_copyNumbers u_ini_X6 u_st_X6_copyNumbers hd_X6_copyNumbers ⟨by decide, by decide⟩ ⟨rfl, rfl⟩ rfl hl.1 rfl (Nat.le_of_ble_eq_true rfl) dX1_copyFrom_8 ⟨Nat.zero_le _, Nat.zero_le _⟩) (fun H locs hI => ?_)
  rw [x_sh_eq, x_sh_sh, x_sh_ne _ _ hne, hw] at hI
  obtain ⟨u1, e2⟩ : ∃ z : x_H, z = (x_hs u 5 (w 5)) := ⟨_, rfl⟩
  rw [← e2] at hI
  have h := x_let_at h e2
  refine lv_aload_n hx hb dX1_copyFrom_11 rfl (lv_at hl 1 rfl) ?_
  refine xo_1_1 F hI (x_inH hi (by decide)) hne hw u_fl_X1_15 dX1_copyFrom_12 ?_
  refine lv_aload_n hx hb dX1_copyFrom_15 rfl (lv_at hl 0 rfl) ?_
  refine xg_1_1 F hI (x_inH hj (by decide)) u_fl_X1_15 dX1_copyFrom_16 ?_
  refine x_acv hI (x_runN (rest := []) F hI (mX6_copyNumbers l X _ _ (n := 12) (x_inH hi (by decide)) (x_inH hj (by decide)) (fun _ => rfl) (fun _ => rfl) (by decide)) u_mln_X1_33 u_co_X6_copyNumbers u_ini_X6 u_st_X6_copyNumbers hd_X6_copyNumbers ⟨by decide, by decide⟩ ⟨rfl, rfl⟩ rfl hl.1 rfl (Nat.le_of_ble_eq_true rfl) dX1_copyFrom_19 ⟨Nat.zero_le _, Nat.zero_le _⟩) (fun H locs hI => ?_)
  rw [x_sh_eq, x_sh_sh, x_sh_ne _ _ hne, hw] at hI
  obtain ⟨u3, e4⟩ : ∃ z : x_H, z = (x_hs u1 6 (w 6)) := ⟨_, rfl⟩
  rw [← e4] at hI
  have h := x_let_at h e4
  refine lv_aload_n hx hb dX1_copyFrom_22 rfl (lv_at hl 1 rfl) ?_
  refine xo_1_2 F hI (x_inH hi (by decide)) hne hw u_fl_X1_18 dX1_copyFrom_23 ?_
  refine lv_aload_n hx hb dX1_copyFrom_26 rfl (lv_at hl 0 rfl) ?_
  refine xg_1_2 F hI (x_inH hj (by decide)) u_fl_X1_18 dX1_copyFrom_27 ?_
  refine x_acv hI (x_runN (rest := []) F hI (mX6_copyNumbers l X _ _ (n := 12) (x_inH hi (by decide)) (x_inH hj (by decide)) (fun _ => rfl) (fun _ => rfl) (by decide)) u_mln_X1_33 u_co_X6_copyNumbers u_ini_X6 u_st_X6_copyNumbers hd_X6_copyNumbers ⟨by decide, by decide⟩ ⟨rfl, rfl⟩ rfl hl.1 rfl (Nat.le_of_ble_eq_true rfl) dX1_copyFrom_30 ⟨Nat.zero_le _, Nat.zero_le _⟩) (fun H locs hI => ?_)
  rw [x_sh_eq, x_sh_sh, x_sh_ne _ _ hne, hw] at hI
  obtain ⟨u5, e6⟩ : ∃ z : x_H, z = (x_hs u3 7 (w 7)) := ⟨_, rfl⟩
  rw [← e6] at hI
  have h := x_let_at h e6
  refine lv_aload_n hx hb dX1_copyFrom_33 rfl (lv_at hl 1 rfl) ?_
  refine xo_1_3 F hI (x_inH hi (by decide)) hne hw u_fl_X1_21 dX1_copyFrom_34 ?_
  refine lv_aload_n hx hb dX1_copyFrom_37 rfl (lv_at hl 0 rfl) ?_
  refine xg_1_3 F hI (x_inH hj (by decide)) u_fl_X1_21 dX1_copyFrom_38 ?_
  refine x_acv hI (x_runN (rest := []) F hI (mX6_copyNumbers l X _ _ (n := 12) (x_inH hi (by decide)) (x_inH hj (by decide)) (fun _ => rfl) (fun _ => rfl) (by decide)) u_mln_X1_33 u_co_X6_copyNumbers u_ini_X6 u_st_X6_copyNumbers hd_X6_copyNumbers ⟨by decide, by decide⟩ ⟨rfl, rfl⟩ rfl hl.1 rfl (Nat.le_of_ble_eq_true rfl) dX1_copyFrom_41 ⟨Nat.zero_le _, Nat.zero_le _⟩) (fun H locs hI => ?_)
  rw [x_sh_eq, x_sh_sh, x_sh_ne _ _ hne, hw] at hI
  obtain ⟨u7, e8⟩ : ∃ z : x_H, z = (x_hs u5 8 (w 8)) := ⟨_, rfl⟩
  rw [← e8] at hI
  have h := x_let_at h e8
  refine lv_aload_n hx hb dX1_copyFrom_44 rfl (lv_at hl 1 rfl) ?_
  refine xo_1_4 F hI (x_inH hi (by decide)) hne hw u_fl_X1_24 dX1_copyFrom_45 ?_
  refine lv_aload_n hx hb dX1_copyFrom_48 rfl (lv_at hl 0 rfl) ?_
  refine xg_1_4 F hI (x_inH hj (by decide)) u_fl_X1_24 dX1_copyFrom_49 ?_
  refine x_acv hI (x_runN (rest := []) F hI (mX6_copyNumbers l X _ _ (n := 12) (x_inH hi (by decide)) (x_inH hj (by decide)) (fun _ => rfl) (fun _ => rfl) (by decide)) u_mln_X1_33 u_co_X6_copyNumbers u_ini_X6 u_st_X6_copyNumbers hd_X6_copyNumbers ⟨by decide, by decide⟩ ⟨rfl, rfl⟩ rfl hl.1 rfl (Nat.le_of_ble_eq_true rfl) dX1_copyFrom_52 ⟨Nat.zero_le _, Nat.zero_le _⟩) (fun H locs hI => ?_)
  rw [x_sh_eq, x_sh_sh, x_sh_ne _ _ hne, hw] at hI
  obtain ⟨u9, e10⟩ : ∃ z : x_H, z = (x_hs u7 9 (w 9)) := ⟨_, rfl⟩
  rw [← e10] at hI
  have h := x_let_at h e10
  refine lv_aload_n hx hb dX1_copyFrom_55 rfl (lv_at hl 1 rfl) ?_
  refine xo_1_5 F hI (x_inH hi (by decide)) hne hw u_fl_X1_27 dX1_copyFrom_56 ?_
  refine lv_aload_n hx hb dX1_copyFrom_59 rfl (lv_at hl 0 rfl) ?_
  refine xg_1_5 F hI (x_inH hj (by decide)) u_fl_X1_27 dX1_copyFrom_60 ?_
  refine x_acv hI (x_runN (rest := []) F hI (mX6_copyNumbers l X _ _ (n := 12) (x_inH hi (by decide)) (x_inH hj (by decide)) (fun _ => rfl) (fun _ => rfl) (by decide)) u_mln_X1_33 u_co_X6_copyNumbers u_ini_X6 u_st_X6_copyNumbers hd_X6_copyNumbers ⟨by decide, by decide⟩ ⟨rfl, rfl⟩ rfl hl.1 rfl (Nat.le_of_ble_eq_true rfl) dX1_copyFrom_63 ⟨Nat.zero_le _, Nat.zero_le _⟩) (fun H locs hI => ?_)
  rw [x_sh_eq, x_sh_sh, x_sh_ne _ _ hne, hw] at hI
  obtain ⟨u11, e12⟩ : ∃ z : x_H, z = (x_hs u9 10 (w 10)) := ⟨_, rfl⟩
  rw [← e12] at hI
  have h := x_let_at h e12
  refine lv_aload_n hx hb dX1_copyFrom_66 rfl (lv_at hl 1 rfl) ?_
  refine xo_1_6 F hI (x_inH hi (by decide)) hne hw u_fl_X1_30 dX1_copyFrom_67 ?_
  refine lv_aload_n hx hb dX1_copyFrom_70 rfl (lv_at hl 0 rfl) ?_
  refine xg_1_6 F hI (x_inH hj (by decide)) u_fl_X1_30 dX1_copyFrom_71 ?_
  refine x_acv hI (x_runN (rest := []) F hI (mX6_copyNumbers l X _ _ (n := 12) (x_inH hi (by decide)) (x_inH hj (by decide)) (fun _ => rfl) (fun _ => rfl) (by decide)) u_mln_X1_33 u_co_X6_copyNumbers u_ini_X6 u_st_X6_copyNumbers hd_X6_copyNumbers ⟨by decide, by decide⟩ ⟨rfl, rfl⟩ rfl hl.1 rfl (Nat.le_of_ble_eq_true rfl) dX1_copyFrom_74 ⟨Nat.zero_le _, Nat.zero_le _⟩) (fun H locs hI => ?_)
  rw [x_sh_eq, x_sh_sh, x_sh_ne _ _ hne, hw] at hI
  obtain ⟨u13, e14⟩ : ∃ z : x_H, z = (x_hs u11 11 (w 11)) := ⟨_, rfl⟩
  rw [← e14] at hI
  have h := x_let_at h e14
  rw [x_some h]
  exact x_vret F hI dX1_copyFrom_77
