def xg_X1 (h0 q7 q6 q5 q4 q3 q2 q1 : Nat) : Nat → Nat → Nat := fun j k => match j with | 0 => (match k with | 1 => h0 | 5 => q1 | 6 => q2 | 7 => q3 | 8 => q4 | 9 => q5 | 10 => q6 | 11 => q7 | _ => 0) | _ => 0
def xi_X1 : List (Nat × Nat) := [(0, 1), (0, 11), (0, 10), (0, 9), (0, 8), (0, 7), (0, 6), (0, 5)]
abbrev rm_X1_init : Room := { frames := 1, cells := 7, slots := 84, locals := 20 }
set_option maxHeartbeats 8000000 in
set_option maxRecDepth 100000 in
theorem cX1 (l : Launch) (Y : x_T) (h0 sz : Nat) : Met l yX1_init (x_ws yX1_init cX1_init 2 none) rm_X1_init (xc_Pc Y h0 (.inr (1, [.null, .null, .null, .null, .null, .null, .null])) sz) (xc_Q Y h0 sz (0, 1) x_s0 xi_X1) 7 84 (xc_A h0 sz) := by
  refine Met.ofW (cc := cX1_init) (maxL := 2) (ret := none) (by decide) rfl ?_
  intro p e s m args below meth c s₁ B hml hv
  obtain ⟨F, hO, hn0, hI, rfl, rfl⟩ := xc_begin B hml hv rfl
  replace F : x_F p s m _ meth c cX1_init 2 RX1 none := F
  have hx := F.1
  have hb := F.2.1
  refine x_entry (vs := [.ref h0]) (n := 2) (Nat.le_of_ble_eq_true rfl) (fun ls hl => ?_)
  replace hl : lv_has ls 2 [(0, .ref h0)] := hl
  have hI : xc_I Y (xc_A h0 s.heap.size) s s.heap [] ([(h0, .inr (1, [.null, .null, .null, .null, .null, .null, .null]))]) := hI
  refine lv_aload_n hx hb dX1_init_0 rfl (lv_at hl 0 rfl) ?_
  refine xc_objInit F u_ml_X1_3 u_in_java_lang_Object_init_ u_co_java_lang_Object_init_ hl.1 ⟨by decide, by decide⟩ (Nat.le_of_ble_eq_true rfl) dX1_init_1 ?_
  refine lv_aload_n hx hb dX1_init_4 rfl (lv_at hl 0 rfl) ?_
  refine lv_bipush (v := 12) hx hb dX1_init_5 (by decide) ?_
  refine xc_newa (ty := .int) (N' := 12) (a0 := (12, .inl (fun _ => 0))) F hI rfl u_arr_int 0 rfl (fun C h9 => by cases h9) (fun _ => rfl) (by decide) (by decide) (by decide) (Nat.le_of_ble_eq_true rfl) (Nat.le_of_ble_eq_true rfl) dX1_init_7 (fun q1 H hI => ?_)
  have hI : xc_I Y (xc_A h0 s.heap.size) s H _ ((h0, .inr (1, [.null, .null, .null, .null, .null, .null, .null])) :: (q1, .inl (Y.2.1 0, 12, .inl (fun _ => 0))) :: []) := hI
  refine xc_putF F hn0 hI 0 rfl tyX1 rfl xin_1 tyX1_ok nmX1 (i := 0) (by decide) u_fl_X1_9 rfl rfl rfl (tyX1_ok 0 (by decide)) rfl rfl (Nat.le_of_ble_eq_true rfl) (ws' := (h0, .inr (1, [.ref q1, .null, .null, .null, .null, .null, .null])) :: (q1, .inl (Y.2.1 0, 12, .inl (fun _ => 0))) :: []) rfl dX1_init_9 (fun H locs hI => ?_)
  refine lv_aload_n hx hb dX1_init_12 rfl (lv_at hl 0 rfl) ?_
  refine lv_bipush (v := 12) hx hb dX1_init_13 (by decide) ?_
  refine xc_newa (ty := .int) (N' := 12) (a0 := (12, .inl (fun _ => 0))) F hI rfl u_arr_int 0 rfl (fun C h9 => by cases h9) (fun _ => rfl) (by decide) (by decide) (by decide) (Nat.le_of_ble_eq_true rfl) (Nat.le_of_ble_eq_true rfl) dX1_init_15 (fun q2 H hI => ?_)
  have hI : xc_I Y (xc_A h0 s.heap.size) s H _ ((h0, .inr (1, [.ref q1, .null, .null, .null, .null, .null, .null])) :: (q2, .inl (Y.2.1 0, 12, .inl (fun _ => 0))) :: (q1, .inl (Y.2.1 0, 12, .inl (fun _ => 0))) :: []) := hI
  refine xc_putF F hn0 hI 0 rfl tyX1 rfl xin_1 tyX1_ok nmX1 (i := 1) (by decide) u_fl_X1_15 rfl rfl rfl (tyX1_ok 1 (by decide)) rfl rfl (Nat.le_of_ble_eq_true rfl) (ws' := (h0, .inr (1, [.ref q1, .ref q2, .null, .null, .null, .null, .null])) :: (q2, .inl (Y.2.1 0, 12, .inl (fun _ => 0))) :: (q1, .inl (Y.2.1 0, 12, .inl (fun _ => 0))) :: []) rfl dX1_init_17 (fun H locs hI => ?_)
  refine lv_aload_n hx hb dX1_init_20 rfl (lv_at hl 0 rfl) ?_
  refine lv_bipush (v := 12) hx hb dX1_init_21 (by decide) ?_
  refine xc_newa (ty := .int) (N' := 12) (a0 := (12, .inl (fun _ => 0))) F hI rfl u_arr_int 0 rfl (fun C h9 => by cases h9) (fun _ => rfl) (by decide) (by decide) (by decide) (Nat.le_of_ble_eq_true rfl) (Nat.le_of_ble_eq_true rfl) dX1_init_23 (fun q3 H hI => ?_)
  have hI : xc_I Y (xc_A h0 s.heap.size) s H _ ((h0, .inr (1, [.ref q1, .ref q2, .null, .null, .null, .null, .null])) :: (q3, .inl (Y.2.1 0, 12, .inl (fun _ => 0))) :: (q2, .inl (Y.2.1 0, 12, .inl (fun _ => 0))) :: (q1, .inl (Y.2.1 0, 12, .inl (fun _ => 0))) :: []) := hI
  refine xc_putF F hn0 hI 0 rfl tyX1 rfl xin_1 tyX1_ok nmX1 (i := 2) (by decide) u_fl_X1_18 rfl rfl rfl (tyX1_ok 2 (by decide)) rfl rfl (Nat.le_of_ble_eq_true rfl) (ws' := (h0, .inr (1, [.ref q1, .ref q2, .ref q3, .null, .null, .null, .null])) :: (q3, .inl (Y.2.1 0, 12, .inl (fun _ => 0))) :: (q2, .inl (Y.2.1 0, 12, .inl (fun _ => 0))) :: (q1, .inl (Y.2.1 0, 12, .inl (fun _ => 0))) :: []) rfl dX1_init_25 (fun H locs hI => ?_)
  refine lv_aload_n hx hb dX1_init_28 rfl (lv_at hl 0 rfl) ?_
  refine lv_bipush (v := 12) hx hb dX1_init_29 (by decide) ?_
  refine xc_newa (ty := .int) (N' := 12) (a0 := (12, .inl (fun _ => 0))) F hI rfl u_arr_int 0 rfl (fun C h9 => by cases h9) (fun _ => rfl) (by decide) (by decide) (by decide) (Nat.le_of_ble_eq_true rfl) (Nat.le_of_ble_eq_true rfl) dX1_init_31 (fun q4 H hI => ?_)
  have hI : xc_I Y (xc_A h0 s.heap.size) s H _ ((h0, .inr (1, [.ref q1, .ref q2, .ref q3, .null, .null, .null, .null])) :: (q4, .inl (Y.2.1 0, 12, .inl (fun _ => 0))) :: (q3, .inl (Y.2.1 0, 12, .inl (fun _ => 0))) :: (q2, .inl (Y.2.1 0, 12, .inl (fun _ => 0))) :: (q1, .inl (Y.2.1 0, 12, .inl (fun _ => 0))) :: []) := hI
  refine xc_putF F hn0 hI 0 rfl tyX1 rfl xin_1 tyX1_ok nmX1 (i := 3) (by decide) u_fl_X1_21 rfl rfl rfl (tyX1_ok 3 (by decide)) rfl rfl (Nat.le_of_ble_eq_true rfl) (ws' := (h0, .inr (1, [.ref q1, .ref q2, .ref q3, .ref q4, .null, .null, .null])) :: (q4, .inl (Y.2.1 0, 12, .inl (fun _ => 0))) :: (q3, .inl (Y.2.1 0, 12, .inl (fun _ => 0))) :: (q2, .inl (Y.2.1 0, 12, .inl (fun _ => 0))) :: (q1, .inl (Y.2.1 0, 12, .inl (fun _ => 0))) :: []) rfl dX1_init_33 (fun H locs hI => ?_)
  refine lv_aload_n hx hb dX1_init_36 rfl (lv_at hl 0 rfl) ?_
  refine lv_bipush (v := 12) hx hb dX1_init_37 (by decide) ?_
  refine xc_newa (ty := .int) (N' := 12) (a0 := (12, .inl (fun _ => 0))) F hI rfl u_arr_int 0 rfl (fun C h9 => by cases h9) (fun _ => rfl) (by decide) (by decide) (by decide) (Nat.le_of_ble_eq_true rfl) (Nat.le_of_ble_eq_true rfl) dX1_init_39 (fun q5 H hI => ?_)
  have hI : xc_I Y (xc_A h0 s.heap.size) s H _ ((h0, .inr (1, [.ref q1, .ref q2, .ref q3, .ref q4, .null, .null, .null])) :: (q5, .inl (Y.2.1 0, 12, .inl (fun _ => 0))) :: (q4, .inl (Y.2.1 0, 12, .inl (fun _ => 0))) :: (q3, .inl (Y.2.1 0, 12, .inl (fun _ => 0))) :: (q2, .inl (Y.2.1 0, 12, .inl (fun _ => 0))) :: (q1, .inl (Y.2.1 0, 12, .inl (fun _ => 0))) :: []) := hI
  refine xc_putF F hn0 hI 0 rfl tyX1 rfl xin_1 tyX1_ok nmX1 (i := 4) (by decide) u_fl_X1_24 rfl rfl rfl (tyX1_ok 4 (by decide)) rfl rfl (Nat.le_of_ble_eq_true rfl) (ws' := (h0, .inr (1, [.ref q1, .ref q2, .ref q3, .ref q4, .ref q5, .null, .null])) :: (q5, .inl (Y.2.1 0, 12, .inl (fun _ => 0))) :: (q4, .inl (Y.2.1 0, 12, .inl (fun _ => 0))) :: (q3, .inl (Y.2.1 0, 12, .inl (fun _ => 0))) :: (q2, .inl (Y.2.1 0, 12, .inl (fun _ => 0))) :: (q1, .inl (Y.2.1 0, 12, .inl (fun _ => 0))) :: []) rfl dX1_init_41 (fun H locs hI => ?_)
  refine lv_aload_n hx hb dX1_init_44 rfl (lv_at hl 0 rfl) ?_
  refine lv_bipush (v := 12) hx hb dX1_init_45 (by decide) ?_
  refine xc_newa (ty := .int) (N' := 12) (a0 := (12, .inl (fun _ => 0))) F hI rfl u_arr_int 0 rfl (fun C h9 => by cases h9) (fun _ => rfl) (by decide) (by decide) (by decide) (Nat.le_of_ble_eq_true rfl) (Nat.le_of_ble_eq_true rfl) dX1_init_47 (fun q6 H hI => ?_)
  have hI : xc_I Y (xc_A h0 s.heap.size) s H _ ((h0, .inr (1, [.ref q1, .ref q2, .ref q3, .ref q4, .ref q5, .null, .null])) :: (q6, .inl (Y.2.1 0, 12, .inl (fun _ => 0))) :: (q5, .inl (Y.2.1 0, 12, .inl (fun _ => 0))) :: (q4, .inl (Y.2.1 0, 12, .inl (fun _ => 0))) :: (q3, .inl (Y.2.1 0, 12, .inl (fun _ => 0))) :: (q2, .inl (Y.2.1 0, 12, .inl (fun _ => 0))) :: (q1, .inl (Y.2.1 0, 12, .inl (fun _ => 0))) :: []) := hI
  refine xc_putF F hn0 hI 0 rfl tyX1 rfl xin_1 tyX1_ok nmX1 (i := 5) (by decide) u_fl_X1_27 rfl rfl rfl (tyX1_ok 5 (by decide)) rfl rfl (Nat.le_of_ble_eq_true rfl) (ws' := (h0, .inr (1, [.ref q1, .ref q2, .ref q3, .ref q4, .ref q5, .ref q6, .null])) :: (q6, .inl (Y.2.1 0, 12, .inl (fun _ => 0))) :: (q5, .inl (Y.2.1 0, 12, .inl (fun _ => 0))) :: (q4, .inl (Y.2.1 0, 12, .inl (fun _ => 0))) :: (q3, .inl (Y.2.1 0, 12, .inl (fun _ => 0))) :: (q2, .inl (Y.2.1 0, 12, .inl (fun _ => 0))) :: (q1, .inl (Y.2.1 0, 12, .inl (fun _ => 0))) :: []) rfl dX1_init_49 (fun H locs hI => ?_)
  refine lv_aload_n hx hb dX1_init_52 rfl (lv_at hl 0 rfl) ?_
  refine lv_bipush (v := 12) hx hb dX1_init_53 (by decide) ?_
  refine xc_newa (ty := .int) (N' := 12) (a0 := (12, .inl (fun _ => 0))) F hI rfl u_arr_int 0 rfl (fun C h9 => by cases h9) (fun _ => rfl) (by decide) (by decide) (by decide) (Nat.le_of_ble_eq_true rfl) (Nat.le_of_ble_eq_true rfl) dX1_init_55 (fun q7 H hI => ?_)
  have hI : xc_I Y (xc_A h0 s.heap.size) s H _ ((h0, .inr (1, [.ref q1, .ref q2, .ref q3, .ref q4, .ref q5, .ref q6, .null])) :: (q7, .inl (Y.2.1 0, 12, .inl (fun _ => 0))) :: (q6, .inl (Y.2.1 0, 12, .inl (fun _ => 0))) :: (q5, .inl (Y.2.1 0, 12, .inl (fun _ => 0))) :: (q4, .inl (Y.2.1 0, 12, .inl (fun _ => 0))) :: (q3, .inl (Y.2.1 0, 12, .inl (fun _ => 0))) :: (q2, .inl (Y.2.1 0, 12, .inl (fun _ => 0))) :: (q1, .inl (Y.2.1 0, 12, .inl (fun _ => 0))) :: []) := hI
  refine xc_putF F hn0 hI 0 rfl tyX1 rfl xin_1 tyX1_ok nmX1 (i := 6) (by decide) u_fl_X1_30 rfl rfl rfl (tyX1_ok 6 (by decide)) rfl rfl (Nat.le_of_ble_eq_true rfl) (ws' := (h0, .inr (1, [.ref q1, .ref q2, .ref q3, .ref q4, .ref q5, .ref q6, .ref q7])) :: (q7, .inl (Y.2.1 0, 12, .inl (fun _ => 0))) :: (q6, .inl (Y.2.1 0, 12, .inl (fun _ => 0))) :: (q5, .inl (Y.2.1 0, 12, .inl (fun _ => 0))) :: (q4, .inl (Y.2.1 0, 12, .inl (fun _ => 0))) :: (q3, .inl (Y.2.1 0, 12, .inl (fun _ => 0))) :: (q2, .inl (Y.2.1 0, 12, .inl (fun _ => 0))) :: (q1, .inl (Y.2.1 0, 12, .inl (fun _ => 0))) :: []) rfl dX1_init_57 (fun H locs hI => ?_)
  refine lv_iconst (v := 0) hx hb dX1_init_60 (by decide) ?_
  refine lv_istore_n (lv' := [(1, .int 0), (0, .ref h0)]) hx hb dX1_init_61 rfl hl (by decide) rfl (fun ls hl => ?_)
  refine lv_iload_n hx hb dX1_init_62 rfl (lv_at hl 0 rfl) ?_
  refine lv_bipush (v := 12) hx hb dX1_init_63 (by decide) ?_
  refine lv_icmp_ge (tgt := 88) hx hb dX1_init_65 (by decide) (fun c9 => absurd c9 (by decide)) (fun _ => ?_)
  refine lv_aload_n hx hb dX1_init_68 rfl (lv_at hl 1 rfl) ?_
  refine xc_get F hI 0 rfl rfl xin_1 (i := 1) (v := .ref q2) (by decide) u_fl_X1_15 rfl rfl dX1_init_69 ?_
  refine lv_iload_n hx hb dX1_init_72 rfl (lv_at hl 0 rfl) ?_
  refine lv_iconst (v := (-1)) hx hb dX1_init_73 (by decide) ?_
  refine xc_iast (n := 12) F hI 6 rfl (by decide) (ws' := (h0, .inr (1, [.ref q1, .ref q2, .ref q3, .ref q4, .ref q5, .ref q6, .ref q7])) :: (q7, .inl (Y.2.1 0, 12, .inl (fun _ => 0))) :: (q6, .inl (Y.2.1 0, 12, .inl (fun _ => 0))) :: (q5, .inl (Y.2.1 0, 12, .inl (fun _ => 0))) :: (q4, .inl (Y.2.1 0, 12, .inl (fun _ => 0))) :: (q3, .inl (Y.2.1 0, 12, .inl (fun _ => 0))) :: (q2, .inl (Y.2.1 0, 12, .inl (x_fill 1 (-1)))) :: (q1, .inl (Y.2.1 0, 12, .inl (fun _ => 0))) :: []) rfl dX1_init_74 (fun H locs hI => ?_)
  refine lv_aload_n hx hb dX1_init_75 rfl (lv_at hl 1 rfl) ?_
  refine xc_get F hI 0 rfl rfl xin_1 (i := 2) (v := .ref q3) (by decide) u_fl_X1_18 rfl rfl dX1_init_76 ?_
  refine lv_iload_n hx hb dX1_init_79 rfl (lv_at hl 0 rfl) ?_
  refine lv_iconst (v := (-1)) hx hb dX1_init_80 (by decide) ?_
  refine xc_iast (n := 12) F hI 5 rfl (by decide) (ws' := (h0, .inr (1, [.ref q1, .ref q2, .ref q3, .ref q4, .ref q5, .ref q6, .ref q7])) :: (q7, .inl (Y.2.1 0, 12, .inl (fun _ => 0))) :: (q6, .inl (Y.2.1 0, 12, .inl (fun _ => 0))) :: (q5, .inl (Y.2.1 0, 12, .inl (fun _ => 0))) :: (q4, .inl (Y.2.1 0, 12, .inl (fun _ => 0))) :: (q3, .inl (Y.2.1 0, 12, .inl (x_fill 1 (-1)))) :: (q2, .inl (Y.2.1 0, 12, .inl (x_fill 1 (-1)))) :: (q1, .inl (Y.2.1 0, 12, .inl (fun _ => 0))) :: []) rfl dX1_init_81 (fun H locs hI => ?_)
  refine lv_iinc (v := 1) (lv' := [(1, .int 1), (0, .ref h0)]) hx hb dX1_init_82 hl (k := 0) rfl (by decide) (by decide) rfl (fun ls hl => ?_)
  refine lv_goto (tgt := 62) hx hb dX1_init_85 (by decide) ?_
  refine lv_iload_n hx hb dX1_init_62 rfl (lv_at hl 0 rfl) ?_
  refine lv_bipush (v := 12) hx hb dX1_init_63 (by decide) ?_
  refine lv_icmp_ge (tgt := 88) hx hb dX1_init_65 (by decide) (fun c9 => absurd c9 (by decide)) (fun _ => ?_)
  refine lv_aload_n hx hb dX1_init_68 rfl (lv_at hl 1 rfl) ?_
  refine xc_get F hI 0 rfl rfl xin_1 (i := 1) (v := .ref q2) (by decide) u_fl_X1_15 rfl rfl dX1_init_69 ?_
  refine lv_iload_n hx hb dX1_init_72 rfl (lv_at hl 0 rfl) ?_
  refine lv_iconst (v := (-1)) hx hb dX1_init_73 (by decide) ?_
  refine xc_iast (n := 12) F hI 6 rfl (by decide) (ws' := (h0, .inr (1, [.ref q1, .ref q2, .ref q3, .ref q4, .ref q5, .ref q6, .ref q7])) :: (q7, .inl (Y.2.1 0, 12, .inl (fun _ => 0))) :: (q6, .inl (Y.2.1 0, 12, .inl (fun _ => 0))) :: (q5, .inl (Y.2.1 0, 12, .inl (fun _ => 0))) :: (q4, .inl (Y.2.1 0, 12, .inl (fun _ => 0))) :: (q3, .inl (Y.2.1 0, 12, .inl (x_fill 1 (-1)))) :: (q2, .inl (Y.2.1 0, 12, .inl (x_fill 2 (-1)))) :: (q1, .inl (Y.2.1 0, 12, .inl (fun _ => 0))) :: []) rfl dX1_init_74 (fun H locs hI => ?_)
  refine lv_aload_n hx hb dX1_init_75 rfl (lv_at hl 1 rfl) ?_
  refine xc_get F hI 0 rfl rfl xin_1 (i := 2) (v := .ref q3) (by decide) u_fl_X1_18 rfl rfl dX1_init_76 ?_
  refine lv_iload_n hx hb dX1_init_79 rfl (lv_at hl 0 rfl) ?_
  refine lv_iconst (v := (-1)) hx hb dX1_init_80 (by decide) ?_
  refine xc_iast (n := 12) F hI 5 rfl (by decide) (ws' := (h0, .inr (1, [.ref q1, .ref q2, .ref q3, .ref q4, .ref q5, .ref q6, .ref q7])) :: (q7, .inl (Y.2.1 0, 12, .inl (fun _ => 0))) :: (q6, .inl (Y.2.1 0, 12, .inl (fun _ => 0))) :: (q5, .inl (Y.2.1 0, 12, .inl (fun _ => 0))) :: (q4, .inl (Y.2.1 0, 12, .inl (fun _ => 0))) :: (q3, .inl (Y.2.1 0, 12, .inl (x_fill 2 (-1)))) :: (q2, .inl (Y.2.1 0, 12, .inl (x_fill 2 (-1)))) :: (q1, .inl (Y.2.1 0, 12, .inl (fun _ => 0))) :: []) rfl dX1_init_81 (fun H locs hI => ?_)
  refine lv_iinc (v := 2) (lv' := [(1, .int 2), (0, .ref h0)]) hx hb dX1_init_82 hl (k := 0) rfl (by decide) (by decide) rfl (fun ls hl => ?_)
  refine lv_goto (tgt := 62) hx hb dX1_init_85 (by decide) ?_
  refine lv_iload_n hx hb dX1_init_62 rfl (lv_at hl 0 rfl) ?_
  refine lv_bipush (v := 12) hx hb dX1_init_63 (by decide) ?_
  refine lv_icmp_ge (tgt := 88) hx hb dX1_init_65 (by decide) (fun c9 => absurd c9 (by decide)) (fun _ => ?_)
  refine lv_aload_n hx hb dX1_init_68 rfl (lv_at hl 1 rfl) ?_
  refine xc_get F hI 0 rfl rfl xin_1 (i := 1) (v := .ref q2) (by decide) u_fl_X1_15 rfl rfl dX1_init_69 ?_
  refine lv_iload_n hx hb dX1_init_72 rfl (lv_at hl 0 rfl) ?_
  refine lv_iconst (v := (-1)) hx hb dX1_init_73 (by decide) ?_
  refine xc_iast (n := 12) F hI 6 rfl (by decide) (ws' := (h0, .inr (1, [.ref q1, .ref q2, .ref q3, .ref q4, .ref q5, .ref q6, .ref q7])) :: (q7, .inl (Y.2.1 0, 12, .inl (fun _ => 0))) :: (q6, .inl (Y.2.1 0, 12, .inl (fun _ => 0))) :: (q5, .inl (Y.2.1 0, 12, .inl (fun _ => 0))) :: (q4, .inl (Y.2.1 0, 12, .inl (fun _ => 0))) :: (q3, .inl (Y.2.1 0, 12, .inl (x_fill 2 (-1)))) :: (q2, .inl (Y.2.1 0, 12, .inl (x_fill 3 (-1)))) :: (q1, .inl (Y.2.1 0, 12, .inl (fun _ => 0))) :: []) rfl dX1_init_74 (fun H locs hI => ?_)
  refine lv_aload_n hx hb dX1_init_75 rfl (lv_at hl 1 rfl) ?_
  refine xc_get F hI 0 rfl rfl xin_1 (i := 2) (v := .ref q3) (by decide) u_fl_X1_18 rfl rfl dX1_init_76 ?_
  refine lv_iload_n hx hb dX1_init_79 rfl (lv_at hl 0 rfl) ?_
  refine lv_iconst (v := (-1)) hx hb dX1_init_80 (by decide) ?_
  refine xc_iast (n := 12) F hI 5 rfl (by decide) (ws' := (h0, .inr (1, [.ref q1, .ref q2, .ref q3, .ref q4, .ref q5, .ref q6, .ref q7])) :: (q7, .inl (Y.2.1 0, 12, .inl (fun _ => 0))) :: (q6, .inl (Y.2.1 0, 12, .inl (fun _ => 0))) :: (q5, .inl (Y.2.1 0, 12, .inl (fun _ => 0))) :: (q4, .inl (Y.2.1 0, 12, .inl (fun _ => 0))) :: (q3, .inl (Y.2.1 0, 12, .inl (x_fill 3 (-1)))) :: (q2, .inl (Y.2.1 0, 12, .inl (x_fill 3 (-1)))) :: (q1, .inl (Y.2.1 0, 12, .inl (fun _ => 0))) :: []) rfl dX1_init_81 (fun H locs hI => ?_)
  refine lv_iinc (v := 3) (lv' := [(1, .int 3), (0, .ref h0)]) hx hb dX1_init_82 hl (k := 0) rfl (by decide) (by decide) rfl (fun ls hl => ?_)
  refine lv_goto (tgt := 62) hx hb dX1_init_85 (by decide) ?_
  refine lv_iload_n hx hb dX1_init_62 rfl (lv_at hl 0 rfl) ?_
  refine lv_bipush (v := 12) hx hb dX1_init_63 (by decide) ?_
  refine lv_icmp_ge (tgt := 88) hx hb dX1_init_65 (by decide) (fun c9 => absurd c9 (by decide)) (fun _ => ?_)
  refine lv_aload_n hx hb dX1_init_68 rfl (lv_at hl 1 rfl) ?_
  refine xc_get F hI 0 rfl rfl xin_1 (i := 1) (v := .ref q2) (by decide) u_fl_X1_15 rfl rfl dX1_init_69 ?_
  refine lv_iload_n hx hb dX1_init_72 rfl (lv_at hl 0 rfl) ?_
  refine lv_iconst (v := (-1)) hx hb dX1_init_73 (by decide) ?_
  refine xc_iast (n := 12) F hI 6 rfl (by decide) (ws' := (h0, .inr (1, [.ref q1, .ref q2, .ref q3, .ref q4, .ref q5, .ref q6, .ref q7])) :: (q7, .inl (Y.2.1 0, 12, .inl (fun _ => 0))) :: (q6, .inl (Y.2.1 0, 12, .inl (fun _ => 0))) :: (q5, .inl (Y.2.1 0, 12, .inl (fun _ => 0))) :: (q4, .inl (Y.2.1 0, 12, .inl (fun _ => 0))) :: (q3, .inl (Y.2.1 0, 12, .inl (x_fill 3 (-1)))) :: (q2, .inl (Y.2.1 0, 12, .inl (x_fill 4 (-1)))) :: (q1, .inl (Y.2.1 0, 12, .inl (fun _ => 0))) :: []) rfl dX1_init_74 (fun H locs hI => ?_)
  refine lv_aload_n hx hb dX1_init_75 rfl (lv_at hl 1 rfl) ?_
  refine xc_get F hI 0 rfl rfl xin_1 (i := 2) (v := .ref q3) (by decide) u_fl_X1_18 rfl rfl dX1_init_76 ?_
  refine lv_iload_n hx hb dX1_init_79 rfl (lv_at hl 0 rfl) ?_
  refine lv_iconst (v := (-1)) hx hb dX1_init_80 (by decide) ?_
  refine xc_iast (n := 12) F hI 5 rfl (by decide) (ws' := (h0, .inr (1, [.ref q1, .ref q2, .ref q3, .ref q4, .ref q5, .ref q6, .ref q7])) :: (q7, .inl (Y.2.1 0, 12, .inl (fun _ => 0))) :: (q6, .inl (Y.2.1 0, 12, .inl (fun _ => 0))) :: (q5, .inl (Y.2.1 0, 12, .inl (fun _ => 0))) :: (q4, .inl (Y.2.1 0, 12, .inl (fun _ => 0))) :: (q3, .inl (Y.2.1 0, 12, .inl (x_fill 4 (-1)))) :: (q2, .inl (Y.2.1 0, 12, .inl (x_fill 4 (-1)))) :: (q1, .inl (Y.2.1 0, 12, .inl (fun _ => 0))) :: []) rfl dX1_init_81 (fun H locs hI => ?_)
  refine lv_iinc (v := 4) (lv' := [(1, .int 4), (0, .ref h0)]) hx hb dX1_init_82 hl (k := 0) rfl (by decide) (by decide) rfl (fun ls hl => ?_)
  refine lv_goto (tgt := 62) hx hb dX1_init_85 (by decide) ?_
  refine lv_iload_n hx hb dX1_init_62 rfl (lv_at hl 0 rfl) ?_
  refine lv_bipush (v := 12) hx hb dX1_init_63 (by decide) ?_
  refine lv_icmp_ge (tgt := 88) hx hb dX1_init_65 (by decide) (fun c9 => absurd c9 (by decide)) (fun _ => ?_)
  refine lv_aload_n hx hb dX1_init_68 rfl (lv_at hl 1 rfl) ?_
  refine xc_get F hI 0 rfl rfl xin_1 (i := 1) (v := .ref q2) (by decide) u_fl_X1_15 rfl rfl dX1_init_69 ?_
  refine lv_iload_n hx hb dX1_init_72 rfl (lv_at hl 0 rfl) ?_
  refine lv_iconst (v := (-1)) hx hb dX1_init_73 (by decide) ?_
  refine xc_iast (n := 12) F hI 6 rfl (by decide) (ws' := (h0, .inr (1, [.ref q1, .ref q2, .ref q3, .ref q4, .ref q5, .ref q6, .ref q7])) :: (q7, .inl (Y.2.1 0, 12, .inl (fun _ => 0))) :: (q6, .inl (Y.2.1 0, 12, .inl (fun _ => 0))) :: (q5, .inl (Y.2.1 0, 12, .inl (fun _ => 0))) :: (q4, .inl (Y.2.1 0, 12, .inl (fun _ => 0))) :: (q3, .inl (Y.2.1 0, 12, .inl (x_fill 4 (-1)))) :: (q2, .inl (Y.2.1 0, 12, .inl (x_fill 5 (-1)))) :: (q1, .inl (Y.2.1 0, 12, .inl (fun _ => 0))) :: []) rfl dX1_init_74 (fun H locs hI => ?_)
  refine lv_aload_n hx hb dX1_init_75 rfl (lv_at hl 1 rfl) ?_
  refine xc_get F hI 0 rfl rfl xin_1 (i := 2) (v := .ref q3) (by decide) u_fl_X1_18 rfl rfl dX1_init_76 ?_
  refine lv_iload_n hx hb dX1_init_79 rfl (lv_at hl 0 rfl) ?_
  refine lv_iconst (v := (-1)) hx hb dX1_init_80 (by decide) ?_
  refine xc_iast (n := 12) F hI 5 rfl (by decide) (ws' := (h0, .inr (1, [.ref q1, .ref q2, .ref q3, .ref q4, .ref q5, .ref q6, .ref q7])) :: (q7, .inl (Y.2.1 0, 12, .inl (fun _ => 0))) :: (q6, .inl (Y.2.1 0, 12, .inl (fun _ => 0))) :: (q5, .inl (Y.2.1 0, 12, .inl (fun _ => 0))) :: (q4, .inl (Y.2.1 0, 12, .inl (fun _ => 0))) :: (q3, .inl (Y.2.1 0, 12, .inl (x_fill 5 (-1)))) :: (q2, .inl (Y.2.1 0, 12, .inl (x_fill 5 (-1)))) :: (q1, .inl (Y.2.1 0, 12, .inl (fun _ => 0))) :: []) rfl dX1_init_81 (fun H locs hI => ?_)
  refine lv_iinc (v := 5) (lv' := [(1, .int 5), (0, .ref h0)]) hx hb dX1_init_82 hl (k := 0) rfl (by decide) (by decide) rfl (fun ls hl => ?_)
  refine lv_goto (tgt := 62) hx hb dX1_init_85 (by decide) ?_
  refine lv_iload_n hx hb dX1_init_62 rfl (lv_at hl 0 rfl) ?_
  refine lv_bipush (v := 12) hx hb dX1_init_63 (by decide) ?_
  refine lv_icmp_ge (tgt := 88) hx hb dX1_init_65 (by decide) (fun c9 => absurd c9 (by decide)) (fun _ => ?_)
  refine lv_aload_n hx hb dX1_init_68 rfl (lv_at hl 1 rfl) ?_
  refine xc_get F hI 0 rfl rfl xin_1 (i := 1) (v := .ref q2) (by decide) u_fl_X1_15 rfl rfl dX1_init_69 ?_
  refine lv_iload_n hx hb dX1_init_72 rfl (lv_at hl 0 rfl) ?_
  refine lv_iconst (v := (-1)) hx hb dX1_init_73 (by decide) ?_
  refine xc_iast (n := 12) F hI 6 rfl (by decide) (ws' := (h0, .inr (1, [.ref q1, .ref q2, .ref q3, .ref q4, .ref q5, .ref q6, .ref q7])) :: (q7, .inl (Y.2.1 0, 12, .inl (fun _ => 0))) :: (q6, .inl (Y.2.1 0, 12, .inl (fun _ => 0))) :: (q5, .inl (Y.2.1 0, 12, .inl (fun _ => 0))) :: (q4, .inl (Y.2.1 0, 12, .inl (fun _ => 0))) :: (q3, .inl (Y.2.1 0, 12, .inl (x_fill 5 (-1)))) :: (q2, .inl (Y.2.1 0, 12, .inl (x_fill 6 (-1)))) :: (q1, .inl (Y.2.1 0, 12, .inl (fun _ => 0))) :: []) rfl dX1_init_74 (fun H locs hI => ?_)
  refine lv_aload_n hx hb dX1_init_75 rfl (lv_at hl 1 rfl) ?_
  refine xc_get F hI 0 rfl rfl xin_1 (i := 2) (v := .ref q3) (by decide) u_fl_X1_18 rfl rfl dX1_init_76 ?_
  refine lv_iload_n hx hb dX1_init_79 rfl (lv_at hl 0 rfl) ?_
  refine lv_iconst (v := (-1)) hx hb dX1_init_80 (by decide) ?_
  refine xc_iast (n := 12) F hI 5 rfl (by decide) (ws' := (h0, .inr (1, [.ref q1, .ref q2, .ref q3, .ref q4, .ref q5, .ref q6, .ref q7])) :: (q7, .inl (Y.2.1 0, 12, .inl (fun _ => 0))) :: (q6, .inl (Y.2.1 0, 12, .inl (fun _ => 0))) :: (q5, .inl (Y.2.1 0, 12, .inl (fun _ => 0))) :: (q4, .inl (Y.2.1 0, 12, .inl (fun _ => 0))) :: (q3, .inl (Y.2.1 0, 12, .inl (x_fill 6 (-1)))) :: (q2, .inl (Y.2.1 0, 12, .inl (x_fill 6 (-1)))) :: (q1, .inl (Y.2.1 0, 12, .inl (fun _ => 0))) :: []) rfl dX1_init_81 (fun H locs hI => ?_)
  refine lv_iinc (v := 6) (lv' := [(1, .int 6), (0, .ref h0)]) hx hb dX1_init_82 hl (k := 0) rfl (by decide) (by decide) rfl (fun ls hl => ?_)
  refine lv_goto (tgt := 62) hx hb dX1_init_85 (by decide) ?_
  refine lv_iload_n hx hb dX1_init_62 rfl (lv_at hl 0 rfl) ?_
  refine lv_bipush (v := 12) hx hb dX1_init_63 (by decide) ?_
  refine lv_icmp_ge (tgt := 88) hx hb dX1_init_65 (by decide) (fun c9 => absurd c9 (by decide)) (fun _ => ?_)
  refine lv_aload_n hx hb dX1_init_68 rfl (lv_at hl 1 rfl) ?_
  refine xc_get F hI 0 rfl rfl xin_1 (i := 1) (v := .ref q2) (by decide) u_fl_X1_15 rfl rfl dX1_init_69 ?_
  refine lv_iload_n hx hb dX1_init_72 rfl (lv_at hl 0 rfl) ?_
  refine lv_iconst (v := (-1)) hx hb dX1_init_73 (by decide) ?_
  refine xc_iast (n := 12) F hI 6 rfl (by decide) (ws' := (h0, .inr (1, [.ref q1, .ref q2, .ref q3, .ref q4, .ref q5, .ref q6, .ref q7])) :: (q7, .inl (Y.2.1 0, 12, .inl (fun _ => 0))) :: (q6, .inl (Y.2.1 0, 12, .inl (fun _ => 0))) :: (q5, .inl (Y.2.1 0, 12, .inl (fun _ => 0))) :: (q4, .inl (Y.2.1 0, 12, .inl (fun _ => 0))) :: (q3, .inl (Y.2.1 0, 12, .inl (x_fill 6 (-1)))) :: (q2, .inl (Y.2.1 0, 12, .inl (x_fill 7 (-1)))) :: (q1, .inl (Y.2.1 0, 12, .inl (fun _ => 0))) :: []) rfl dX1_init_74 (fun H locs hI => ?_)
  refine lv_aload_n hx hb dX1_init_75 rfl (lv_at hl 1 rfl) ?_
  refine xc_get F hI 0 rfl rfl xin_1 (i := 2) (v := .ref q3) (by decide) u_fl_X1_18 rfl rfl dX1_init_76 ?_
  refine lv_iload_n hx hb dX1_init_79 rfl (lv_at hl 0 rfl) ?_
  refine lv_iconst (v := (-1)) hx hb dX1_init_80 (by decide) ?_
  refine xc_iast (n := 12) F hI 5 rfl (by decide) (ws' := (h0, .inr (1, [.ref q1, .ref q2, .ref q3, .ref q4, .ref q5, .ref q6, .ref q7])) :: (q7, .inl (Y.2.1 0, 12, .inl (fun _ => 0))) :: (q6, .inl (Y.2.1 0, 12, .inl (fun _ => 0))) :: (q5, .inl (Y.2.1 0, 12, .inl (fun _ => 0))) :: (q4, .inl (Y.2.1 0, 12, .inl (fun _ => 0))) :: (q3, .inl (Y.2.1 0, 12, .inl (x_fill 7 (-1)))) :: (q2, .inl (Y.2.1 0, 12, .inl (x_fill 7 (-1)))) :: (q1, .inl (Y.2.1 0, 12, .inl (fun _ => 0))) :: []) rfl dX1_init_81 (fun H locs hI => ?_)
  refine lv_iinc (v := 7) (lv' := [(1, .int 7), (0, .ref h0)]) hx hb dX1_init_82 hl (k := 0) rfl (by decide) (by decide) rfl (fun ls hl => ?_)
  refine lv_goto (tgt := 62) hx hb dX1_init_85 (by decide) ?_
  refine lv_iload_n hx hb dX1_init_62 rfl (lv_at hl 0 rfl) ?_
  refine lv_bipush (v := 12) hx hb dX1_init_63 (by decide) ?_
  refine lv_icmp_ge (tgt := 88) hx hb dX1_init_65 (by decide) (fun c9 => absurd c9 (by decide)) (fun _ => ?_)
  refine lv_aload_n hx hb dX1_init_68 rfl (lv_at hl 1 rfl) ?_
  refine xc_get F hI 0 rfl rfl xin_1 (i := 1) (v := .ref q2) (by decide) u_fl_X1_15 rfl rfl dX1_init_69 ?_
  refine lv_iload_n hx hb dX1_init_72 rfl (lv_at hl 0 rfl) ?_
  refine lv_iconst (v := (-1)) hx hb dX1_init_73 (by decide) ?_
  refine xc_iast (n := 12) F hI 6 rfl (by decide) (ws' := (h0, .inr (1, [.ref q1, .ref q2, .ref q3, .ref q4, .ref q5, .ref q6, .ref q7])) :: (q7, .inl (Y.2.1 0, 12, .inl (fun _ => 0))) :: (q6, .inl (Y.2.1 0, 12, .inl (fun _ => 0))) :: (q5, .inl (Y.2.1 0, 12, .inl (fun _ => 0))) :: (q4, .inl (Y.2.1 0, 12, .inl (fun _ => 0))) :: (q3, .inl (Y.2.1 0, 12, .inl (x_fill 7 (-1)))) :: (q2, .inl (Y.2.1 0, 12, .inl (x_fill 8 (-1)))) :: (q1, .inl (Y.2.1 0, 12, .inl (fun _ => 0))) :: []) rfl dX1_init_74 (fun H locs hI => ?_)
  refine lv_aload_n hx hb dX1_init_75 rfl (lv_at hl 1 rfl) ?_
  refine xc_get F hI 0 rfl rfl xin_1 (i := 2) (v := .ref q3) (by decide) u_fl_X1_18 rfl rfl dX1_init_76 ?_
  refine lv_iload_n hx hb dX1_init_79 rfl (lv_at hl 0 rfl) ?_
  refine lv_iconst (v := (-1)) hx hb dX1_init_80 (by decide) ?_
  refine xc_iast (n := 12) F hI 5 rfl (by decide) (ws' := (h0, .inr (1, [.ref q1, .ref q2, .ref q3, .ref q4, .ref q5, .ref q6, .ref q7])) :: (q7, .inl (Y.2.1 0, 12, .inl (fun _ => 0))) :: (q6, .inl (Y.2.1 0, 12, .inl (fun _ => 0))) :: (q5, .inl (Y.2.1 0, 12, .inl (fun _ => 0))) :: (q4, .inl (Y.2.1 0, 12, .inl (fun _ => 0))) :: (q3, .inl (Y.2.1 0, 12, .inl (x_fill 8 (-1)))) :: (q2, .inl (Y.2.1 0, 12, .inl (x_fill 8 (-1)))) :: (q1, .inl (Y.2.1 0, 12, .inl (fun _ => 0))) :: []) rfl dX1_init_81 (fun H locs hI => ?_)
  refine lv_iinc (v := 8) (lv' := [(1, .int 8), (0, .ref h0)]) hx hb dX1_init_82 hl (k := 0) rfl (by decide) (by decide) rfl (fun ls hl => ?_)
  refine lv_goto (tgt := 62) hx hb dX1_init_85 (by decide) ?_
  refine lv_iload_n hx hb dX1_init_62 rfl (lv_at hl 0 rfl) ?_
  refine lv_bipush (v := 12) hx hb dX1_init_63 (by decide) ?_
  refine lv_icmp_ge (tgt := 88) hx hb dX1_init_65 (by decide) (fun c9 => absurd c9 (by decide)) (fun _ => ?_)
  refine lv_aload_n hx hb dX1_init_68 rfl (lv_at hl 1 rfl) ?_
  refine xc_get F hI 0 rfl rfl xin_1 (i := 1) (v := .ref q2) (by decide) u_fl_X1_15 rfl rfl dX1_init_69 ?_
  refine lv_iload_n hx hb dX1_init_72 rfl (lv_at hl 0 rfl) ?_
  refine lv_iconst (v := (-1)) hx hb dX1_init_73 (by decide) ?_
  refine xc_iast (n := 12) F hI 6 rfl (by decide) (ws' := (h0, .inr (1, [.ref q1, .ref q2, .ref q3, .ref q4, .ref q5, .ref q6, .ref q7])) :: (q7, .inl (Y.2.1 0, 12, .inl (fun _ => 0))) :: (q6, .inl (Y.2.1 0, 12, .inl (fun _ => 0))) :: (q5, .inl (Y.2.1 0, 12, .inl (fun _ => 0))) :: (q4, .inl (Y.2.1 0, 12, .inl (fun _ => 0))) :: (q3, .inl (Y.2.1 0, 12, .inl (x_fill 8 (-1)))) :: (q2, .inl (Y.2.1 0, 12, .inl (x_fill 9 (-1)))) :: (q1, .inl (Y.2.1 0, 12, .inl (fun _ => 0))) :: []) rfl dX1_init_74 (fun H locs hI => ?_)
  refine lv_aload_n hx hb dX1_init_75 rfl (lv_at hl 1 rfl) ?_
  refine xc_get F hI 0 rfl rfl xin_1 (i := 2) (v := .ref q3) (by decide) u_fl_X1_18 rfl rfl dX1_init_76 ?_
  refine lv_iload_n hx hb dX1_init_79 rfl (lv_at hl 0 rfl) ?_
  refine lv_iconst (v := (-1)) hx hb dX1_init_80 (by decide) ?_
  refine xc_iast (n := 12) F hI 5 rfl (by decide) (ws' := (h0, .inr (1, [.ref q1, .ref q2, .ref q3, .ref q4, .ref q5, .ref q6, .ref q7])) :: (q7, .inl (Y.2.1 0, 12, .inl (fun _ => 0))) :: (q6, .inl (Y.2.1 0, 12, .inl (fun _ => 0))) :: (q5, .inl (Y.2.1 0, 12, .inl (fun _ => 0))) :: (q4, .inl (Y.2.1 0, 12, .inl (fun _ => 0))) :: (q3, .inl (Y.2.1 0, 12, .inl (x_fill 9 (-1)))) :: (q2, .inl (Y.2.1 0, 12, .inl (x_fill 9 (-1)))) :: (q1, .inl (Y.2.1 0, 12, .inl (fun _ => 0))) :: []) rfl dX1_init_81 (fun H locs hI => ?_)
  refine lv_iinc (v := 9) (lv' := [(1, .int 9), (0, .ref h0)]) hx hb dX1_init_82 hl (k := 0) rfl (by decide) (by decide) rfl (fun ls hl => ?_)
  refine lv_goto (tgt := 62) hx hb dX1_init_85 (by decide) ?_
  refine lv_iload_n hx hb dX1_init_62 rfl (lv_at hl 0 rfl) ?_
  refine lv_bipush (v := 12) hx hb dX1_init_63 (by decide) ?_
  refine lv_icmp_ge (tgt := 88) hx hb dX1_init_65 (by decide) (fun c9 => absurd c9 (by decide)) (fun _ => ?_)
  refine lv_aload_n hx hb dX1_init_68 rfl (lv_at hl 1 rfl) ?_
  refine xc_get F hI 0 rfl rfl xin_1 (i := 1) (v := .ref q2) (by decide) u_fl_X1_15 rfl rfl dX1_init_69 ?_
  refine lv_iload_n hx hb dX1_init_72 rfl (lv_at hl 0 rfl) ?_
  refine lv_iconst (v := (-1)) hx hb dX1_init_73 (by decide) ?_
  refine xc_iast (n := 12) F hI 6 rfl (by decide) (ws' := (h0, .inr (1, [.ref q1, .ref q2, .ref q3, .ref q4, .ref q5, .ref q6, .ref q7])) :: (q7, .inl (Y.2.1 0, 12, .inl (fun _ => 0))) :: (q6, .inl (Y.2.1 0, 12, .inl (fun _ => 0))) :: (q5, .inl (Y.2.1 0, 12, .inl (fun _ => 0))) :: (q4, .inl (Y.2.1 0, 12, .inl (fun _ => 0))) :: (q3, .inl (Y.2.1 0, 12, .inl (x_fill 9 (-1)))) :: (q2, .inl (Y.2.1 0, 12, .inl (x_fill 10 (-1)))) :: (q1, .inl (Y.2.1 0, 12, .inl (fun _ => 0))) :: []) rfl dX1_init_74 (fun H locs hI => ?_)
  refine lv_aload_n hx hb dX1_init_75 rfl (lv_at hl 1 rfl) ?_
  refine xc_get F hI 0 rfl rfl xin_1 (i := 2) (v := .ref q3) (by decide) u_fl_X1_18 rfl rfl dX1_init_76 ?_
  refine lv_iload_n hx hb dX1_init_79 rfl (lv_at hl 0 rfl) ?_
  refine lv_iconst (v := (-1)) hx hb dX1_init_80 (by decide) ?_
  refine xc_iast (n := 12) F hI 5 rfl (by decide) (ws' := (h0, .inr (1, [.ref q1, .ref q2, .ref q3, .ref q4, .ref q5, .ref q6, .ref q7])) :: (q7, .inl (Y.2.1 0, 12, .inl (fun _ => 0))) :: (q6, .inl (Y.2.1 0, 12, .inl (fun _ => 0))) :: (q5, .inl (Y.2.1 0, 12, .inl (fun _ => 0))) :: (q4, .inl (Y.2.1 0, 12, .inl (fun _ => 0))) :: (q3, .inl (Y.2.1 0, 12, .inl (x_fill 10 (-1)))) :: (q2, .inl (Y.2.1 0, 12, .inl (x_fill 10 (-1)))) :: (q1, .inl (Y.2.1 0, 12, .inl (fun _ => 0))) :: []) rfl dX1_init_81 (fun H locs hI => ?_)
  refine lv_iinc (v := 10) (lv' := [(1, .int 10), (0, .ref h0)]) hx hb dX1_init_82 hl (k := 0) rfl (by decide) (by decide) rfl (fun ls hl => ?_)
  refine lv_goto (tgt := 62) hx hb dX1_init_85 (by decide) ?_
  refine lv_iload_n hx hb dX1_init_62 rfl (lv_at hl 0 rfl) ?_
  refine lv_bipush (v := 12) hx hb dX1_init_63 (by decide) ?_
  refine lv_icmp_ge (tgt := 88) hx hb dX1_init_65 (by decide) (fun c9 => absurd c9 (by decide)) (fun _ => ?_)
  refine lv_aload_n hx hb dX1_init_68 rfl (lv_at hl 1 rfl) ?_
  refine xc_get F hI 0 rfl rfl xin_1 (i := 1) (v := .ref q2) (by decide) u_fl_X1_15 rfl rfl dX1_init_69 ?_
  refine lv_iload_n hx hb dX1_init_72 rfl (lv_at hl 0 rfl) ?_
  refine lv_iconst (v := (-1)) hx hb dX1_init_73 (by decide) ?_
  refine xc_iast (n := 12) F hI 6 rfl (by decide) (ws' := (h0, .inr (1, [.ref q1, .ref q2, .ref q3, .ref q4, .ref q5, .ref q6, .ref q7])) :: (q7, .inl (Y.2.1 0, 12, .inl (fun _ => 0))) :: (q6, .inl (Y.2.1 0, 12, .inl (fun _ => 0))) :: (q5, .inl (Y.2.1 0, 12, .inl (fun _ => 0))) :: (q4, .inl (Y.2.1 0, 12, .inl (fun _ => 0))) :: (q3, .inl (Y.2.1 0, 12, .inl (x_fill 10 (-1)))) :: (q2, .inl (Y.2.1 0, 12, .inl (x_fill 11 (-1)))) :: (q1, .inl (Y.2.1 0, 12, .inl (fun _ => 0))) :: []) rfl dX1_init_74 (fun H locs hI => ?_)
  refine lv_aload_n hx hb dX1_init_75 rfl (lv_at hl 1 rfl) ?_
  refine xc_get F hI 0 rfl rfl xin_1 (i := 2) (v := .ref q3) (by decide) u_fl_X1_18 rfl rfl dX1_init_76 ?_
  refine lv_iload_n hx hb dX1_init_79 rfl (lv_at hl 0 rfl) ?_
  refine lv_iconst (v := (-1)) hx hb dX1_init_80 (by decide) ?_
  refine xc_iast (n := 12) F hI 5 rfl (by decide) (ws' := (h0, .inr (1, [.ref q1, .ref q2, .ref q3, .ref q4, .ref q5, .ref q6, .ref q7])) :: (q7, .inl (Y.2.1 0, 12, .inl (fun _ => 0))) :: (q6, .inl (Y.2.1 0, 12, .inl (fun _ => 0))) :: (q5, .inl (Y.2.1 0, 12, .inl (fun _ => 0))) :: (q4, .inl (Y.2.1 0, 12, .inl (fun _ => 0))) :: (q3, .inl (Y.2.1 0, 12, .inl (x_fill 11 (-1)))) :: (q2, .inl (Y.2.1 0, 12, .inl (x_fill 11 (-1)))) :: (q1, .inl (Y.2.1 0, 12, .inl (fun _ => 0))) :: []) rfl dX1_init_81 (fun H locs hI => ?_)
  refine lv_iinc (v := 11) (lv' := [(1, .int 11), (0, .ref h0)]) hx hb dX1_init_82 hl (k := 0) rfl (by decide) (by decide) rfl (fun ls hl => ?_)
  refine lv_goto (tgt := 62) hx hb dX1_init_85 (by decide) ?_
  refine lv_iload_n hx hb dX1_init_62 rfl (lv_at hl 0 rfl) ?_
  refine lv_bipush (v := 12) hx hb dX1_init_63 (by decide) ?_
  refine lv_icmp_ge (tgt := 88) hx hb dX1_init_65 (by decide) (fun c9 => absurd c9 (by decide)) (fun _ => ?_)
  refine lv_aload_n hx hb dX1_init_68 rfl (lv_at hl 1 rfl) ?_
  refine xc_get F hI 0 rfl rfl xin_1 (i := 1) (v := .ref q2) (by decide) u_fl_X1_15 rfl rfl dX1_init_69 ?_
  refine lv_iload_n hx hb dX1_init_72 rfl (lv_at hl 0 rfl) ?_
  refine lv_iconst (v := (-1)) hx hb dX1_init_73 (by decide) ?_
  refine xc_iast (n := 12) F hI 6 rfl (by decide) (ws' := (h0, .inr (1, [.ref q1, .ref q2, .ref q3, .ref q4, .ref q5, .ref q6, .ref q7])) :: (q7, .inl (Y.2.1 0, 12, .inl (fun _ => 0))) :: (q6, .inl (Y.2.1 0, 12, .inl (fun _ => 0))) :: (q5, .inl (Y.2.1 0, 12, .inl (fun _ => 0))) :: (q4, .inl (Y.2.1 0, 12, .inl (fun _ => 0))) :: (q3, .inl (Y.2.1 0, 12, .inl (x_fill 11 (-1)))) :: (q2, .inl (Y.2.1 0, 12, .inl (x_fill 12 (-1)))) :: (q1, .inl (Y.2.1 0, 12, .inl (fun _ => 0))) :: []) rfl dX1_init_74 (fun H locs hI => ?_)
  refine lv_aload_n hx hb dX1_init_75 rfl (lv_at hl 1 rfl) ?_
  refine xc_get F hI 0 rfl rfl xin_1 (i := 2) (v := .ref q3) (by decide) u_fl_X1_18 rfl rfl dX1_init_76 ?_
  refine lv_iload_n hx hb dX1_init_79 rfl (lv_at hl 0 rfl) ?_
  refine lv_iconst (v := (-1)) hx hb dX1_init_80 (by decide) ?_
  refine xc_iast (n := 12) F hI 5 rfl (by decide) (ws' := (h0, .inr (1, [.ref q1, .ref q2, .ref q3, .ref q4, .ref q5, .ref q6, .ref q7])) :: (q7, .inl (Y.2.1 0, 12, .inl (fun _ => 0))) :: (q6, .inl (Y.2.1 0, 12, .inl (fun _ => 0))) :: (q5, .inl (Y.2.1 0, 12, .inl (fun _ => 0))) :: (q4, .inl (Y.2.1 0, 12, .inl (fun _ => 0))) :: (q3, .inl (Y.2.1 0, 12, .inl (x_fill 12 (-1)))) :: (q2, .inl (Y.2.1 0, 12, .inl (x_fill 12 (-1)))) :: (q1, .inl (Y.2.1 0, 12, .inl (fun _ => 0))) :: []) rfl dX1_init_81 (fun H locs hI => ?_)
  refine lv_iinc (v := 12) (lv' := [(1, .int 12), (0, .ref h0)]) hx hb dX1_init_82 hl (k := 0) rfl (by decide) (by decide) rfl (fun ls hl => ?_)
  refine lv_goto (tgt := 62) hx hb dX1_init_85 (by decide) ?_
  refine lv_iload_n hx hb dX1_init_62 rfl (lv_at hl 0 rfl) ?_
  refine lv_bipush (v := 12) hx hb dX1_init_63 (by decide) ?_
  refine lv_icmp_ge (tgt := 88) hx hb dX1_init_65 (by decide) (fun _ => ?_) (fun c9 => absurd (by decide) c9)
  exact xc_ret F hI (xg_X1 h0 q7 q6 q5 q4 q3 q2 q1) rfl rfl (Nat.le_of_ble_eq_true rfl) (Nat.le_of_ble_eq_true rfl) dX1_init_88
def xg_X3 (h0 q7 q6 q5 q4 q3 q2 q1 : Nat) : Nat → Nat → Nat := fun j k => match j with | 0 => (match k with | 2 => h0 | 12 => q1 | 13 => q2 | 14 => q3 | 15 => q4 | 16 => q5 | 17 => q6 | 18 => q7 | _ => 0) | _ => 0
def xi_X3 : List (Nat × Nat) := [(0, 2), (0, 18), (0, 17), (0, 16), (0, 15), (0, 14), (0, 13), (0, 12)]
abbrev rm_X3_init : Room := { frames := 1, cells := 7, slots := 104, locals := 20 }
set_option maxHeartbeats 8000000 in
set_option maxRecDepth 100000 in
theorem cX3 (l : Launch) (Y : x_T) (h0 sz : Nat) : Met l yX3_init (x_ws yX3_init cX3_init 2 none) rm_X3_init (xc_Pc Y h0 (.inr (3, [.null, .null, .null, .null, .null, .null, .null, .int 0, .int 0, .int 0, .int 0])) sz) (xc_Q Y h0 sz (0, 2) x_s0 xi_X3) 7 104 (xc_A h0 sz) := by
  refine Met.ofW (cc := cX3_init) (maxL := 2) (ret := none) (by decide) rfl ?_
  intro p e s m args below meth c s₁ B hml hv
  obtain ⟨F, hO, hn0, hI, rfl, rfl⟩ := xc_begin B hml hv rfl
  replace F : x_F p s m _ meth c cX3_init 2 RX3 none := F
  have hx := F.1
  have hb := F.2.1
  refine x_entry (vs := [.ref h0]) (n := 2) (Nat.le_of_ble_eq_true rfl) (fun ls hl => ?_)
  replace hl : lv_has ls 2 [(0, .ref h0)] := hl
  have hI : xc_I Y (xc_A h0 s.heap.size) s s.heap [] ([(h0, .inr (3, [.null, .null, .null, .null, .null, .null, .null, .int 0, .int 0, .int 0, .int 0]))]) := hI
  refine lv_aload_n hx hb dX3_init_0 rfl (lv_at hl 0 rfl) ?_
  refine xc_objInit F u_ml_X3_3 u_in_java_lang_Object_init_ u_co_java_lang_Object_init_ hl.1 ⟨by decide, by decide⟩ (Nat.le_of_ble_eq_true rfl) dX3_init_1 ?_
  refine lv_aload_n hx hb dX3_init_4 rfl (lv_at hl 0 rfl) ?_
  refine lv_bipush (v := 16) hx hb dX3_init_5 (by decide) ?_
  refine xc_newa (ty := .int) (N' := 16) (a0 := (16, .inl (fun _ => 0))) F hI rfl u_arr_int 0 rfl (fun C h9 => by cases h9) (fun _ => rfl) (by decide) (by decide) (by decide) (Nat.le_of_ble_eq_true rfl) (Nat.le_of_ble_eq_true rfl) dX3_init_7 (fun q1 H hI => ?_)
  have hI : xc_I Y (xc_A h0 s.heap.size) s H _ ((h0, .inr (3, [.null, .null, .null, .null, .null, .null, .null, .int 0, .int 0, .int 0, .int 0])) :: (q1, .inl (Y.2.1 0, 16, .inl (fun _ => 0))) :: []) := hI
  refine xc_putF F hn0 hI 0 rfl tyX3 rfl xin_3 tyX3_ok nmX3 (i := 0) (by decide) u_fl_X3_9 rfl rfl rfl (tyX3_ok 0 (by decide)) rfl rfl (Nat.le_of_ble_eq_true rfl) (ws' := (h0, .inr (3, [.ref q1, .null, .null, .null, .null, .null, .null, .int 0, .int 0, .int 0, .int 0])) :: (q1, .inl (Y.2.1 0, 16, .inl (fun _ => 0))) :: []) rfl dX3_init_9 (fun H locs hI => ?_)
  refine lv_aload_n hx hb dX3_init_12 rfl (lv_at hl 0 rfl) ?_
  refine lv_bipush (v := 16) hx hb dX3_init_13 (by decide) ?_
  refine xc_newa (ty := .int) (N' := 16) (a0 := (16, .inl (fun _ => 0))) F hI rfl u_arr_int 0 rfl (fun C h9 => by cases h9) (fun _ => rfl) (by decide) (by decide) (by decide) (Nat.le_of_ble_eq_true rfl) (Nat.le_of_ble_eq_true rfl) dX3_init_15 (fun q2 H hI => ?_)
  have hI : xc_I Y (xc_A h0 s.heap.size) s H _ ((h0, .inr (3, [.ref q1, .null, .null, .null, .null, .null, .null, .int 0, .int 0, .int 0, .int 0])) :: (q2, .inl (Y.2.1 0, 16, .inl (fun _ => 0))) :: (q1, .inl (Y.2.1 0, 16, .inl (fun _ => 0))) :: []) := hI
  refine xc_putF F hn0 hI 0 rfl tyX3 rfl xin_3 tyX3_ok nmX3 (i := 1) (by decide) u_fl_X3_15 rfl rfl rfl (tyX3_ok 1 (by decide)) rfl rfl (Nat.le_of_ble_eq_true rfl) (ws' := (h0, .inr (3, [.ref q1, .ref q2, .null, .null, .null, .null, .null, .int 0, .int 0, .int 0, .int 0])) :: (q2, .inl (Y.2.1 0, 16, .inl (fun _ => 0))) :: (q1, .inl (Y.2.1 0, 16, .inl (fun _ => 0))) :: []) rfl dX3_init_17 (fun H locs hI => ?_)
  refine lv_aload_n hx hb dX3_init_20 rfl (lv_at hl 0 rfl) ?_
  refine lv_bipush (v := 16) hx hb dX3_init_21 (by decide) ?_
  refine xc_newa (ty := .int) (N' := 16) (a0 := (16, .inl (fun _ => 0))) F hI rfl u_arr_int 0 rfl (fun C h9 => by cases h9) (fun _ => rfl) (by decide) (by decide) (by decide) (Nat.le_of_ble_eq_true rfl) (Nat.le_of_ble_eq_true rfl) dX3_init_23 (fun q3 H hI => ?_)
  have hI : xc_I Y (xc_A h0 s.heap.size) s H _ ((h0, .inr (3, [.ref q1, .ref q2, .null, .null, .null, .null, .null, .int 0, .int 0, .int 0, .int 0])) :: (q3, .inl (Y.2.1 0, 16, .inl (fun _ => 0))) :: (q2, .inl (Y.2.1 0, 16, .inl (fun _ => 0))) :: (q1, .inl (Y.2.1 0, 16, .inl (fun _ => 0))) :: []) := hI
  refine xc_putF F hn0 hI 0 rfl tyX3 rfl xin_3 tyX3_ok nmX3 (i := 2) (by decide) u_fl_X3_18 rfl rfl rfl (tyX3_ok 2 (by decide)) rfl rfl (Nat.le_of_ble_eq_true rfl) (ws' := (h0, .inr (3, [.ref q1, .ref q2, .ref q3, .null, .null, .null, .null, .int 0, .int 0, .int 0, .int 0])) :: (q3, .inl (Y.2.1 0, 16, .inl (fun _ => 0))) :: (q2, .inl (Y.2.1 0, 16, .inl (fun _ => 0))) :: (q1, .inl (Y.2.1 0, 16, .inl (fun _ => 0))) :: []) rfl dX3_init_25 (fun H locs hI => ?_)
  refine lv_aload_n hx hb dX3_init_28 rfl (lv_at hl 0 rfl) ?_
  refine lv_bipush (v := 16) hx hb dX3_init_29 (by decide) ?_
  refine xc_newa (ty := .int) (N' := 16) (a0 := (16, .inl (fun _ => 0))) F hI rfl u_arr_int 0 rfl (fun C h9 => by cases h9) (fun _ => rfl) (by decide) (by decide) (by decide) (Nat.le_of_ble_eq_true rfl) (Nat.le_of_ble_eq_true rfl) dX3_init_31 (fun q4 H hI => ?_)
  have hI : xc_I Y (xc_A h0 s.heap.size) s H _ ((h0, .inr (3, [.ref q1, .ref q2, .ref q3, .null, .null, .null, .null, .int 0, .int 0, .int 0, .int 0])) :: (q4, .inl (Y.2.1 0, 16, .inl (fun _ => 0))) :: (q3, .inl (Y.2.1 0, 16, .inl (fun _ => 0))) :: (q2, .inl (Y.2.1 0, 16, .inl (fun _ => 0))) :: (q1, .inl (Y.2.1 0, 16, .inl (fun _ => 0))) :: []) := hI
  refine xc_putF F hn0 hI 0 rfl tyX3 rfl xin_3 tyX3_ok nmX3 (i := 3) (by decide) u_fl_X3_21 rfl rfl rfl (tyX3_ok 3 (by decide)) rfl rfl (Nat.le_of_ble_eq_true rfl) (ws' := (h0, .inr (3, [.ref q1, .ref q2, .ref q3, .ref q4, .null, .null, .null, .int 0, .int 0, .int 0, .int 0])) :: (q4, .inl (Y.2.1 0, 16, .inl (fun _ => 0))) :: (q3, .inl (Y.2.1 0, 16, .inl (fun _ => 0))) :: (q2, .inl (Y.2.1 0, 16, .inl (fun _ => 0))) :: (q1, .inl (Y.2.1 0, 16, .inl (fun _ => 0))) :: []) rfl dX3_init_33 (fun H locs hI => ?_)
  refine lv_aload_n hx hb dX3_init_36 rfl (lv_at hl 0 rfl) ?_
  refine lv_bipush (v := 16) hx hb dX3_init_37 (by decide) ?_
  refine xc_newa (ty := .int) (N' := 16) (a0 := (16, .inl (fun _ => 0))) F hI rfl u_arr_int 0 rfl (fun C h9 => by cases h9) (fun _ => rfl) (by decide) (by decide) (by decide) (Nat.le_of_ble_eq_true rfl) (Nat.le_of_ble_eq_true rfl) dX3_init_39 (fun q5 H hI => ?_)
  have hI : xc_I Y (xc_A h0 s.heap.size) s H _ ((h0, .inr (3, [.ref q1, .ref q2, .ref q3, .ref q4, .null, .null, .null, .int 0, .int 0, .int 0, .int 0])) :: (q5, .inl (Y.2.1 0, 16, .inl (fun _ => 0))) :: (q4, .inl (Y.2.1 0, 16, .inl (fun _ => 0))) :: (q3, .inl (Y.2.1 0, 16, .inl (fun _ => 0))) :: (q2, .inl (Y.2.1 0, 16, .inl (fun _ => 0))) :: (q1, .inl (Y.2.1 0, 16, .inl (fun _ => 0))) :: []) := hI
  refine xc_putF F hn0 hI 0 rfl tyX3 rfl xin_3 tyX3_ok nmX3 (i := 4) (by decide) u_fl_X3_24 rfl rfl rfl (tyX3_ok 4 (by decide)) rfl rfl (Nat.le_of_ble_eq_true rfl) (ws' := (h0, .inr (3, [.ref q1, .ref q2, .ref q3, .ref q4, .ref q5, .null, .null, .int 0, .int 0, .int 0, .int 0])) :: (q5, .inl (Y.2.1 0, 16, .inl (fun _ => 0))) :: (q4, .inl (Y.2.1 0, 16, .inl (fun _ => 0))) :: (q3, .inl (Y.2.1 0, 16, .inl (fun _ => 0))) :: (q2, .inl (Y.2.1 0, 16, .inl (fun _ => 0))) :: (q1, .inl (Y.2.1 0, 16, .inl (fun _ => 0))) :: []) rfl dX3_init_41 (fun H locs hI => ?_)
  refine lv_aload_n hx hb dX3_init_44 rfl (lv_at hl 0 rfl) ?_
  refine lv_bipush (v := 12) hx hb dX3_init_45 (by decide) ?_
  refine xc_newa (ty := .int) (N' := 12) (a0 := (12, .inl (fun _ => 0))) F hI rfl u_arr_int 0 rfl (fun C h9 => by cases h9) (fun _ => rfl) (by decide) (by decide) (by decide) (Nat.le_of_ble_eq_true rfl) (Nat.le_of_ble_eq_true rfl) dX3_init_47 (fun q6 H hI => ?_)
  have hI : xc_I Y (xc_A h0 s.heap.size) s H _ ((h0, .inr (3, [.ref q1, .ref q2, .ref q3, .ref q4, .ref q5, .null, .null, .int 0, .int 0, .int 0, .int 0])) :: (q6, .inl (Y.2.1 0, 12, .inl (fun _ => 0))) :: (q5, .inl (Y.2.1 0, 16, .inl (fun _ => 0))) :: (q4, .inl (Y.2.1 0, 16, .inl (fun _ => 0))) :: (q3, .inl (Y.2.1 0, 16, .inl (fun _ => 0))) :: (q2, .inl (Y.2.1 0, 16, .inl (fun _ => 0))) :: (q1, .inl (Y.2.1 0, 16, .inl (fun _ => 0))) :: []) := hI
  refine xc_putF F hn0 hI 0 rfl tyX3 rfl xin_3 tyX3_ok nmX3 (i := 5) (by decide) u_fl_X3_27 rfl rfl rfl (tyX3_ok 5 (by decide)) rfl rfl (Nat.le_of_ble_eq_true rfl) (ws' := (h0, .inr (3, [.ref q1, .ref q2, .ref q3, .ref q4, .ref q5, .ref q6, .null, .int 0, .int 0, .int 0, .int 0])) :: (q6, .inl (Y.2.1 0, 12, .inl (fun _ => 0))) :: (q5, .inl (Y.2.1 0, 16, .inl (fun _ => 0))) :: (q4, .inl (Y.2.1 0, 16, .inl (fun _ => 0))) :: (q3, .inl (Y.2.1 0, 16, .inl (fun _ => 0))) :: (q2, .inl (Y.2.1 0, 16, .inl (fun _ => 0))) :: (q1, .inl (Y.2.1 0, 16, .inl (fun _ => 0))) :: []) rfl dX3_init_49 (fun H locs hI => ?_)
  refine lv_aload_n hx hb dX3_init_52 rfl (lv_at hl 0 rfl) ?_
  refine lv_bipush (v := 12) hx hb dX3_init_53 (by decide) ?_
  refine xc_newa (ty := .int) (N' := 12) (a0 := (12, .inl (fun _ => 0))) F hI rfl u_arr_int 0 rfl (fun C h9 => by cases h9) (fun _ => rfl) (by decide) (by decide) (by decide) (Nat.le_of_ble_eq_true rfl) (Nat.le_of_ble_eq_true rfl) dX3_init_55 (fun q7 H hI => ?_)
  have hI : xc_I Y (xc_A h0 s.heap.size) s H _ ((h0, .inr (3, [.ref q1, .ref q2, .ref q3, .ref q4, .ref q5, .ref q6, .null, .int 0, .int 0, .int 0, .int 0])) :: (q7, .inl (Y.2.1 0, 12, .inl (fun _ => 0))) :: (q6, .inl (Y.2.1 0, 12, .inl (fun _ => 0))) :: (q5, .inl (Y.2.1 0, 16, .inl (fun _ => 0))) :: (q4, .inl (Y.2.1 0, 16, .inl (fun _ => 0))) :: (q3, .inl (Y.2.1 0, 16, .inl (fun _ => 0))) :: (q2, .inl (Y.2.1 0, 16, .inl (fun _ => 0))) :: (q1, .inl (Y.2.1 0, 16, .inl (fun _ => 0))) :: []) := hI
  refine xc_putF F hn0 hI 0 rfl tyX3 rfl xin_3 tyX3_ok nmX3 (i := 6) (by decide) u_fl_X3_30 rfl rfl rfl (tyX3_ok 6 (by decide)) rfl rfl (Nat.le_of_ble_eq_true rfl) (ws' := (h0, .inr (3, [.ref q1, .ref q2, .ref q3, .ref q4, .ref q5, .ref q6, .ref q7, .int 0, .int 0, .int 0, .int 0])) :: (q7, .inl (Y.2.1 0, 12, .inl (fun _ => 0))) :: (q6, .inl (Y.2.1 0, 12, .inl (fun _ => 0))) :: (q5, .inl (Y.2.1 0, 16, .inl (fun _ => 0))) :: (q4, .inl (Y.2.1 0, 16, .inl (fun _ => 0))) :: (q3, .inl (Y.2.1 0, 16, .inl (fun _ => 0))) :: (q2, .inl (Y.2.1 0, 16, .inl (fun _ => 0))) :: (q1, .inl (Y.2.1 0, 16, .inl (fun _ => 0))) :: []) rfl dX3_init_57 (fun H locs hI => ?_)
  refine lv_aload_n hx hb dX3_init_60 rfl (lv_at hl 0 rfl) ?_
  refine lv_sipush (v := 512) hx hb dX3_init_61 (by decide) ?_
  refine xc_put F hI 0 rfl tyX3 rfl xin_3 tyX3_ok nmX3 (i := 7) (by decide) u_fl_X3_33 rfl rfl (tyX3_ok 7 (by decide)) rfl rfl (Nat.le_of_ble_eq_true rfl) (ws' := (h0, .inr (3, [.ref q1, .ref q2, .ref q3, .ref q4, .ref q5, .ref q6, .ref q7, .int 512, .int 0, .int 0, .int 0])) :: (q7, .inl (Y.2.1 0, 12, .inl (fun _ => 0))) :: (q6, .inl (Y.2.1 0, 12, .inl (fun _ => 0))) :: (q5, .inl (Y.2.1 0, 16, .inl (fun _ => 0))) :: (q4, .inl (Y.2.1 0, 16, .inl (fun _ => 0))) :: (q3, .inl (Y.2.1 0, 16, .inl (fun _ => 0))) :: (q2, .inl (Y.2.1 0, 16, .inl (fun _ => 0))) :: (q1, .inl (Y.2.1 0, 16, .inl (fun _ => 0))) :: []) rfl dX3_init_64 (fun H locs hI => ?_)
  refine lv_aload_n hx hb dX3_init_67 rfl (lv_at hl 0 rfl) ?_
  refine lv_bipush (v := 60) hx hb dX3_init_68 (by decide) ?_
  refine xc_put F hI 0 rfl tyX3 rfl xin_3 tyX3_ok nmX3 (i := 8) (by decide) u_fl_X3_37 rfl rfl (tyX3_ok 8 (by decide)) rfl rfl (Nat.le_of_ble_eq_true rfl) (ws' := (h0, .inr (3, [.ref q1, .ref q2, .ref q3, .ref q4, .ref q5, .ref q6, .ref q7, .int 512, .int 60, .int 0, .int 0])) :: (q7, .inl (Y.2.1 0, 12, .inl (fun _ => 0))) :: (q6, .inl (Y.2.1 0, 12, .inl (fun _ => 0))) :: (q5, .inl (Y.2.1 0, 16, .inl (fun _ => 0))) :: (q4, .inl (Y.2.1 0, 16, .inl (fun _ => 0))) :: (q3, .inl (Y.2.1 0, 16, .inl (fun _ => 0))) :: (q2, .inl (Y.2.1 0, 16, .inl (fun _ => 0))) :: (q1, .inl (Y.2.1 0, 16, .inl (fun _ => 0))) :: []) rfl dX3_init_70 (fun H locs hI => ?_)
  refine lv_aload_n hx hb dX3_init_73 rfl (lv_at hl 0 rfl) ?_
  refine lv_bipush (v := 10) hx hb dX3_init_74 (by decide) ?_
  refine xc_put F hI 0 rfl tyX3 rfl xin_3 tyX3_ok nmX3 (i := 9) (by decide) u_fl_X3_40 rfl rfl (tyX3_ok 9 (by decide)) rfl rfl (Nat.le_of_ble_eq_true rfl) (ws' := (h0, .inr (3, [.ref q1, .ref q2, .ref q3, .ref q4, .ref q5, .ref q6, .ref q7, .int 512, .int 60, .int 10, .int 0])) :: (q7, .inl (Y.2.1 0, 12, .inl (fun _ => 0))) :: (q6, .inl (Y.2.1 0, 12, .inl (fun _ => 0))) :: (q5, .inl (Y.2.1 0, 16, .inl (fun _ => 0))) :: (q4, .inl (Y.2.1 0, 16, .inl (fun _ => 0))) :: (q3, .inl (Y.2.1 0, 16, .inl (fun _ => 0))) :: (q2, .inl (Y.2.1 0, 16, .inl (fun _ => 0))) :: (q1, .inl (Y.2.1 0, 16, .inl (fun _ => 0))) :: []) rfl dX3_init_76 (fun H locs hI => ?_)
  refine lv_aload_n hx hb dX3_init_79 rfl (lv_at hl 0 rfl) ?_
  refine lv_bipush (v := 50) hx hb dX3_init_80 (by decide) ?_
  refine xc_put F hI 0 rfl tyX3 rfl xin_3 tyX3_ok nmX3 (i := 10) (by decide) u_fl_X3_43 rfl rfl (tyX3_ok 10 (by decide)) rfl rfl (Nat.le_of_ble_eq_true rfl) (ws' := (h0, .inr (3, [.ref q1, .ref q2, .ref q3, .ref q4, .ref q5, .ref q6, .ref q7, .int 512, .int 60, .int 10, .int 50])) :: (q7, .inl (Y.2.1 0, 12, .inl (fun _ => 0))) :: (q6, .inl (Y.2.1 0, 12, .inl (fun _ => 0))) :: (q5, .inl (Y.2.1 0, 16, .inl (fun _ => 0))) :: (q4, .inl (Y.2.1 0, 16, .inl (fun _ => 0))) :: (q3, .inl (Y.2.1 0, 16, .inl (fun _ => 0))) :: (q2, .inl (Y.2.1 0, 16, .inl (fun _ => 0))) :: (q1, .inl (Y.2.1 0, 16, .inl (fun _ => 0))) :: []) rfl dX3_init_82 (fun H locs hI => ?_)
  refine lv_iconst (v := 0) hx hb dX3_init_85 (by decide) ?_
  refine lv_istore_n (lv' := [(1, .int 0), (0, .ref h0)]) hx hb dX3_init_86 rfl hl (by decide) rfl (fun ls hl => ?_)
  refine lv_iload_n hx hb dX3_init_87 rfl (lv_at hl 0 rfl) ?_
  refine lv_bipush (v := 16) hx hb dX3_init_88 (by decide) ?_
  refine lv_icmp_ge (tgt := 113) hx hb dX3_init_90 (by decide) (fun c9 => absurd c9 (by decide)) (fun _ => ?_)
  refine lv_aload_n hx hb dX3_init_93 rfl (lv_at hl 1 rfl) ?_
  refine xc_get F hI 0 rfl rfl xin_3 (i := 1) (v := .ref q2) (by decide) u_fl_X3_15 rfl rfl dX3_init_94 ?_
  refine lv_iload_n hx hb dX3_init_97 rfl (lv_at hl 0 rfl) ?_
  refine lv_iconst (v := (-1)) hx hb dX3_init_98 (by decide) ?_
  refine xc_iast (n := 16) F hI 6 rfl (by decide) (ws' := (h0, .inr (3, [.ref q1, .ref q2, .ref q3, .ref q4, .ref q5, .ref q6, .ref q7, .int 512, .int 60, .int 10, .int 50])) :: (q7, .inl (Y.2.1 0, 12, .inl (fun _ => 0))) :: (q6, .inl (Y.2.1 0, 12, .inl (fun _ => 0))) :: (q5, .inl (Y.2.1 0, 16, .inl (fun _ => 0))) :: (q4, .inl (Y.2.1 0, 16, .inl (fun _ => 0))) :: (q3, .inl (Y.2.1 0, 16, .inl (fun _ => 0))) :: (q2, .inl (Y.2.1 0, 16, .inl (x_fill 1 (-1)))) :: (q1, .inl (Y.2.1 0, 16, .inl (fun _ => 0))) :: []) rfl dX3_init_99 (fun H locs hI => ?_)
  refine lv_aload_n hx hb dX3_init_100 rfl (lv_at hl 1 rfl) ?_
  refine xc_get F hI 0 rfl rfl xin_3 (i := 4) (v := .ref q5) (by decide) u_fl_X3_24 rfl rfl dX3_init_101 ?_
  refine lv_iload_n hx hb dX3_init_104 rfl (lv_at hl 0 rfl) ?_
  refine lv_iconst (v := (-1)) hx hb dX3_init_105 (by decide) ?_
  refine xc_iast (n := 16) F hI 3 rfl (by decide) (ws' := (h0, .inr (3, [.ref q1, .ref q2, .ref q3, .ref q4, .ref q5, .ref q6, .ref q7, .int 512, .int 60, .int 10, .int 50])) :: (q7, .inl (Y.2.1 0, 12, .inl (fun _ => 0))) :: (q6, .inl (Y.2.1 0, 12, .inl (fun _ => 0))) :: (q5, .inl (Y.2.1 0, 16, .inl (x_fill 1 (-1)))) :: (q4, .inl (Y.2.1 0, 16, .inl (fun _ => 0))) :: (q3, .inl (Y.2.1 0, 16, .inl (fun _ => 0))) :: (q2, .inl (Y.2.1 0, 16, .inl (x_fill 1 (-1)))) :: (q1, .inl (Y.2.1 0, 16, .inl (fun _ => 0))) :: []) rfl dX3_init_106 (fun H locs hI => ?_)
  refine lv_iinc (v := 1) (lv' := [(1, .int 1), (0, .ref h0)]) hx hb dX3_init_107 hl (k := 0) rfl (by decide) (by decide) rfl (fun ls hl => ?_)
  refine lv_goto (tgt := 87) hx hb dX3_init_110 (by decide) ?_
  refine lv_iload_n hx hb dX3_init_87 rfl (lv_at hl 0 rfl) ?_
  refine lv_bipush (v := 16) hx hb dX3_init_88 (by decide) ?_
  refine lv_icmp_ge (tgt := 113) hx hb dX3_init_90 (by decide) (fun c9 => absurd c9 (by decide)) (fun _ => ?_)
  refine lv_aload_n hx hb dX3_init_93 rfl (lv_at hl 1 rfl) ?_
  refine xc_get F hI 0 rfl rfl xin_3 (i := 1) (v := .ref q2) (by decide) u_fl_X3_15 rfl rfl dX3_init_94 ?_
  refine lv_iload_n hx hb dX3_init_97 rfl (lv_at hl 0 rfl) ?_
  refine lv_iconst (v := (-1)) hx hb dX3_init_98 (by decide) ?_
  refine xc_iast (n := 16) F hI 6 rfl (by decide) (ws' := (h0, .inr (3, [.ref q1, .ref q2, .ref q3, .ref q4, .ref q5, .ref q6, .ref q7, .int 512, .int 60, .int 10, .int 50])) :: (q7, .inl (Y.2.1 0, 12, .inl (fun _ => 0))) :: (q6, .inl (Y.2.1 0, 12, .inl (fun _ => 0))) :: (q5, .inl (Y.2.1 0, 16, .inl (x_fill 1 (-1)))) :: (q4, .inl (Y.2.1 0, 16, .inl (fun _ => 0))) :: (q3, .inl (Y.2.1 0, 16, .inl (fun _ => 0))) :: (q2, .inl (Y.2.1 0, 16, .inl (x_fill 2 (-1)))) :: (q1, .inl (Y.2.1 0, 16, .inl (fun _ => 0))) :: []) rfl dX3_init_99 (fun H locs hI => ?_)
  refine lv_aload_n hx hb dX3_init_100 rfl (lv_at hl 1 rfl) ?_
  refine xc_get F hI 0 rfl rfl xin_3 (i := 4) (v := .ref q5) (by decide) u_fl_X3_24 rfl rfl dX3_init_101 ?_
  refine lv_iload_n hx hb dX3_init_104 rfl (lv_at hl 0 rfl) ?_
  refine lv_iconst (v := (-1)) hx hb dX3_init_105 (by decide) ?_
  refine xc_iast (n := 16) F hI 3 rfl (by decide) (ws' := (h0, .inr (3, [.ref q1, .ref q2, .ref q3, .ref q4, .ref q5, .ref q6, .ref q7, .int 512, .int 60, .int 10, .int 50])) :: (q7, .inl (Y.2.1 0, 12, .inl (fun _ => 0))) :: (q6, .inl (Y.2.1 0, 12, .inl (fun _ => 0))) :: (q5, .inl (Y.2.1 0, 16, .inl (x_fill 2 (-1)))) :: (q4, .inl (Y.2.1 0, 16, .inl (fun _ => 0))) :: (q3, .inl (Y.2.1 0, 16, .inl (fun _ => 0))) :: (q2, .inl (Y.2.1 0, 16, .inl (x_fill 2 (-1)))) :: (q1, .inl (Y.2.1 0, 16, .inl (fun _ => 0))) :: []) rfl dX3_init_106 (fun H locs hI => ?_)
  refine lv_iinc (v := 2) (lv' := [(1, .int 2), (0, .ref h0)]) hx hb dX3_init_107 hl (k := 0) rfl (by decide) (by decide) rfl (fun ls hl => ?_)
  refine lv_goto (tgt := 87) hx hb dX3_init_110 (by decide) ?_
  refine lv_iload_n hx hb dX3_init_87 rfl (lv_at hl 0 rfl) ?_
  refine lv_bipush (v := 16) hx hb dX3_init_88 (by decide) ?_
  refine lv_icmp_ge (tgt := 113) hx hb dX3_init_90 (by decide) (fun c9 => absurd c9 (by decide)) (fun _ => ?_)
  refine lv_aload_n hx hb dX3_init_93 rfl (lv_at hl 1 rfl) ?_
  refine xc_get F hI 0 rfl rfl xin_3 (i := 1) (v := .ref q2) (by decide) u_fl_X3_15 rfl rfl dX3_init_94 ?_
  refine lv_iload_n hx hb dX3_init_97 rfl (lv_at hl 0 rfl) ?_
  refine lv_iconst (v := (-1)) hx hb dX3_init_98 (by decide) ?_
  refine xc_iast (n := 16) F hI 6 rfl (by decide) (ws' := (h0, .inr (3, [.ref q1, .ref q2, .ref q3, .ref q4, .ref q5, .ref q6, .ref q7, .int 512, .int 60, .int 10, .int 50])) :: (q7, .inl (Y.2.1 0, 12, .inl (fun _ => 0))) :: (q6, .inl (Y.2.1 0, 12, .inl (fun _ => 0))) :: (q5, .inl (Y.2.1 0, 16, .inl (x_fill 2 (-1)))) :: (q4, .inl (Y.2.1 0, 16, .inl (fun _ => 0))) :: (q3, .inl (Y.2.1 0, 16, .inl (fun _ => 0))) :: (q2, .inl (Y.2.1 0, 16, .inl (x_fill 3 (-1)))) :: (q1, .inl (Y.2.1 0, 16, .inl (fun _ => 0))) :: []) rfl dX3_init_99 (fun H locs hI => ?_)
  refine lv_aload_n hx hb dX3_init_100 rfl (lv_at hl 1 rfl) ?_
  refine xc_get F hI 0 rfl rfl xin_3 (i := 4) (v := .ref q5) (by decide) u_fl_X3_24 rfl rfl dX3_init_101 ?_
  refine lv_iload_n hx hb dX3_init_104 rfl (lv_at hl 0 rfl) ?_
  refine lv_iconst (v := (-1)) hx hb dX3_init_105 (by decide) ?_
  refine xc_iast (n := 16) F hI 3 rfl (by decide) (ws' := (h0, .inr (3, [.ref q1, .ref q2, .ref q3, .ref q4, .ref q5, .ref q6, .ref q7, .int 512, .int 60, .int 10, .int 50])) :: (q7, .inl (Y.2.1 0, 12, .inl (fun _ => 0))) :: (q6, .inl (Y.2.1 0, 12, .inl (fun _ => 0))) :: (q5, .inl (Y.2.1 0, 16, .inl (x_fill 3 (-1)))) :: (q4, .inl (Y.2.1 0, 16, .inl (fun _ => 0))) :: (q3, .inl (Y.2.1 0, 16, .inl (fun _ => 0))) :: (q2, .inl (Y.2.1 0, 16, .inl (x_fill 3 (-1)))) :: (q1, .inl (Y.2.1 0, 16, .inl (fun _ => 0))) :: []) rfl dX3_init_106 (fun H locs hI => ?_)
  refine lv_iinc (v := 3) (lv' := [(1, .int 3), (0, .ref h0)]) hx hb dX3_init_107 hl (k := 0) rfl (by decide) (by decide) rfl (fun ls hl => ?_)
  refine lv_goto (tgt := 87) hx hb dX3_init_110 (by decide) ?_
  refine lv_iload_n hx hb dX3_init_87 rfl (lv_at hl 0 rfl) ?_
  refine lv_bipush (v := 16) hx hb dX3_init_88 (by decide) ?_
  refine lv_icmp_ge (tgt := 113) hx hb dX3_init_90 (by decide) (fun c9 => absurd c9 (by decide)) (fun _ => ?_)
  refine lv_aload_n hx hb dX3_init_93 rfl (lv_at hl 1 rfl) ?_
  refine xc_get F hI 0 rfl rfl xin_3 (i := 1) (v := .ref q2) (by decide) u_fl_X3_15 rfl rfl dX3_init_94 ?_
  refine lv_iload_n hx hb dX3_init_97 rfl (lv_at hl 0 rfl) ?_
  refine lv_iconst (v := (-1)) hx hb dX3_init_98 (by decide) ?_
  refine xc_iast (n := 16) F hI 6 rfl (by decide) (ws' := (h0, .inr (3, [.ref q1, .ref q2, .ref q3, .ref q4, .ref q5, .ref q6, .ref q7, .int 512, .int 60, .int 10, .int 50])) :: (q7, .inl (Y.2.1 0, 12, .inl (fun _ => 0))) :: (q6, .inl (Y.2.1 0, 12, .inl (fun _ => 0))) :: (q5, .inl (Y.2.1 0, 16, .inl (x_fill 3 (-1)))) :: (q4, .inl (Y.2.1 0, 16, .inl (fun _ => 0))) :: (q3, .inl (Y.2.1 0, 16, .inl (fun _ => 0))) :: (q2, .inl (Y.2.1 0, 16, .inl (x_fill 4 (-1)))) :: (q1, .inl (Y.2.1 0, 16, .inl (fun _ => 0))) :: []) rfl dX3_init_99 (fun H locs hI => ?_)
  refine lv_aload_n hx hb dX3_init_100 rfl (lv_at hl 1 rfl) ?_
  refine xc_get F hI 0 rfl rfl xin_3 (i := 4) (v := .ref q5) (by decide) u_fl_X3_24 rfl rfl dX3_init_101 ?_
  refine lv_iload_n hx hb dX3_init_104 rfl (lv_at hl 0 rfl) ?_
  refine lv_iconst (v := (-1)) hx hb dX3_init_105 (by decide) ?_
  refine xc_iast (n := 16) F hI 3 rfl (by decide) (ws' := (h0, .inr (3, [.ref q1, .ref q2, .ref q3, .ref q4, .ref q5, .ref q6, .ref q7, .int 512, .int 60, .int 10, .int 50])) :: (q7, .inl (Y.2.1 0, 12, .inl (fun _ => 0))) :: (q6, .inl (Y.2.1 0, 12, .inl (fun _ => 0))) :: (q5, .inl (Y.2.1 0, 16, .inl (x_fill 4 (-1)))) :: (q4, .inl (Y.2.1 0, 16, .inl (fun _ => 0))) :: (q3, .inl (Y.2.1 0, 16, .inl (fun _ => 0))) :: (q2, .inl (Y.2.1 0, 16, .inl (x_fill 4 (-1)))) :: (q1, .inl (Y.2.1 0, 16, .inl (fun _ => 0))) :: []) rfl dX3_init_106 (fun H locs hI => ?_)
  refine lv_iinc (v := 4) (lv' := [(1, .int 4), (0, .ref h0)]) hx hb dX3_init_107 hl (k := 0) rfl (by decide) (by decide) rfl (fun ls hl => ?_)
  refine lv_goto (tgt := 87) hx hb dX3_init_110 (by decide) ?_
  refine lv_iload_n hx hb dX3_init_87 rfl (lv_at hl 0 rfl) ?_
  refine lv_bipush (v := 16) hx hb dX3_init_88 (by decide) ?_
  refine lv_icmp_ge (tgt := 113) hx hb dX3_init_90 (by decide) (fun c9 => absurd c9 (by decide)) (fun _ => ?_)
  refine lv_aload_n hx hb dX3_init_93 rfl (lv_at hl 1 rfl) ?_
  refine xc_get F hI 0 rfl rfl xin_3 (i := 1) (v := .ref q2) (by decide) u_fl_X3_15 rfl rfl dX3_init_94 ?_
  refine lv_iload_n hx hb dX3_init_97 rfl (lv_at hl 0 rfl) ?_
  refine lv_iconst (v := (-1)) hx hb dX3_init_98 (by decide) ?_
  refine xc_iast (n := 16) F hI 6 rfl (by decide) (ws' := (h0, .inr (3, [.ref q1, .ref q2, .ref q3, .ref q4, .ref q5, .ref q6, .ref q7, .int 512, .int 60, .int 10, .int 50])) :: (q7, .inl (Y.2.1 0, 12, .inl (fun _ => 0))) :: (q6, .inl (Y.2.1 0, 12, .inl (fun _ => 0))) :: (q5, .inl (Y.2.1 0, 16, .inl (x_fill 4 (-1)))) :: (q4, .inl (Y.2.1 0, 16, .inl (fun _ => 0))) :: (q3, .inl (Y.2.1 0, 16, .inl (fun _ => 0))) :: (q2, .inl (Y.2.1 0, 16, .inl (x_fill 5 (-1)))) :: (q1, .inl (Y.2.1 0, 16, .inl (fun _ => 0))) :: []) rfl dX3_init_99 (fun H locs hI => ?_)
  refine lv_aload_n hx hb dX3_init_100 rfl (lv_at hl 1 rfl) ?_
  refine xc_get F hI 0 rfl rfl xin_3 (i := 4) (v := .ref q5) (by decide) u_fl_X3_24 rfl rfl dX3_init_101 ?_
  refine lv_iload_n hx hb dX3_init_104 rfl (lv_at hl 0 rfl) ?_
  refine lv_iconst (v := (-1)) hx hb dX3_init_105 (by decide) ?_
  refine xc_iast (n := 16) F hI 3 rfl (by decide) (ws' := (h0, .inr (3, [.ref q1, .ref q2, .ref q3, .ref q4, .ref q5, .ref q6, .ref q7, .int 512, .int 60, .int 10, .int 50])) :: (q7, .inl (Y.2.1 0, 12, .inl (fun _ => 0))) :: (q6, .inl (Y.2.1 0, 12, .inl (fun _ => 0))) :: (q5, .inl (Y.2.1 0, 16, .inl (x_fill 5 (-1)))) :: (q4, .inl (Y.2.1 0, 16, .inl (fun _ => 0))) :: (q3, .inl (Y.2.1 0, 16, .inl (fun _ => 0))) :: (q2, .inl (Y.2.1 0, 16, .inl (x_fill 5 (-1)))) :: (q1, .inl (Y.2.1 0, 16, .inl (fun _ => 0))) :: []) rfl dX3_init_106 (fun H locs hI => ?_)
  refine lv_iinc (v := 5) (lv' := [(1, .int 5), (0, .ref h0)]) hx hb dX3_init_107 hl (k := 0) rfl (by decide) (by decide) rfl (fun ls hl => ?_)
  refine lv_goto (tgt := 87) hx hb dX3_init_110 (by decide) ?_
  refine lv_iload_n hx hb dX3_init_87 rfl (lv_at hl 0 rfl) ?_
  refine lv_bipush (v := 16) hx hb dX3_init_88 (by decide) ?_
  refine lv_icmp_ge (tgt := 113) hx hb dX3_init_90 (by decide) (fun c9 => absurd c9 (by decide)) (fun _ => ?_)
  refine lv_aload_n hx hb dX3_init_93 rfl (lv_at hl 1 rfl) ?_
  refine xc_get F hI 0 rfl rfl xin_3 (i := 1) (v := .ref q2) (by decide) u_fl_X3_15 rfl rfl dX3_init_94 ?_
  refine lv_iload_n hx hb dX3_init_97 rfl (lv_at hl 0 rfl) ?_
  refine lv_iconst (v := (-1)) hx hb dX3_init_98 (by decide) ?_
  refine xc_iast (n := 16) F hI 6 rfl (by decide) (ws' := (h0, .inr (3, [.ref q1, .ref q2, .ref q3, .ref q4, .ref q5, .ref q6, .ref q7, .int 512, .int 60, .int 10, .int 50])) :: (q7, .inl (Y.2.1 0, 12, .inl (fun _ => 0))) :: (q6, .inl (Y.2.1 0, 12, .inl (fun _ => 0))) :: (q5, .inl (Y.2.1 0, 16, .inl (x_fill 5 (-1)))) :: (q4, .inl (Y.2.1 0, 16, .inl (fun _ => 0))) :: (q3, .inl (Y.2.1 0, 16, .inl (fun _ => 0))) :: (q2, .inl (Y.2.1 0, 16, .inl (x_fill 6 (-1)))) :: (q1, .inl (Y.2.1 0, 16, .inl (fun _ => 0))) :: []) rfl dX3_init_99 (fun H locs hI => ?_)
  refine lv_aload_n hx hb dX3_init_100 rfl (lv_at hl 1 rfl) ?_
  refine xc_get F hI 0 rfl rfl xin_3 (i := 4) (v := .ref q5) (by decide) u_fl_X3_24 rfl rfl dX3_init_101 ?_
  refine lv_iload_n hx hb dX3_init_104 rfl (lv_at hl 0 rfl) ?_
  refine lv_iconst (v := (-1)) hx hb dX3_init_105 (by decide) ?_
  refine xc_iast (n := 16) F hI 3 rfl (by decide) (ws' := (h0, .inr (3, [.ref q1, .ref q2, .ref q3, .ref q4, .ref q5, .ref q6, .ref q7, .int 512, .int 60, .int 10, .int 50])) :: (q7, .inl (Y.2.1 0, 12, .inl (fun _ => 0))) :: (q6, .inl (Y.2.1 0, 12, .inl (fun _ => 0))) :: (q5, .inl (Y.2.1 0, 16, .inl (x_fill 6 (-1)))) :: (q4, .inl (Y.2.1 0, 16, .inl (fun _ => 0))) :: (q3, .inl (Y.2.1 0, 16, .inl (fun _ => 0))) :: (q2, .inl (Y.2.1 0, 16, .inl (x_fill 6 (-1)))) :: (q1, .inl (Y.2.1 0, 16, .inl (fun _ => 0))) :: []) rfl dX3_init_106 (fun H locs hI => ?_)
  refine lv_iinc (v := 6) (lv' := [(1, .int 6), (0, .ref h0)]) hx hb dX3_init_107 hl (k := 0) rfl (by decide) (by decide) rfl (fun ls hl => ?_)
  refine lv_goto (tgt := 87) hx hb dX3_init_110 (by decide) ?_
  refine lv_iload_n hx hb dX3_init_87 rfl (lv_at hl 0 rfl) ?_
  refine lv_bipush (v := 16) hx hb dX3_init_88 (by decide) ?_
  refine lv_icmp_ge (tgt := 113) hx hb dX3_init_90 (by decide) (fun c9 => absurd c9 (by decide)) (fun _ => ?_)
  refine lv_aload_n hx hb dX3_init_93 rfl (lv_at hl 1 rfl) ?_
  refine xc_get F hI 0 rfl rfl xin_3 (i := 1) (v := .ref q2) (by decide) u_fl_X3_15 rfl rfl dX3_init_94 ?_
  refine lv_iload_n hx hb dX3_init_97 rfl (lv_at hl 0 rfl) ?_
  refine lv_iconst (v := (-1)) hx hb dX3_init_98 (by decide) ?_
  refine xc_iast (n := 16) F hI 6 rfl (by decide) (ws' := (h0, .inr (3, [.ref q1, .ref q2, .ref q3, .ref q4, .ref q5, .ref q6, .ref q7, .int 512, .int 60, .int 10, .int 50])) :: (q7, .inl (Y.2.1 0, 12, .inl (fun _ => 0))) :: (q6, .inl (Y.2.1 0, 12, .inl (fun _ => 0))) :: (q5, .inl (Y.2.1 0, 16, .inl (x_fill 6 (-1)))) :: (q4, .inl (Y.2.1 0, 16, .inl (fun _ => 0))) :: (q3, .inl (Y.2.1 0, 16, .inl (fun _ => 0))) :: (q2, .inl (Y.2.1 0, 16, .inl (x_fill 7 (-1)))) :: (q1, .inl (Y.2.1 0, 16, .inl (fun _ => 0))) :: []) rfl dX3_init_99 (fun H locs hI => ?_)
  refine lv_aload_n hx hb dX3_init_100 rfl (lv_at hl 1 rfl) ?_
  refine xc_get F hI 0 rfl rfl xin_3 (i := 4) (v := .ref q5) (by decide) u_fl_X3_24 rfl rfl dX3_init_101 ?_
  refine lv_iload_n hx hb dX3_init_104 rfl (lv_at hl 0 rfl) ?_
  refine lv_iconst (v := (-1)) hx hb dX3_init_105 (by decide) ?_
  refine xc_iast (n := 16) F hI 3 rfl (by decide) (ws' := (h0, .inr (3, [.ref q1, .ref q2, .ref q3, .ref q4, .ref q5, .ref q6, .ref q7, .int 512, .int 60, .int 10, .int 50])) :: (q7, .inl (Y.2.1 0, 12, .inl (fun _ => 0))) :: (q6, .inl (Y.2.1 0, 12, .inl (fun _ => 0))) :: (q5, .inl (Y.2.1 0, 16, .inl (x_fill 7 (-1)))) :: (q4, .inl (Y.2.1 0, 16, .inl (fun _ => 0))) :: (q3, .inl (Y.2.1 0, 16, .inl (fun _ => 0))) :: (q2, .inl (Y.2.1 0, 16, .inl (x_fill 7 (-1)))) :: (q1, .inl (Y.2.1 0, 16, .inl (fun _ => 0))) :: []) rfl dX3_init_106 (fun H locs hI => ?_)
  refine lv_iinc (v := 7) (lv' := [(1, .int 7), (0, .ref h0)]) hx hb dX3_init_107 hl (k := 0) rfl (by decide) (by decide) rfl (fun ls hl => ?_)
  refine lv_goto (tgt := 87) hx hb dX3_init_110 (by decide) ?_
  refine lv_iload_n hx hb dX3_init_87 rfl (lv_at hl 0 rfl) ?_
  refine lv_bipush (v := 16) hx hb dX3_init_88 (by decide) ?_
  refine lv_icmp_ge (tgt := 113) hx hb dX3_init_90 (by decide) (fun c9 => absurd c9 (by decide)) (fun _ => ?_)
  refine lv_aload_n hx hb dX3_init_93 rfl (lv_at hl 1 rfl) ?_
  refine xc_get F hI 0 rfl rfl xin_3 (i := 1) (v := .ref q2) (by decide) u_fl_X3_15 rfl rfl dX3_init_94 ?_
  refine lv_iload_n hx hb dX3_init_97 rfl (lv_at hl 0 rfl) ?_
  refine lv_iconst (v := (-1)) hx hb dX3_init_98 (by decide) ?_
  refine xc_iast (n := 16) F hI 6 rfl (by decide) (ws' := (h0, .inr (3, [.ref q1, .ref q2, .ref q3, .ref q4, .ref q5, .ref q6, .ref q7, .int 512, .int 60, .int 10, .int 50])) :: (q7, .inl (Y.2.1 0, 12, .inl (fun _ => 0))) :: (q6, .inl (Y.2.1 0, 12, .inl (fun _ => 0))) :: (q5, .inl (Y.2.1 0, 16, .inl (x_fill 7 (-1)))) :: (q4, .inl (Y.2.1 0, 16, .inl (fun _ => 0))) :: (q3, .inl (Y.2.1 0, 16, .inl (fun _ => 0))) :: (q2, .inl (Y.2.1 0, 16, .inl (x_fill 8 (-1)))) :: (q1, .inl (Y.2.1 0, 16, .inl (fun _ => 0))) :: []) rfl dX3_init_99 (fun H locs hI => ?_)
  refine lv_aload_n hx hb dX3_init_100 rfl (lv_at hl 1 rfl) ?_
  refine xc_get F hI 0 rfl rfl xin_3 (i := 4) (v := .ref q5) (by decide) u_fl_X3_24 rfl rfl dX3_init_101 ?_
  refine lv_iload_n hx hb dX3_init_104 rfl (lv_at hl 0 rfl) ?_
  refine lv_iconst (v := (-1)) hx hb dX3_init_105 (by decide) ?_
  refine xc_iast (n := 16) F hI 3 rfl (by decide) (ws' := (h0, .inr (3, [.ref q1, .ref q2, .ref q3, .ref q4, .ref q5, .ref q6, .ref q7, .int 512, .int 60, .int 10, .int 50])) :: (q7, .inl (Y.2.1 0, 12, .inl (fun _ => 0))) :: (q6, .inl (Y.2.1 0, 12, .inl (fun _ => 0))) :: (q5, .inl (Y.2.1 0, 16, .inl (x_fill 8 (-1)))) :: (q4, .inl (Y.2.1 0, 16, .inl (fun _ => 0))) :: (q3, .inl (Y.2.1 0, 16, .inl (fun _ => 0))) :: (q2, .inl (Y.2.1 0, 16, .inl (x_fill 8 (-1)))) :: (q1, .inl (Y.2.1 0, 16, .inl (fun _ => 0))) :: []) rfl dX3_init_106 (fun H locs hI => ?_)
  refine lv_iinc (v := 8) (lv' := [(1, .int 8), (0, .ref h0)]) hx hb dX3_init_107 hl (k := 0) rfl (by decide) (by decide) rfl (fun ls hl => ?_)
  refine lv_goto (tgt := 87) hx hb dX3_init_110 (by decide) ?_
  refine lv_iload_n hx hb dX3_init_87 rfl (lv_at hl 0 rfl) ?_
  refine lv_bipush (v := 16) hx hb dX3_init_88 (by decide) ?_
  refine lv_icmp_ge (tgt := 113) hx hb dX3_init_90 (by decide) (fun c9 => absurd c9 (by decide)) (fun _ => ?_)
  refine lv_aload_n hx hb dX3_init_93 rfl (lv_at hl 1 rfl) ?_
  refine xc_get F hI 0 rfl rfl xin_3 (i := 1) (v := .ref q2) (by decide) u_fl_X3_15 rfl rfl dX3_init_94 ?_
  refine lv_iload_n hx hb dX3_init_97 rfl (lv_at hl 0 rfl) ?_
  refine lv_iconst (v := (-1)) hx hb dX3_init_98 (by decide) ?_
  refine xc_iast (n := 16) F hI 6 rfl (by decide) (ws' := (h0, .inr (3, [.ref q1, .ref q2, .ref q3, .ref q4, .ref q5, .ref q6, .ref q7, .int 512, .int 60, .int 10, .int 50])) :: (q7, .inl (Y.2.1 0, 12, .inl (fun _ => 0))) :: (q6, .inl (Y.2.1 0, 12, .inl (fun _ => 0))) :: (q5, .inl (Y.2.1 0, 16, .inl (x_fill 8 (-1)))) :: (q4, .inl (Y.2.1 0, 16, .inl (fun _ => 0))) :: (q3, .inl (Y.2.1 0, 16, .inl (fun _ => 0))) :: (q2, .inl (Y.2.1 0, 16, .inl (x_fill 9 (-1)))) :: (q1, .inl (Y.2.1 0, 16, .inl (fun _ => 0))) :: []) rfl dX3_init_99 (fun H locs hI => ?_)
  refine lv_aload_n hx hb dX3_init_100 rfl (lv_at hl 1 rfl) ?_
  refine xc_get F hI 0 rfl rfl xin_3 (i := 4) (v := .ref q5) (by decide) u_fl_X3_24 rfl rfl dX3_init_101 ?_
  refine lv_iload_n hx hb dX3_init_104 rfl (lv_at hl 0 rfl) ?_
  refine lv_iconst (v := (-1)) hx hb dX3_init_105 (by decide) ?_
  refine xc_iast (n := 16) F hI 3 rfl (by decide) (ws' := (h0, .inr (3, [.ref q1, .ref q2, .ref q3, .ref q4, .ref q5, .ref q6, .ref q7, .int 512, .int 60, .int 10, .int 50])) :: (q7, .inl (Y.2.1 0, 12, .inl (fun _ => 0))) :: (q6, .inl (Y.2.1 0, 12, .inl (fun _ => 0))) :: (q5, .inl (Y.2.1 0, 16, .inl (x_fill 9 (-1)))) :: (q4, .inl (Y.2.1 0, 16, .inl (fun _ => 0))) :: (q3, .inl (Y.2.1 0, 16, .inl (fun _ => 0))) :: (q2, .inl (Y.2.1 0, 16, .inl (x_fill 9 (-1)))) :: (q1, .inl (Y.2.1 0, 16, .inl (fun _ => 0))) :: []) rfl dX3_init_106 (fun H locs hI => ?_)
  refine lv_iinc (v := 9) (lv' := [(1, .int 9), (0, .ref h0)]) hx hb dX3_init_107 hl (k := 0) rfl (by decide) (by decide) rfl (fun ls hl => ?_)
  refine lv_goto (tgt := 87) hx hb dX3_init_110 (by decide) ?_
  refine lv_iload_n hx hb dX3_init_87 rfl (lv_at hl 0 rfl) ?_
  refine lv_bipush (v := 16) hx hb dX3_init_88 (by decide) ?_
  refine lv_icmp_ge (tgt := 113) hx hb dX3_init_90 (by decide) (fun c9 => absurd c9 (by decide)) (fun _ => ?_)
  refine lv_aload_n hx hb dX3_init_93 rfl (lv_at hl 1 rfl) ?_
  refine xc_get F hI 0 rfl rfl xin_3 (i := 1) (v := .ref q2) (by decide) u_fl_X3_15 rfl rfl dX3_init_94 ?_
  refine lv_iload_n hx hb dX3_init_97 rfl (lv_at hl 0 rfl) ?_
  refine lv_iconst (v := (-1)) hx hb dX3_init_98 (by decide) ?_
  refine xc_iast (n := 16) F hI 6 rfl (by decide) (ws' := (h0, .inr (3, [.ref q1, .ref q2, .ref q3, .ref q4, .ref q5, .ref q6, .ref q7, .int 512, .int 60, .int 10, .int 50])) :: (q7, .inl (Y.2.1 0, 12, .inl (fun _ => 0))) :: (q6, .inl (Y.2.1 0, 12, .inl (fun _ => 0))) :: (q5, .inl (Y.2.1 0, 16, .inl (x_fill 9 (-1)))) :: (q4, .inl (Y.2.1 0, 16, .inl (fun _ => 0))) :: (q3, .inl (Y.2.1 0, 16, .inl (fun _ => 0))) :: (q2, .inl (Y.2.1 0, 16, .inl (x_fill 10 (-1)))) :: (q1, .inl (Y.2.1 0, 16, .inl (fun _ => 0))) :: []) rfl dX3_init_99 (fun H locs hI => ?_)
  refine lv_aload_n hx hb dX3_init_100 rfl (lv_at hl 1 rfl) ?_
  refine xc_get F hI 0 rfl rfl xin_3 (i := 4) (v := .ref q5) (by decide) u_fl_X3_24 rfl rfl dX3_init_101 ?_
  refine lv_iload_n hx hb dX3_init_104 rfl (lv_at hl 0 rfl) ?_
  refine lv_iconst (v := (-1)) hx hb dX3_init_105 (by decide) ?_
  refine xc_iast (n := 16) F hI 3 rfl (by decide) (ws' := (h0, .inr (3, [.ref q1, .ref q2, .ref q3, .ref q4, .ref q5, .ref q6, .ref q7, .int 512, .int 60, .int 10, .int 50])) :: (q7, .inl (Y.2.1 0, 12, .inl (fun _ => 0))) :: (q6, .inl (Y.2.1 0, 12, .inl (fun _ => 0))) :: (q5, .inl (Y.2.1 0, 16, .inl (x_fill 10 (-1)))) :: (q4, .inl (Y.2.1 0, 16, .inl (fun _ => 0))) :: (q3, .inl (Y.2.1 0, 16, .inl (fun _ => 0))) :: (q2, .inl (Y.2.1 0, 16, .inl (x_fill 10 (-1)))) :: (q1, .inl (Y.2.1 0, 16, .inl (fun _ => 0))) :: []) rfl dX3_init_106 (fun H locs hI => ?_)
  refine lv_iinc (v := 10) (lv' := [(1, .int 10), (0, .ref h0)]) hx hb dX3_init_107 hl (k := 0) rfl (by decide) (by decide) rfl (fun ls hl => ?_)
  refine lv_goto (tgt := 87) hx hb dX3_init_110 (by decide) ?_
  refine lv_iload_n hx hb dX3_init_87 rfl (lv_at hl 0 rfl) ?_
  refine lv_bipush (v := 16) hx hb dX3_init_88 (by decide) ?_
  refine lv_icmp_ge (tgt := 113) hx hb dX3_init_90 (by decide) (fun c9 => absurd c9 (by decide)) (fun _ => ?_)
  refine lv_aload_n hx hb dX3_init_93 rfl (lv_at hl 1 rfl) ?_
  refine xc_get F hI 0 rfl rfl xin_3 (i := 1) (v := .ref q2) (by decide) u_fl_X3_15 rfl rfl dX3_init_94 ?_
  refine lv_iload_n hx hb dX3_init_97 rfl (lv_at hl 0 rfl) ?_
  refine lv_iconst (v := (-1)) hx hb dX3_init_98 (by decide) ?_
  refine xc_iast (n := 16) F hI 6 rfl (by decide) (ws' := (h0, .inr (3, [.ref q1, .ref q2, .ref q3, .ref q4, .ref q5, .ref q6, .ref q7, .int 512, .int 60, .int 10, .int 50])) :: (q7, .inl (Y.2.1 0, 12, .inl (fun _ => 0))) :: (q6, .inl (Y.2.1 0, 12, .inl (fun _ => 0))) :: (q5, .inl (Y.2.1 0, 16, .inl (x_fill 10 (-1)))) :: (q4, .inl (Y.2.1 0, 16, .inl (fun _ => 0))) :: (q3, .inl (Y.2.1 0, 16, .inl (fun _ => 0))) :: (q2, .inl (Y.2.1 0, 16, .inl (x_fill 11 (-1)))) :: (q1, .inl (Y.2.1 0, 16, .inl (fun _ => 0))) :: []) rfl dX3_init_99 (fun H locs hI => ?_)
  refine lv_aload_n hx hb dX3_init_100 rfl (lv_at hl 1 rfl) ?_
  refine xc_get F hI 0 rfl rfl xin_3 (i := 4) (v := .ref q5) (by decide) u_fl_X3_24 rfl rfl dX3_init_101 ?_
  refine lv_iload_n hx hb dX3_init_104 rfl (lv_at hl 0 rfl) ?_
  refine lv_iconst (v := (-1)) hx hb dX3_init_105 (by decide) ?_
  refine xc_iast (n := 16) F hI 3 rfl (by decide) (ws' := (h0, .inr (3, [.ref q1, .ref q2, .ref q3, .ref q4, .ref q5, .ref q6, .ref q7, .int 512, .int 60, .int 10, .int 50])) :: (q7, .inl (Y.2.1 0, 12, .inl (fun _ => 0))) :: (q6, .inl (Y.2.1 0, 12, .inl (fun _ => 0))) :: (q5, .inl (Y.2.1 0, 16, .inl (x_fill 11 (-1)))) :: (q4, .inl (Y.2.1 0, 16, .inl (fun _ => 0))) :: (q3, .inl (Y.2.1 0, 16, .inl (fun _ => 0))) :: (q2, .inl (Y.2.1 0, 16, .inl (x_fill 11 (-1)))) :: (q1, .inl (Y.2.1 0, 16, .inl (fun _ => 0))) :: []) rfl dX3_init_106 (fun H locs hI => ?_)
  refine lv_iinc (v := 11) (lv' := [(1, .int 11), (0, .ref h0)]) hx hb dX3_init_107 hl (k := 0) rfl (by decide) (by decide) rfl (fun ls hl => ?_)
  refine lv_goto (tgt := 87) hx hb dX3_init_110 (by decide) ?_
  refine lv_iload_n hx hb dX3_init_87 rfl (lv_at hl 0 rfl) ?_
  refine lv_bipush (v := 16) hx hb dX3_init_88 (by decide) ?_
  refine lv_icmp_ge (tgt := 113) hx hb dX3_init_90 (by decide) (fun c9 => absurd c9 (by decide)) (fun _ => ?_)
  refine lv_aload_n hx hb dX3_init_93 rfl (lv_at hl 1 rfl) ?_
  refine xc_get F hI 0 rfl rfl xin_3 (i := 1) (v := .ref q2) (by decide) u_fl_X3_15 rfl rfl dX3_init_94 ?_
  refine lv_iload_n hx hb dX3_init_97 rfl (lv_at hl 0 rfl) ?_
  refine lv_iconst (v := (-1)) hx hb dX3_init_98 (by decide) ?_
  refine xc_iast (n := 16) F hI 6 rfl (by decide) (ws' := (h0, .inr (3, [.ref q1, .ref q2, .ref q3, .ref q4, .ref q5, .ref q6, .ref q7, .int 512, .int 60, .int 10, .int 50])) :: (q7, .inl (Y.2.1 0, 12, .inl (fun _ => 0))) :: (q6, .inl (Y.2.1 0, 12, .inl (fun _ => 0))) :: (q5, .inl (Y.2.1 0, 16, .inl (x_fill 11 (-1)))) :: (q4, .inl (Y.2.1 0, 16, .inl (fun _ => 0))) :: (q3, .inl (Y.2.1 0, 16, .inl (fun _ => 0))) :: (q2, .inl (Y.2.1 0, 16, .inl (x_fill 12 (-1)))) :: (q1, .inl (Y.2.1 0, 16, .inl (fun _ => 0))) :: []) rfl dX3_init_99 (fun H locs hI => ?_)
  refine lv_aload_n hx hb dX3_init_100 rfl (lv_at hl 1 rfl) ?_
  refine xc_get F hI 0 rfl rfl xin_3 (i := 4) (v := .ref q5) (by decide) u_fl_X3_24 rfl rfl dX3_init_101 ?_
  refine lv_iload_n hx hb dX3_init_104 rfl (lv_at hl 0 rfl) ?_
  refine lv_iconst (v := (-1)) hx hb dX3_init_105 (by decide) ?_
  refine xc_iast (n := 16) F hI 3 rfl (by decide) (ws' := (h0, .inr (3, [.ref q1, .ref q2, .ref q3, .ref q4, .ref q5, .ref q6, .ref q7, .int 512, .int 60, .int 10, .int 50])) :: (q7, .inl (Y.2.1 0, 12, .inl (fun _ => 0))) :: (q6, .inl (Y.2.1 0, 12, .inl (fun _ => 0))) :: (q5, .inl (Y.2.1 0, 16, .inl (x_fill 12 (-1)))) :: (q4, .inl (Y.2.1 0, 16, .inl (fun _ => 0))) :: (q3, .inl (Y.2.1 0, 16, .inl (fun _ => 0))) :: (q2, .inl (Y.2.1 0, 16, .inl (x_fill 12 (-1)))) :: (q1, .inl (Y.2.1 0, 16, .inl (fun _ => 0))) :: []) rfl dX3_init_106 (fun H locs hI => ?_)
  refine lv_iinc (v := 12) (lv' := [(1, .int 12), (0, .ref h0)]) hx hb dX3_init_107 hl (k := 0) rfl (by decide) (by decide) rfl (fun ls hl => ?_)
  refine lv_goto (tgt := 87) hx hb dX3_init_110 (by decide) ?_
  refine lv_iload_n hx hb dX3_init_87 rfl (lv_at hl 0 rfl) ?_
  refine lv_bipush (v := 16) hx hb dX3_init_88 (by decide) ?_
  refine lv_icmp_ge (tgt := 113) hx hb dX3_init_90 (by decide) (fun c9 => absurd c9 (by decide)) (fun _ => ?_)
  refine lv_aload_n hx hb dX3_init_93 rfl (lv_at hl 1 rfl) ?_
  refine xc_get F hI 0 rfl rfl xin_3 (i := 1) (v := .ref q2) (by decide) u_fl_X3_15 rfl rfl dX3_init_94 ?_
  refine lv_iload_n hx hb dX3_init_97 rfl (lv_at hl 0 rfl) ?_
  refine lv_iconst (v := (-1)) hx hb dX3_init_98 (by decide) ?_
  refine xc_iast (n := 16) F hI 6 rfl (by decide) (ws' := (h0, .inr (3, [.ref q1, .ref q2, .ref q3, .ref q4, .ref q5, .ref q6, .ref q7, .int 512, .int 60, .int 10, .int 50])) :: (q7, .inl (Y.2.1 0, 12, .inl (fun _ => 0))) :: (q6, .inl (Y.2.1 0, 12, .inl (fun _ => 0))) :: (q5, .inl (Y.2.1 0, 16, .inl (x_fill 12 (-1)))) :: (q4, .inl (Y.2.1 0, 16, .inl (fun _ => 0))) :: (q3, .inl (Y.2.1 0, 16, .inl (fun _ => 0))) :: (q2, .inl (Y.2.1 0, 16, .inl (x_fill 13 (-1)))) :: (q1, .inl (Y.2.1 0, 16, .inl (fun _ => 0))) :: []) rfl dX3_init_99 (fun H locs hI => ?_)
  refine lv_aload_n hx hb dX3_init_100 rfl (lv_at hl 1 rfl) ?_
  refine xc_get F hI 0 rfl rfl xin_3 (i := 4) (v := .ref q5) (by decide) u_fl_X3_24 rfl rfl dX3_init_101 ?_
  refine lv_iload_n hx hb dX3_init_104 rfl (lv_at hl 0 rfl) ?_
  refine lv_iconst (v := (-1)) hx hb dX3_init_105 (by decide) ?_
  refine xc_iast (n := 16) F hI 3 rfl (by decide) (ws' := (h0, .inr (3, [.ref q1, .ref q2, .ref q3, .ref q4, .ref q5, .ref q6, .ref q7, .int 512, .int 60, .int 10, .int 50])) :: (q7, .inl (Y.2.1 0, 12, .inl (fun _ => 0))) :: (q6, .inl (Y.2.1 0, 12, .inl (fun _ => 0))) :: (q5, .inl (Y.2.1 0, 16, .inl (x_fill 13 (-1)))) :: (q4, .inl (Y.2.1 0, 16, .inl (fun _ => 0))) :: (q3, .inl (Y.2.1 0, 16, .inl (fun _ => 0))) :: (q2, .inl (Y.2.1 0, 16, .inl (x_fill 13 (-1)))) :: (q1, .inl (Y.2.1 0, 16, .inl (fun _ => 0))) :: []) rfl dX3_init_106 (fun H locs hI => ?_)
  refine lv_iinc (v := 13) (lv' := [(1, .int 13), (0, .ref h0)]) hx hb dX3_init_107 hl (k := 0) rfl (by decide) (by decide) rfl (fun ls hl => ?_)
  refine lv_goto (tgt := 87) hx hb dX3_init_110 (by decide) ?_
  refine lv_iload_n hx hb dX3_init_87 rfl (lv_at hl 0 rfl) ?_
  refine lv_bipush (v := 16) hx hb dX3_init_88 (by decide) ?_
  refine lv_icmp_ge (tgt := 113) hx hb dX3_init_90 (by decide) (fun c9 => absurd c9 (by decide)) (fun _ => ?_)
  refine lv_aload_n hx hb dX3_init_93 rfl (lv_at hl 1 rfl) ?_
  refine xc_get F hI 0 rfl rfl xin_3 (i := 1) (v := .ref q2) (by decide) u_fl_X3_15 rfl rfl dX3_init_94 ?_
  refine lv_iload_n hx hb dX3_init_97 rfl (lv_at hl 0 rfl) ?_
  refine lv_iconst (v := (-1)) hx hb dX3_init_98 (by decide) ?_
  refine xc_iast (n := 16) F hI 6 rfl (by decide) (ws' := (h0, .inr (3, [.ref q1, .ref q2, .ref q3, .ref q4, .ref q5, .ref q6, .ref q7, .int 512, .int 60, .int 10, .int 50])) :: (q7, .inl (Y.2.1 0, 12, .inl (fun _ => 0))) :: (q6, .inl (Y.2.1 0, 12, .inl (fun _ => 0))) :: (q5, .inl (Y.2.1 0, 16, .inl (x_fill 13 (-1)))) :: (q4, .inl (Y.2.1 0, 16, .inl (fun _ => 0))) :: (q3, .inl (Y.2.1 0, 16, .inl (fun _ => 0))) :: (q2, .inl (Y.2.1 0, 16, .inl (x_fill 14 (-1)))) :: (q1, .inl (Y.2.1 0, 16, .inl (fun _ => 0))) :: []) rfl dX3_init_99 (fun H locs hI => ?_)
  refine lv_aload_n hx hb dX3_init_100 rfl (lv_at hl 1 rfl) ?_
  refine xc_get F hI 0 rfl rfl xin_3 (i := 4) (v := .ref q5) (by decide) u_fl_X3_24 rfl rfl dX3_init_101 ?_
  refine lv_iload_n hx hb dX3_init_104 rfl (lv_at hl 0 rfl) ?_
  refine lv_iconst (v := (-1)) hx hb dX3_init_105 (by decide) ?_
  refine xc_iast (n := 16) F hI 3 rfl (by decide) (ws' := (h0, .inr (3, [.ref q1, .ref q2, .ref q3, .ref q4, .ref q5, .ref q6, .ref q7, .int 512, .int 60, .int 10, .int 50])) :: (q7, .inl (Y.2.1 0, 12, .inl (fun _ => 0))) :: (q6, .inl (Y.2.1 0, 12, .inl (fun _ => 0))) :: (q5, .inl (Y.2.1 0, 16, .inl (x_fill 14 (-1)))) :: (q4, .inl (Y.2.1 0, 16, .inl (fun _ => 0))) :: (q3, .inl (Y.2.1 0, 16, .inl (fun _ => 0))) :: (q2, .inl (Y.2.1 0, 16, .inl (x_fill 14 (-1)))) :: (q1, .inl (Y.2.1 0, 16, .inl (fun _ => 0))) :: []) rfl dX3_init_106 (fun H locs hI => ?_)
  refine lv_iinc (v := 14) (lv' := [(1, .int 14), (0, .ref h0)]) hx hb dX3_init_107 hl (k := 0) rfl (by decide) (by decide) rfl (fun ls hl => ?_)
  refine lv_goto (tgt := 87) hx hb dX3_init_110 (by decide) ?_
  refine lv_iload_n hx hb dX3_init_87 rfl (lv_at hl 0 rfl) ?_
  refine lv_bipush (v := 16) hx hb dX3_init_88 (by decide) ?_
  refine lv_icmp_ge (tgt := 113) hx hb dX3_init_90 (by decide) (fun c9 => absurd c9 (by decide)) (fun _ => ?_)
  refine lv_aload_n hx hb dX3_init_93 rfl (lv_at hl 1 rfl) ?_
  refine xc_get F hI 0 rfl rfl xin_3 (i := 1) (v := .ref q2) (by decide) u_fl_X3_15 rfl rfl dX3_init_94 ?_
  refine lv_iload_n hx hb dX3_init_97 rfl (lv_at hl 0 rfl) ?_
  refine lv_iconst (v := (-1)) hx hb dX3_init_98 (by decide) ?_
  refine xc_iast (n := 16) F hI 6 rfl (by decide) (ws' := (h0, .inr (3, [.ref q1, .ref q2, .ref q3, .ref q4, .ref q5, .ref q6, .ref q7, .int 512, .int 60, .int 10, .int 50])) :: (q7, .inl (Y.2.1 0, 12, .inl (fun _ => 0))) :: (q6, .inl (Y.2.1 0, 12, .inl (fun _ => 0))) :: (q5, .inl (Y.2.1 0, 16, .inl (x_fill 14 (-1)))) :: (q4, .inl (Y.2.1 0, 16, .inl (fun _ => 0))) :: (q3, .inl (Y.2.1 0, 16, .inl (fun _ => 0))) :: (q2, .inl (Y.2.1 0, 16, .inl (x_fill 15 (-1)))) :: (q1, .inl (Y.2.1 0, 16, .inl (fun _ => 0))) :: []) rfl dX3_init_99 (fun H locs hI => ?_)
  refine lv_aload_n hx hb dX3_init_100 rfl (lv_at hl 1 rfl) ?_
  refine xc_get F hI 0 rfl rfl xin_3 (i := 4) (v := .ref q5) (by decide) u_fl_X3_24 rfl rfl dX3_init_101 ?_
  refine lv_iload_n hx hb dX3_init_104 rfl (lv_at hl 0 rfl) ?_
  refine lv_iconst (v := (-1)) hx hb dX3_init_105 (by decide) ?_
  refine xc_iast (n := 16) F hI 3 rfl (by decide) (ws' := (h0, .inr (3, [.ref q1, .ref q2, .ref q3, .ref q4, .ref q5, .ref q6, .ref q7, .int 512, .int 60, .int 10, .int 50])) :: (q7, .inl (Y.2.1 0, 12, .inl (fun _ => 0))) :: (q6, .inl (Y.2.1 0, 12, .inl (fun _ => 0))) :: (q5, .inl (Y.2.1 0, 16, .inl (x_fill 15 (-1)))) :: (q4, .inl (Y.2.1 0, 16, .inl (fun _ => 0))) :: (q3, .inl (Y.2.1 0, 16, .inl (fun _ => 0))) :: (q2, .inl (Y.2.1 0, 16, .inl (x_fill 15 (-1)))) :: (q1, .inl (Y.2.1 0, 16, .inl (fun _ => 0))) :: []) rfl dX3_init_106 (fun H locs hI => ?_)
  refine lv_iinc (v := 15) (lv' := [(1, .int 15), (0, .ref h0)]) hx hb dX3_init_107 hl (k := 0) rfl (by decide) (by decide) rfl (fun ls hl => ?_)
  refine lv_goto (tgt := 87) hx hb dX3_init_110 (by decide) ?_
  refine lv_iload_n hx hb dX3_init_87 rfl (lv_at hl 0 rfl) ?_
  refine lv_bipush (v := 16) hx hb dX3_init_88 (by decide) ?_
  refine lv_icmp_ge (tgt := 113) hx hb dX3_init_90 (by decide) (fun c9 => absurd c9 (by decide)) (fun _ => ?_)
  refine lv_aload_n hx hb dX3_init_93 rfl (lv_at hl 1 rfl) ?_
  refine xc_get F hI 0 rfl rfl xin_3 (i := 1) (v := .ref q2) (by decide) u_fl_X3_15 rfl rfl dX3_init_94 ?_
  refine lv_iload_n hx hb dX3_init_97 rfl (lv_at hl 0 rfl) ?_
  refine lv_iconst (v := (-1)) hx hb dX3_init_98 (by decide) ?_
  refine xc_iast (n := 16) F hI 6 rfl (by decide) (ws' := (h0, .inr (3, [.ref q1, .ref q2, .ref q3, .ref q4, .ref q5, .ref q6, .ref q7, .int 512, .int 60, .int 10, .int 50])) :: (q7, .inl (Y.2.1 0, 12, .inl (fun _ => 0))) :: (q6, .inl (Y.2.1 0, 12, .inl (fun _ => 0))) :: (q5, .inl (Y.2.1 0, 16, .inl (x_fill 15 (-1)))) :: (q4, .inl (Y.2.1 0, 16, .inl (fun _ => 0))) :: (q3, .inl (Y.2.1 0, 16, .inl (fun _ => 0))) :: (q2, .inl (Y.2.1 0, 16, .inl (x_fill 16 (-1)))) :: (q1, .inl (Y.2.1 0, 16, .inl (fun _ => 0))) :: []) rfl dX3_init_99 (fun H locs hI => ?_)
  refine lv_aload_n hx hb dX3_init_100 rfl (lv_at hl 1 rfl) ?_
  refine xc_get F hI 0 rfl rfl xin_3 (i := 4) (v := .ref q5) (by decide) u_fl_X3_24 rfl rfl dX3_init_101 ?_
  refine lv_iload_n hx hb dX3_init_104 rfl (lv_at hl 0 rfl) ?_
  refine lv_iconst (v := (-1)) hx hb dX3_init_105 (by decide) ?_
  refine xc_iast (n := 16) F hI 3 rfl (by decide) (ws' := (h0, .inr (3, [.ref q1, .ref q2, .ref q3, .ref q4, .ref q5, .ref q6, .ref q7, .int 512, .int 60, .int 10, .int 50])) :: (q7, .inl (Y.2.1 0, 12, .inl (fun _ => 0))) :: (q6, .inl (Y.2.1 0, 12, .inl (fun _ => 0))) :: (q5, .inl (Y.2.1 0, 16, .inl (x_fill 16 (-1)))) :: (q4, .inl (Y.2.1 0, 16, .inl (fun _ => 0))) :: (q3, .inl (Y.2.1 0, 16, .inl (fun _ => 0))) :: (q2, .inl (Y.2.1 0, 16, .inl (x_fill 16 (-1)))) :: (q1, .inl (Y.2.1 0, 16, .inl (fun _ => 0))) :: []) rfl dX3_init_106 (fun H locs hI => ?_)
  refine lv_iinc (v := 16) (lv' := [(1, .int 16), (0, .ref h0)]) hx hb dX3_init_107 hl (k := 0) rfl (by decide) (by decide) rfl (fun ls hl => ?_)
  refine lv_goto (tgt := 87) hx hb dX3_init_110 (by decide) ?_
  refine lv_iload_n hx hb dX3_init_87 rfl (lv_at hl 0 rfl) ?_
  refine lv_bipush (v := 16) hx hb dX3_init_88 (by decide) ?_
  refine lv_icmp_ge (tgt := 113) hx hb dX3_init_90 (by decide) (fun _ => ?_) (fun c9 => absurd (by decide) c9)
  refine lv_iconst (v := 0) hx hb dX3_init_113 (by decide) ?_
  refine lv_istore_n (lv' := [(1, .int 0), (0, .ref h0)]) hx hb dX3_init_114 rfl hl (by decide) rfl (fun ls hl => ?_)
  refine lv_iload_n hx hb dX3_init_115 rfl (lv_at hl 0 rfl) ?_
  refine lv_bipush (v := 12) hx hb dX3_init_116 (by decide) ?_
  refine lv_icmp_ge (tgt := 134) hx hb dX3_init_118 (by decide) (fun c9 => absurd c9 (by decide)) (fun _ => ?_)
  refine lv_aload_n hx hb dX3_init_121 rfl (lv_at hl 1 rfl) ?_
  refine xc_get F hI 0 rfl rfl xin_3 (i := 5) (v := .ref q6) (by decide) u_fl_X3_27 rfl rfl dX3_init_122 ?_
  refine lv_iload_n hx hb dX3_init_125 rfl (lv_at hl 0 rfl) ?_
  refine lv_iconst (v := (-1)) hx hb dX3_init_126 (by decide) ?_
  refine xc_iast (n := 12) F hI 2 rfl (by decide) (ws' := (h0, .inr (3, [.ref q1, .ref q2, .ref q3, .ref q4, .ref q5, .ref q6, .ref q7, .int 512, .int 60, .int 10, .int 50])) :: (q7, .inl (Y.2.1 0, 12, .inl (fun _ => 0))) :: (q6, .inl (Y.2.1 0, 12, .inl (x_fill 1 (-1)))) :: (q5, .inl (Y.2.1 0, 16, .inl (x_fill 16 (-1)))) :: (q4, .inl (Y.2.1 0, 16, .inl (fun _ => 0))) :: (q3, .inl (Y.2.1 0, 16, .inl (fun _ => 0))) :: (q2, .inl (Y.2.1 0, 16, .inl (x_fill 16 (-1)))) :: (q1, .inl (Y.2.1 0, 16, .inl (fun _ => 0))) :: []) rfl dX3_init_127 (fun H locs hI => ?_)
  refine lv_iinc (v := 1) (lv' := [(1, .int 1), (0, .ref h0)]) hx hb dX3_init_128 hl (k := 0) rfl (by decide) (by decide) rfl (fun ls hl => ?_)
  refine lv_goto (tgt := 115) hx hb dX3_init_131 (by decide) ?_
  refine lv_iload_n hx hb dX3_init_115 rfl (lv_at hl 0 rfl) ?_
  refine lv_bipush (v := 12) hx hb dX3_init_116 (by decide) ?_
  refine lv_icmp_ge (tgt := 134) hx hb dX3_init_118 (by decide) (fun c9 => absurd c9 (by decide)) (fun _ => ?_)
  refine lv_aload_n hx hb dX3_init_121 rfl (lv_at hl 1 rfl) ?_
  refine xc_get F hI 0 rfl rfl xin_3 (i := 5) (v := .ref q6) (by decide) u_fl_X3_27 rfl rfl dX3_init_122 ?_
  refine lv_iload_n hx hb dX3_init_125 rfl (lv_at hl 0 rfl) ?_
  refine lv_iconst (v := (-1)) hx hb dX3_init_126 (by decide) ?_
  refine xc_iast (n := 12) F hI 2 rfl (by decide) (ws' := (h0, .inr (3, [.ref q1, .ref q2, .ref q3, .ref q4, .ref q5, .ref q6, .ref q7, .int 512, .int 60, .int 10, .int 50])) :: (q7, .inl (Y.2.1 0, 12, .inl (fun _ => 0))) :: (q6, .inl (Y.2.1 0, 12, .inl (x_fill 2 (-1)))) :: (q5, .inl (Y.2.1 0, 16, .inl (x_fill 16 (-1)))) :: (q4, .inl (Y.2.1 0, 16, .inl (fun _ => 0))) :: (q3, .inl (Y.2.1 0, 16, .inl (fun _ => 0))) :: (q2, .inl (Y.2.1 0, 16, .inl (x_fill 16 (-1)))) :: (q1, .inl (Y.2.1 0, 16, .inl (fun _ => 0))) :: []) rfl dX3_init_127 (fun H locs hI => ?_)
  refine lv_iinc (v := 2) (lv' := [(1, .int 2), (0, .ref h0)]) hx hb dX3_init_128 hl (k := 0) rfl (by decide) (by decide) rfl (fun ls hl => ?_)
  refine lv_goto (tgt := 115) hx hb dX3_init_131 (by decide) ?_
  refine lv_iload_n hx hb dX3_init_115 rfl (lv_at hl 0 rfl) ?_
  refine lv_bipush (v := 12) hx hb dX3_init_116 (by decide) ?_
  refine lv_icmp_ge (tgt := 134) hx hb dX3_init_118 (by decide) (fun c9 => absurd c9 (by decide)) (fun _ => ?_)
  refine lv_aload_n hx hb dX3_init_121 rfl (lv_at hl 1 rfl) ?_
  refine xc_get F hI 0 rfl rfl xin_3 (i := 5) (v := .ref q6) (by decide) u_fl_X3_27 rfl rfl dX3_init_122 ?_
  refine lv_iload_n hx hb dX3_init_125 rfl (lv_at hl 0 rfl) ?_
  refine lv_iconst (v := (-1)) hx hb dX3_init_126 (by decide) ?_
  refine xc_iast (n := 12) F hI 2 rfl (by decide) (ws' := (h0, .inr (3, [.ref q1, .ref q2, .ref q3, .ref q4, .ref q5, .ref q6, .ref q7, .int 512, .int 60, .int 10, .int 50])) :: (q7, .inl (Y.2.1 0, 12, .inl (fun _ => 0))) :: (q6, .inl (Y.2.1 0, 12, .inl (x_fill 3 (-1)))) :: (q5, .inl (Y.2.1 0, 16, .inl (x_fill 16 (-1)))) :: (q4, .inl (Y.2.1 0, 16, .inl (fun _ => 0))) :: (q3, .inl (Y.2.1 0, 16, .inl (fun _ => 0))) :: (q2, .inl (Y.2.1 0, 16, .inl (x_fill 16 (-1)))) :: (q1, .inl (Y.2.1 0, 16, .inl (fun _ => 0))) :: []) rfl dX3_init_127 (fun H locs hI => ?_)
  refine lv_iinc (v := 3) (lv' := [(1, .int 3), (0, .ref h0)]) hx hb dX3_init_128 hl (k := 0) rfl (by decide) (by decide) rfl (fun ls hl => ?_)
  refine lv_goto (tgt := 115) hx hb dX3_init_131 (by decide) ?_
  refine lv_iload_n hx hb dX3_init_115 rfl (lv_at hl 0 rfl) ?_
  refine lv_bipush (v := 12) hx hb dX3_init_116 (by decide) ?_
  refine lv_icmp_ge (tgt := 134) hx hb dX3_init_118 (by decide) (fun c9 => absurd c9 (by decide)) (fun _ => ?_)
  refine lv_aload_n hx hb dX3_init_121 rfl (lv_at hl 1 rfl) ?_
  refine xc_get F hI 0 rfl rfl xin_3 (i := 5) (v := .ref q6) (by decide) u_fl_X3_27 rfl rfl dX3_init_122 ?_
  refine lv_iload_n hx hb dX3_init_125 rfl (lv_at hl 0 rfl) ?_
  refine lv_iconst (v := (-1)) hx hb dX3_init_126 (by decide) ?_
  refine xc_iast (n := 12) F hI 2 rfl (by decide) (ws' := (h0, .inr (3, [.ref q1, .ref q2, .ref q3, .ref q4, .ref q5, .ref q6, .ref q7, .int 512, .int 60, .int 10, .int 50])) :: (q7, .inl (Y.2.1 0, 12, .inl (fun _ => 0))) :: (q6, .inl (Y.2.1 0, 12, .inl (x_fill 4 (-1)))) :: (q5, .inl (Y.2.1 0, 16, .inl (x_fill 16 (-1)))) :: (q4, .inl (Y.2.1 0, 16, .inl (fun _ => 0))) :: (q3, .inl (Y.2.1 0, 16, .inl (fun _ => 0))) :: (q2, .inl (Y.2.1 0, 16, .inl (x_fill 16 (-1)))) :: (q1, .inl (Y.2.1 0, 16, .inl (fun _ => 0))) :: []) rfl dX3_init_127 (fun H locs hI => ?_)
  refine lv_iinc (v := 4) (lv' := [(1, .int 4), (0, .ref h0)]) hx hb dX3_init_128 hl (k := 0) rfl (by decide) (by decide) rfl (fun ls hl => ?_)
  refine lv_goto (tgt := 115) hx hb dX3_init_131 (by decide) ?_
  refine lv_iload_n hx hb dX3_init_115 rfl (lv_at hl 0 rfl) ?_
  refine lv_bipush (v := 12) hx hb dX3_init_116 (by decide) ?_
  refine lv_icmp_ge (tgt := 134) hx hb dX3_init_118 (by decide) (fun c9 => absurd c9 (by decide)) (fun _ => ?_)
  refine lv_aload_n hx hb dX3_init_121 rfl (lv_at hl 1 rfl) ?_
  refine xc_get F hI 0 rfl rfl xin_3 (i := 5) (v := .ref q6) (by decide) u_fl_X3_27 rfl rfl dX3_init_122 ?_
  refine lv_iload_n hx hb dX3_init_125 rfl (lv_at hl 0 rfl) ?_
  refine lv_iconst (v := (-1)) hx hb dX3_init_126 (by decide) ?_
  refine xc_iast (n := 12) F hI 2 rfl (by decide) (ws' := (h0, .inr (3, [.ref q1, .ref q2, .ref q3, .ref q4, .ref q5, .ref q6, .ref q7, .int 512, .int 60, .int 10, .int 50])) :: (q7, .inl (Y.2.1 0, 12, .inl (fun _ => 0))) :: (q6, .inl (Y.2.1 0, 12, .inl (x_fill 5 (-1)))) :: (q5, .inl (Y.2.1 0, 16, .inl (x_fill 16 (-1)))) :: (q4, .inl (Y.2.1 0, 16, .inl (fun _ => 0))) :: (q3, .inl (Y.2.1 0, 16, .inl (fun _ => 0))) :: (q2, .inl (Y.2.1 0, 16, .inl (x_fill 16 (-1)))) :: (q1, .inl (Y.2.1 0, 16, .inl (fun _ => 0))) :: []) rfl dX3_init_127 (fun H locs hI => ?_)
  refine lv_iinc (v := 5) (lv' := [(1, .int 5), (0, .ref h0)]) hx hb dX3_init_128 hl (k := 0) rfl (by decide) (by decide) rfl (fun ls hl => ?_)
  refine lv_goto (tgt := 115) hx hb dX3_init_131 (by decide) ?_
  refine lv_iload_n hx hb dX3_init_115 rfl (lv_at hl 0 rfl) ?_
  refine lv_bipush (v := 12) hx hb dX3_init_116 (by decide) ?_
  refine lv_icmp_ge (tgt := 134) hx hb dX3_init_118 (by decide) (fun c9 => absurd c9 (by decide)) (fun _ => ?_)
  refine lv_aload_n hx hb dX3_init_121 rfl (lv_at hl 1 rfl) ?_
  refine xc_get F hI 0 rfl rfl xin_3 (i := 5) (v := .ref q6) (by decide) u_fl_X3_27 rfl rfl dX3_init_122 ?_
  refine lv_iload_n hx hb dX3_init_125 rfl (lv_at hl 0 rfl) ?_
  refine lv_iconst (v := (-1)) hx hb dX3_init_126 (by decide) ?_
  refine xc_iast (n := 12) F hI 2 rfl (by decide) (ws' := (h0, .inr (3, [.ref q1, .ref q2, .ref q3, .ref q4, .ref q5, .ref q6, .ref q7, .int 512, .int 60, .int 10, .int 50])) :: (q7, .inl (Y.2.1 0, 12, .inl (fun _ => 0))) :: (q6, .inl (Y.2.1 0, 12, .inl (x_fill 6 (-1)))) :: (q5, .inl (Y.2.1 0, 16, .inl (x_fill 16 (-1)))) :: (q4, .inl (Y.2.1 0, 16, .inl (fun _ => 0))) :: (q3, .inl (Y.2.1 0, 16, .inl (fun _ => 0))) :: (q2, .inl (Y.2.1 0, 16, .inl (x_fill 16 (-1)))) :: (q1, .inl (Y.2.1 0, 16, .inl (fun _ => 0))) :: []) rfl dX3_init_127 (fun H locs hI => ?_)
  refine lv_iinc (v := 6) (lv' := [(1, .int 6), (0, .ref h0)]) hx hb dX3_init_128 hl (k := 0) rfl (by decide) (by decide) rfl (fun ls hl => ?_)
  refine lv_goto (tgt := 115) hx hb dX3_init_131 (by decide) ?_
  refine lv_iload_n hx hb dX3_init_115 rfl (lv_at hl 0 rfl) ?_
  refine lv_bipush (v := 12) hx hb dX3_init_116 (by decide) ?_
  refine lv_icmp_ge (tgt := 134) hx hb dX3_init_118 (by decide) (fun c9 => absurd c9 (by decide)) (fun _ => ?_)
  refine lv_aload_n hx hb dX3_init_121 rfl (lv_at hl 1 rfl) ?_
  refine xc_get F hI 0 rfl rfl xin_3 (i := 5) (v := .ref q6) (by decide) u_fl_X3_27 rfl rfl dX3_init_122 ?_
  refine lv_iload_n hx hb dX3_init_125 rfl (lv_at hl 0 rfl) ?_
  refine lv_iconst (v := (-1)) hx hb dX3_init_126 (by decide) ?_
  refine xc_iast (n := 12) F hI 2 rfl (by decide) (ws' := (h0, .inr (3, [.ref q1, .ref q2, .ref q3, .ref q4, .ref q5, .ref q6, .ref q7, .int 512, .int 60, .int 10, .int 50])) :: (q7, .inl (Y.2.1 0, 12, .inl (fun _ => 0))) :: (q6, .inl (Y.2.1 0, 12, .inl (x_fill 7 (-1)))) :: (q5, .inl (Y.2.1 0, 16, .inl (x_fill 16 (-1)))) :: (q4, .inl (Y.2.1 0, 16, .inl (fun _ => 0))) :: (q3, .inl (Y.2.1 0, 16, .inl (fun _ => 0))) :: (q2, .inl (Y.2.1 0, 16, .inl (x_fill 16 (-1)))) :: (q1, .inl (Y.2.1 0, 16, .inl (fun _ => 0))) :: []) rfl dX3_init_127 (fun H locs hI => ?_)
  refine lv_iinc (v := 7) (lv' := [(1, .int 7), (0, .ref h0)]) hx hb dX3_init_128 hl (k := 0) rfl (by decide) (by decide) rfl (fun ls hl => ?_)
  refine lv_goto (tgt := 115) hx hb dX3_init_131 (by decide) ?_
  refine lv_iload_n hx hb dX3_init_115 rfl (lv_at hl 0 rfl) ?_
  refine lv_bipush (v := 12) hx hb dX3_init_116 (by decide) ?_
  refine lv_icmp_ge (tgt := 134) hx hb dX3_init_118 (by decide) (fun c9 => absurd c9 (by decide)) (fun _ => ?_)
  refine lv_aload_n hx hb dX3_init_121 rfl (lv_at hl 1 rfl) ?_
  refine xc_get F hI 0 rfl rfl xin_3 (i := 5) (v := .ref q6) (by decide) u_fl_X3_27 rfl rfl dX3_init_122 ?_
  refine lv_iload_n hx hb dX3_init_125 rfl (lv_at hl 0 rfl) ?_
  refine lv_iconst (v := (-1)) hx hb dX3_init_126 (by decide) ?_
  refine xc_iast (n := 12) F hI 2 rfl (by decide) (ws' := (h0, .inr (3, [.ref q1, .ref q2, .ref q3, .ref q4, .ref q5, .ref q6, .ref q7, .int 512, .int 60, .int 10, .int 50])) :: (q7, .inl (Y.2.1 0, 12, .inl (fun _ => 0))) :: (q6, .inl (Y.2.1 0, 12, .inl (x_fill 8 (-1)))) :: (q5, .inl (Y.2.1 0, 16, .inl (x_fill 16 (-1)))) :: (q4, .inl (Y.2.1 0, 16, .inl (fun _ => 0))) :: (q3, .inl (Y.2.1 0, 16, .inl (fun _ => 0))) :: (q2, .inl (Y.2.1 0, 16, .inl (x_fill 16 (-1)))) :: (q1, .inl (Y.2.1 0, 16, .inl (fun _ => 0))) :: []) rfl dX3_init_127 (fun H locs hI => ?_)
  refine lv_iinc (v := 8) (lv' := [(1, .int 8), (0, .ref h0)]) hx hb dX3_init_128 hl (k := 0) rfl (by decide) (by decide) rfl (fun ls hl => ?_)
  refine lv_goto (tgt := 115) hx hb dX3_init_131 (by decide) ?_
  refine lv_iload_n hx hb dX3_init_115 rfl (lv_at hl 0 rfl) ?_
  refine lv_bipush (v := 12) hx hb dX3_init_116 (by decide) ?_
  refine lv_icmp_ge (tgt := 134) hx hb dX3_init_118 (by decide) (fun c9 => absurd c9 (by decide)) (fun _ => ?_)
  refine lv_aload_n hx hb dX3_init_121 rfl (lv_at hl 1 rfl) ?_
  refine xc_get F hI 0 rfl rfl xin_3 (i := 5) (v := .ref q6) (by decide) u_fl_X3_27 rfl rfl dX3_init_122 ?_
  refine lv_iload_n hx hb dX3_init_125 rfl (lv_at hl 0 rfl) ?_
  refine lv_iconst (v := (-1)) hx hb dX3_init_126 (by decide) ?_
  refine xc_iast (n := 12) F hI 2 rfl (by decide) (ws' := (h0, .inr (3, [.ref q1, .ref q2, .ref q3, .ref q4, .ref q5, .ref q6, .ref q7, .int 512, .int 60, .int 10, .int 50])) :: (q7, .inl (Y.2.1 0, 12, .inl (fun _ => 0))) :: (q6, .inl (Y.2.1 0, 12, .inl (x_fill 9 (-1)))) :: (q5, .inl (Y.2.1 0, 16, .inl (x_fill 16 (-1)))) :: (q4, .inl (Y.2.1 0, 16, .inl (fun _ => 0))) :: (q3, .inl (Y.2.1 0, 16, .inl (fun _ => 0))) :: (q2, .inl (Y.2.1 0, 16, .inl (x_fill 16 (-1)))) :: (q1, .inl (Y.2.1 0, 16, .inl (fun _ => 0))) :: []) rfl dX3_init_127 (fun H locs hI => ?_)
  refine lv_iinc (v := 9) (lv' := [(1, .int 9), (0, .ref h0)]) hx hb dX3_init_128 hl (k := 0) rfl (by decide) (by decide) rfl (fun ls hl => ?_)
  refine lv_goto (tgt := 115) hx hb dX3_init_131 (by decide) ?_
  refine lv_iload_n hx hb dX3_init_115 rfl (lv_at hl 0 rfl) ?_
  refine lv_bipush (v := 12) hx hb dX3_init_116 (by decide) ?_
  refine lv_icmp_ge (tgt := 134) hx hb dX3_init_118 (by decide) (fun c9 => absurd c9 (by decide)) (fun _ => ?_)
  refine lv_aload_n hx hb dX3_init_121 rfl (lv_at hl 1 rfl) ?_
  refine xc_get F hI 0 rfl rfl xin_3 (i := 5) (v := .ref q6) (by decide) u_fl_X3_27 rfl rfl dX3_init_122 ?_
  refine lv_iload_n hx hb dX3_init_125 rfl (lv_at hl 0 rfl) ?_
  refine lv_iconst (v := (-1)) hx hb dX3_init_126 (by decide) ?_
  refine xc_iast (n := 12) F hI 2 rfl (by decide) (ws' := (h0, .inr (3, [.ref q1, .ref q2, .ref q3, .ref q4, .ref q5, .ref q6, .ref q7, .int 512, .int 60, .int 10, .int 50])) :: (q7, .inl (Y.2.1 0, 12, .inl (fun _ => 0))) :: (q6, .inl (Y.2.1 0, 12, .inl (x_fill 10 (-1)))) :: (q5, .inl (Y.2.1 0, 16, .inl (x_fill 16 (-1)))) :: (q4, .inl (Y.2.1 0, 16, .inl (fun _ => 0))) :: (q3, .inl (Y.2.1 0, 16, .inl (fun _ => 0))) :: (q2, .inl (Y.2.1 0, 16, .inl (x_fill 16 (-1)))) :: (q1, .inl (Y.2.1 0, 16, .inl (fun _ => 0))) :: []) rfl dX3_init_127 (fun H locs hI => ?_)
  refine lv_iinc (v := 10) (lv' := [(1, .int 10), (0, .ref h0)]) hx hb dX3_init_128 hl (k := 0) rfl (by decide) (by decide) rfl (fun ls hl => ?_)
  refine lv_goto (tgt := 115) hx hb dX3_init_131 (by decide) ?_
  refine lv_iload_n hx hb dX3_init_115 rfl (lv_at hl 0 rfl) ?_
  refine lv_bipush (v := 12) hx hb dX3_init_116 (by decide) ?_
  refine lv_icmp_ge (tgt := 134) hx hb dX3_init_118 (by decide) (fun c9 => absurd c9 (by decide)) (fun _ => ?_)
  refine lv_aload_n hx hb dX3_init_121 rfl (lv_at hl 1 rfl) ?_
  refine xc_get F hI 0 rfl rfl xin_3 (i := 5) (v := .ref q6) (by decide) u_fl_X3_27 rfl rfl dX3_init_122 ?_
  refine lv_iload_n hx hb dX3_init_125 rfl (lv_at hl 0 rfl) ?_
  refine lv_iconst (v := (-1)) hx hb dX3_init_126 (by decide) ?_
  refine xc_iast (n := 12) F hI 2 rfl (by decide) (ws' := (h0, .inr (3, [.ref q1, .ref q2, .ref q3, .ref q4, .ref q5, .ref q6, .ref q7, .int 512, .int 60, .int 10, .int 50])) :: (q7, .inl (Y.2.1 0, 12, .inl (fun _ => 0))) :: (q6, .inl (Y.2.1 0, 12, .inl (x_fill 11 (-1)))) :: (q5, .inl (Y.2.1 0, 16, .inl (x_fill 16 (-1)))) :: (q4, .inl (Y.2.1 0, 16, .inl (fun _ => 0))) :: (q3, .inl (Y.2.1 0, 16, .inl (fun _ => 0))) :: (q2, .inl (Y.2.1 0, 16, .inl (x_fill 16 (-1)))) :: (q1, .inl (Y.2.1 0, 16, .inl (fun _ => 0))) :: []) rfl dX3_init_127 (fun H locs hI => ?_)
  refine lv_iinc (v := 11) (lv' := [(1, .int 11), (0, .ref h0)]) hx hb dX3_init_128 hl (k := 0) rfl (by decide) (by decide) rfl (fun ls hl => ?_)
  refine lv_goto (tgt := 115) hx hb dX3_init_131 (by decide) ?_
  refine lv_iload_n hx hb dX3_init_115 rfl (lv_at hl 0 rfl) ?_
  refine lv_bipush (v := 12) hx hb dX3_init_116 (by decide) ?_
  refine lv_icmp_ge (tgt := 134) hx hb dX3_init_118 (by decide) (fun c9 => absurd c9 (by decide)) (fun _ => ?_)
  refine lv_aload_n hx hb dX3_init_121 rfl (lv_at hl 1 rfl) ?_
  refine xc_get F hI 0 rfl rfl xin_3 (i := 5) (v := .ref q6) (by decide) u_fl_X3_27 rfl rfl dX3_init_122 ?_
  refine lv_iload_n hx hb dX3_init_125 rfl (lv_at hl 0 rfl) ?_
  refine lv_iconst (v := (-1)) hx hb dX3_init_126 (by decide) ?_
  refine xc_iast (n := 12) F hI 2 rfl (by decide) (ws' := (h0, .inr (3, [.ref q1, .ref q2, .ref q3, .ref q4, .ref q5, .ref q6, .ref q7, .int 512, .int 60, .int 10, .int 50])) :: (q7, .inl (Y.2.1 0, 12, .inl (fun _ => 0))) :: (q6, .inl (Y.2.1 0, 12, .inl (x_fill 12 (-1)))) :: (q5, .inl (Y.2.1 0, 16, .inl (x_fill 16 (-1)))) :: (q4, .inl (Y.2.1 0, 16, .inl (fun _ => 0))) :: (q3, .inl (Y.2.1 0, 16, .inl (fun _ => 0))) :: (q2, .inl (Y.2.1 0, 16, .inl (x_fill 16 (-1)))) :: (q1, .inl (Y.2.1 0, 16, .inl (fun _ => 0))) :: []) rfl dX3_init_127 (fun H locs hI => ?_)
  refine lv_iinc (v := 12) (lv' := [(1, .int 12), (0, .ref h0)]) hx hb dX3_init_128 hl (k := 0) rfl (by decide) (by decide) rfl (fun ls hl => ?_)
  refine lv_goto (tgt := 115) hx hb dX3_init_131 (by decide) ?_
  refine lv_iload_n hx hb dX3_init_115 rfl (lv_at hl 0 rfl) ?_
  refine lv_bipush (v := 12) hx hb dX3_init_116 (by decide) ?_
  refine lv_icmp_ge (tgt := 134) hx hb dX3_init_118 (by decide) (fun _ => ?_) (fun c9 => absurd (by decide) c9)
  exact xc_ret F hI (xg_X3 h0 q7 q6 q5 q4 q3 q2 q1) rfl rfl (Nat.le_of_ble_eq_true rfl) (Nat.le_of_ble_eq_true rfl) dX3_init_134
def xg_X4 (h0 q6 q5 q4 q3 q2 q1 : Nat) : Nat → Nat → Nat := fun j k => match j with | 0 => (match k with | 3 => h0 | 19 => q1 | 20 => q2 | 21 => q3 | 22 => q4 | 23 => q5 | 24 => q6 | _ => 0) | _ => 0
def xi_X4 : List (Nat × Nat) := [(0, 3), (0, 24), (0, 23), (0, 22), (0, 21), (0, 20), (0, 19)]
abbrev rm_X4_init : Room := { frames := 1, cells := 6, slots := 360, locals := 20 }
set_option maxHeartbeats 8000000 in
set_option maxRecDepth 100000 in
theorem cX4 (l : Launch) (Y : x_T) (h0 sz : Nat) : Met l yX4_init (x_ws yX4_init cX4_init 1 none) rm_X4_init (xc_Pc Y h0 (.inr (4, [.null, .null, .null, .null, .null, .null, .int 0])) sz) (xc_Q Y h0 sz (0, 3) x_s0 xi_X4) 6 360 (xc_A h0 sz) := by
  refine Met.ofW (cc := cX4_init) (maxL := 1) (ret := none) (by decide) rfl ?_
  intro p e s m args below meth c s₁ B hml hv
  obtain ⟨F, hO, hn0, hI, rfl, rfl⟩ := xc_begin B hml hv rfl
  replace F : x_F p s m _ meth c cX4_init 1 RX4 none := F
  have hx := F.1
  have hb := F.2.1
  refine x_entry (vs := [.ref h0]) (n := 1) (Nat.le_of_ble_eq_true rfl) (fun ls hl => ?_)
  replace hl : lv_has ls 1 [(0, .ref h0)] := hl
  have hI : xc_I Y (xc_A h0 s.heap.size) s s.heap [] ([(h0, .inr (4, [.null, .null, .null, .null, .null, .null, .int 0]))]) := hI
  refine lv_aload_n hx hb dX4_init_0 rfl (lv_at hl 0 rfl) ?_
  refine xc_objInit F u_ml_X4_3 u_in_java_lang_Object_init_ u_co_java_lang_Object_init_ hl.1 ⟨by decide, by decide⟩ (Nat.le_of_ble_eq_true rfl) dX4_init_1 ?_
  refine lv_aload_n hx hb dX4_init_4 rfl (lv_at hl 0 rfl) ?_
  refine lv_bipush (v := 60) hx hb dX4_init_5 (by decide) ?_
  refine xc_newa (ty := .int) (N' := 60) (a0 := (60, .inl (fun _ => 0))) F hI rfl u_arr_int 0 rfl (fun C h9 => by cases h9) (fun _ => rfl) (by decide) (by decide) (by decide) (Nat.le_of_ble_eq_true rfl) (Nat.le_of_ble_eq_true rfl) dX4_init_7 (fun q1 H hI => ?_)
  have hI : xc_I Y (xc_A h0 s.heap.size) s H _ ((h0, .inr (4, [.null, .null, .null, .null, .null, .null, .int 0])) :: (q1, .inl (Y.2.1 0, 60, .inl (fun _ => 0))) :: []) := hI
  refine xc_putF F hn0 hI 0 rfl tyX4 rfl xin_4 tyX4_ok nmX4 (i := 0) (by decide) u_fl_X4_9 rfl rfl rfl (tyX4_ok 0 (by decide)) rfl rfl (Nat.le_of_ble_eq_true rfl) (ws' := (h0, .inr (4, [.ref q1, .null, .null, .null, .null, .null, .int 0])) :: (q1, .inl (Y.2.1 0, 60, .inl (fun _ => 0))) :: []) rfl dX4_init_9 (fun H locs hI => ?_)
  refine lv_aload_n hx hb dX4_init_12 rfl (lv_at hl 0 rfl) ?_
  refine lv_bipush (v := 60) hx hb dX4_init_13 (by decide) ?_
  refine xc_newa (ty := .int) (N' := 60) (a0 := (60, .inl (fun _ => 0))) F hI rfl u_arr_int 0 rfl (fun C h9 => by cases h9) (fun _ => rfl) (by decide) (by decide) (by decide) (Nat.le_of_ble_eq_true rfl) (Nat.le_of_ble_eq_true rfl) dX4_init_15 (fun q2 H hI => ?_)
  have hI : xc_I Y (xc_A h0 s.heap.size) s H _ ((h0, .inr (4, [.ref q1, .null, .null, .null, .null, .null, .int 0])) :: (q2, .inl (Y.2.1 0, 60, .inl (fun _ => 0))) :: (q1, .inl (Y.2.1 0, 60, .inl (fun _ => 0))) :: []) := hI
  refine xc_putF F hn0 hI 0 rfl tyX4 rfl xin_4 tyX4_ok nmX4 (i := 1) (by decide) u_fl_X4_15 rfl rfl rfl (tyX4_ok 1 (by decide)) rfl rfl (Nat.le_of_ble_eq_true rfl) (ws' := (h0, .inr (4, [.ref q1, .ref q2, .null, .null, .null, .null, .int 0])) :: (q2, .inl (Y.2.1 0, 60, .inl (fun _ => 0))) :: (q1, .inl (Y.2.1 0, 60, .inl (fun _ => 0))) :: []) rfl dX4_init_17 (fun H locs hI => ?_)
  refine lv_aload_n hx hb dX4_init_20 rfl (lv_at hl 0 rfl) ?_
  refine lv_bipush (v := 60) hx hb dX4_init_21 (by decide) ?_
  refine xc_newa (ty := .int) (N' := 60) (a0 := (60, .inl (fun _ => 0))) F hI rfl u_arr_int 0 rfl (fun C h9 => by cases h9) (fun _ => rfl) (by decide) (by decide) (by decide) (Nat.le_of_ble_eq_true rfl) (Nat.le_of_ble_eq_true rfl) dX4_init_23 (fun q3 H hI => ?_)
  have hI : xc_I Y (xc_A h0 s.heap.size) s H _ ((h0, .inr (4, [.ref q1, .ref q2, .null, .null, .null, .null, .int 0])) :: (q3, .inl (Y.2.1 0, 60, .inl (fun _ => 0))) :: (q2, .inl (Y.2.1 0, 60, .inl (fun _ => 0))) :: (q1, .inl (Y.2.1 0, 60, .inl (fun _ => 0))) :: []) := hI
  refine xc_putF F hn0 hI 0 rfl tyX4 rfl xin_4 tyX4_ok nmX4 (i := 2) (by decide) u_fl_X4_18 rfl rfl rfl (tyX4_ok 2 (by decide)) rfl rfl (Nat.le_of_ble_eq_true rfl) (ws' := (h0, .inr (4, [.ref q1, .ref q2, .ref q3, .null, .null, .null, .int 0])) :: (q3, .inl (Y.2.1 0, 60, .inl (fun _ => 0))) :: (q2, .inl (Y.2.1 0, 60, .inl (fun _ => 0))) :: (q1, .inl (Y.2.1 0, 60, .inl (fun _ => 0))) :: []) rfl dX4_init_25 (fun H locs hI => ?_)
  refine lv_aload_n hx hb dX4_init_28 rfl (lv_at hl 0 rfl) ?_
  refine lv_bipush (v := 60) hx hb dX4_init_29 (by decide) ?_
  refine xc_newa (ty := .int) (N' := 60) (a0 := (60, .inl (fun _ => 0))) F hI rfl u_arr_int 0 rfl (fun C h9 => by cases h9) (fun _ => rfl) (by decide) (by decide) (by decide) (Nat.le_of_ble_eq_true rfl) (Nat.le_of_ble_eq_true rfl) dX4_init_31 (fun q4 H hI => ?_)
  have hI : xc_I Y (xc_A h0 s.heap.size) s H _ ((h0, .inr (4, [.ref q1, .ref q2, .ref q3, .null, .null, .null, .int 0])) :: (q4, .inl (Y.2.1 0, 60, .inl (fun _ => 0))) :: (q3, .inl (Y.2.1 0, 60, .inl (fun _ => 0))) :: (q2, .inl (Y.2.1 0, 60, .inl (fun _ => 0))) :: (q1, .inl (Y.2.1 0, 60, .inl (fun _ => 0))) :: []) := hI
  refine xc_putF F hn0 hI 0 rfl tyX4 rfl xin_4 tyX4_ok nmX4 (i := 3) (by decide) u_fl_X4_21 rfl rfl rfl (tyX4_ok 3 (by decide)) rfl rfl (Nat.le_of_ble_eq_true rfl) (ws' := (h0, .inr (4, [.ref q1, .ref q2, .ref q3, .ref q4, .null, .null, .int 0])) :: (q4, .inl (Y.2.1 0, 60, .inl (fun _ => 0))) :: (q3, .inl (Y.2.1 0, 60, .inl (fun _ => 0))) :: (q2, .inl (Y.2.1 0, 60, .inl (fun _ => 0))) :: (q1, .inl (Y.2.1 0, 60, .inl (fun _ => 0))) :: []) rfl dX4_init_33 (fun H locs hI => ?_)
  refine lv_aload_n hx hb dX4_init_36 rfl (lv_at hl 0 rfl) ?_
  refine lv_bipush (v := 60) hx hb dX4_init_37 (by decide) ?_
  refine xc_newa (ty := .int) (N' := 60) (a0 := (60, .inl (fun _ => 0))) F hI rfl u_arr_int 0 rfl (fun C h9 => by cases h9) (fun _ => rfl) (by decide) (by decide) (by decide) (Nat.le_of_ble_eq_true rfl) (Nat.le_of_ble_eq_true rfl) dX4_init_39 (fun q5 H hI => ?_)
  have hI : xc_I Y (xc_A h0 s.heap.size) s H _ ((h0, .inr (4, [.ref q1, .ref q2, .ref q3, .ref q4, .null, .null, .int 0])) :: (q5, .inl (Y.2.1 0, 60, .inl (fun _ => 0))) :: (q4, .inl (Y.2.1 0, 60, .inl (fun _ => 0))) :: (q3, .inl (Y.2.1 0, 60, .inl (fun _ => 0))) :: (q2, .inl (Y.2.1 0, 60, .inl (fun _ => 0))) :: (q1, .inl (Y.2.1 0, 60, .inl (fun _ => 0))) :: []) := hI
  refine xc_putF F hn0 hI 0 rfl tyX4 rfl xin_4 tyX4_ok nmX4 (i := 4) (by decide) u_fl_X4_24 rfl rfl rfl (tyX4_ok 4 (by decide)) rfl rfl (Nat.le_of_ble_eq_true rfl) (ws' := (h0, .inr (4, [.ref q1, .ref q2, .ref q3, .ref q4, .ref q5, .null, .int 0])) :: (q5, .inl (Y.2.1 0, 60, .inl (fun _ => 0))) :: (q4, .inl (Y.2.1 0, 60, .inl (fun _ => 0))) :: (q3, .inl (Y.2.1 0, 60, .inl (fun _ => 0))) :: (q2, .inl (Y.2.1 0, 60, .inl (fun _ => 0))) :: (q1, .inl (Y.2.1 0, 60, .inl (fun _ => 0))) :: []) rfl dX4_init_41 (fun H locs hI => ?_)
  refine lv_aload_n hx hb dX4_init_44 rfl (lv_at hl 0 rfl) ?_
  refine lv_bipush (v := 60) hx hb dX4_init_45 (by decide) ?_
  refine xc_newa (ty := .int) (N' := 60) (a0 := (60, .inl (fun _ => 0))) F hI rfl u_arr_int 0 rfl (fun C h9 => by cases h9) (fun _ => rfl) (by decide) (by decide) (by decide) (Nat.le_of_ble_eq_true rfl) (Nat.le_of_ble_eq_true rfl) dX4_init_47 (fun q6 H hI => ?_)
  have hI : xc_I Y (xc_A h0 s.heap.size) s H _ ((h0, .inr (4, [.ref q1, .ref q2, .ref q3, .ref q4, .ref q5, .null, .int 0])) :: (q6, .inl (Y.2.1 0, 60, .inl (fun _ => 0))) :: (q5, .inl (Y.2.1 0, 60, .inl (fun _ => 0))) :: (q4, .inl (Y.2.1 0, 60, .inl (fun _ => 0))) :: (q3, .inl (Y.2.1 0, 60, .inl (fun _ => 0))) :: (q2, .inl (Y.2.1 0, 60, .inl (fun _ => 0))) :: (q1, .inl (Y.2.1 0, 60, .inl (fun _ => 0))) :: []) := hI
  refine xc_putF F hn0 hI 0 rfl tyX4 rfl xin_4 tyX4_ok nmX4 (i := 5) (by decide) u_fl_X4_27 rfl rfl rfl (tyX4_ok 5 (by decide)) rfl rfl (Nat.le_of_ble_eq_true rfl) (ws' := (h0, .inr (4, [.ref q1, .ref q2, .ref q3, .ref q4, .ref q5, .ref q6, .int 0])) :: (q6, .inl (Y.2.1 0, 60, .inl (fun _ => 0))) :: (q5, .inl (Y.2.1 0, 60, .inl (fun _ => 0))) :: (q4, .inl (Y.2.1 0, 60, .inl (fun _ => 0))) :: (q3, .inl (Y.2.1 0, 60, .inl (fun _ => 0))) :: (q2, .inl (Y.2.1 0, 60, .inl (fun _ => 0))) :: (q1, .inl (Y.2.1 0, 60, .inl (fun _ => 0))) :: []) rfl dX4_init_49 (fun H locs hI => ?_)
  exact xc_ret F hI (xg_X4 h0 q6 q5 q4 q3 q2 q1) rfl rfl (Nat.le_of_ble_eq_true rfl) (Nat.le_of_ble_eq_true rfl) dX4_init_52
def xg_X0 (h0 q1 : Nat) : Nat → Nat → Nat := fun j k => match j with | 10 => (match k with | 37 => h0 | 38 => q1 | _ => 0) | _ => 0
def xi_X0 : List (Nat × Nat) := [(10, 37), (10, 38)]
abbrev rm_X0_init : Room := { frames := 1, cells := 1, slots := 60, locals := 20 }
set_option maxHeartbeats 8000000 in
set_option maxRecDepth 100000 in
theorem cX0 (l : Launch) (Y : x_T) (h0 sz : Nat) : Met l yX0_init (x_ws yX0_init cX0_init 1 none) rm_X0_init (xc_Pc Y h0 (.inr (0, [.null, .int 0, .int 0, .int 0])) sz) (xc_Q Y h0 sz (10, 37) x_s0 xi_X0) 1 60 (xc_A h0 sz) := by
  refine Met.ofW (cc := cX0_init) (maxL := 1) (ret := none) (by decide) rfl ?_
  intro p e s m args below meth c s₁ B hml hv
  obtain ⟨F, hO, hn0, hI, rfl, rfl⟩ := xc_begin B hml hv rfl
  replace F : x_F p s m _ meth c cX0_init 1 RX0 none := F
  have hx := F.1
  have hb := F.2.1
  refine x_entry (vs := [.ref h0]) (n := 1) (Nat.le_of_ble_eq_true rfl) (fun ls hl => ?_)
  replace hl : lv_has ls 1 [(0, .ref h0)] := hl
  have hI : xc_I Y (xc_A h0 s.heap.size) s s.heap [] ([(h0, .inr (0, [.null, .int 0, .int 0, .int 0]))]) := hI
  refine lv_aload_n hx hb dX0_init_0 rfl (lv_at hl 0 rfl) ?_
  refine xc_objInit F u_ml_X0_3 u_in_java_lang_Object_init_ u_co_java_lang_Object_init_ hl.1 ⟨by decide, by decide⟩ (Nat.le_of_ble_eq_true rfl) dX0_init_1 ?_
  refine lv_aload_n hx hb dX0_init_4 rfl (lv_at hl 0 rfl) ?_
  refine lv_bipush (v := 60) hx hb dX0_init_5 (by decide) ?_
  refine xc_newa (ty := .char) (N' := 60) (a0 := (60, .inl (fun _ => 0))) F hI rfl u_arr_char 1 rfl (fun C h9 => by cases h9) (fun _ => rfl) (by decide) (by decide) (by decide) (Nat.le_of_ble_eq_true rfl) (Nat.le_of_ble_eq_true rfl) dX0_init_7 (fun q1 H hI => ?_)
  have hI : xc_I Y (xc_A h0 s.heap.size) s H _ ((h0, .inr (0, [.null, .int 0, .int 0, .int 0])) :: (q1, .inl (Y.2.1 1, 60, .inl (fun _ => 0))) :: []) := hI
  refine xc_putF F hn0 hI 0 rfl tyX0 rfl xin_0 tyX0_ok nmX0 (i := 0) (by decide) u_fl_X0_9 rfl rfl rfl (tyX0_ok 0 (by decide)) rfl rfl (Nat.le_of_ble_eq_true rfl) (ws' := (h0, .inr (0, [.ref q1, .int 0, .int 0, .int 0])) :: (q1, .inl (Y.2.1 1, 60, .inl (fun _ => 0))) :: []) rfl dX0_init_9 (fun H locs hI => ?_)
  exact xc_ret F hI (xg_X0 h0 q1) rfl rfl (Nat.le_of_ble_eq_true rfl) (Nat.le_of_ble_eq_true rfl) dX0_init_12
def xg_X2 (h0 q4 : Nat) (G3 G2 G1 : Nat → Nat → Nat) : Nat → Nat → Nat := fun j k => match j with | 0 => (match k with | 0 => h0 | 1 => G1 0 1 | 2 => G2 0 2 | 3 => G3 0 3 | 4 => q4 | 5 => G1 0 5 | 6 => G1 0 6 | 7 => G1 0 7 | 8 => G1 0 8 | 9 => G1 0 9 | 10 => G1 0 10 | 11 => G1 0 11 | 12 => G2 0 12 | 13 => G2 0 13 | 14 => G2 0 14 | 15 => G2 0 15 | 16 => G2 0 16 | 17 => G2 0 17 | 18 => G2 0 18 | 19 => G3 0 19 | 20 => G3 0 20 | 21 => G3 0 21 | 22 => G3 0 22 | 23 => G3 0 23 | 24 => G3 0 24 | _ => 0) | _ => 0
def xi_X2 : List (Nat × Nat) := [(0, 0), (0, 4), (0, 3), (0, 24), (0, 23), (0, 22), (0, 21), (0, 20), (0, 19), (0, 2), (0, 18), (0, 17), (0, 16), (0, 15), (0, 14), (0, 13), (0, 12), (0, 1), (0, 11), (0, 10), (0, 9), (0, 8), (0, 7), (0, 6), (0, 5)]
abbrev rm_X2_init : Room := { frames := 2, cells := 24, slots := 580, locals := 41 }
set_option maxHeartbeats 8000000 in
set_option maxRecDepth 100000 in
theorem cX2 (l : Launch) (Y : x_T) (h0 sz : Nat) : Met l yX2_init (x_ws yX2_init cX2_init 1 none) rm_X2_init (xc_Pc Y h0 (.inr (2, [.null, .null, .null, .null, .int 0, .int 0, .int 0, .int 0, .int 0, .int 0, .int 0])) sz) (xc_Q Y h0 sz (0, 0) x_s0 xi_X2) 24 580 (xc_A h0 sz) := by
  refine Met.ofW (cc := cX2_init) (maxL := 1) (ret := none) (by decide) rfl ?_
  intro p e s m args below meth c s₁ B hml hv
  obtain ⟨F, hO, hn0, hI, rfl, rfl⟩ := xc_begin B hml hv rfl
  replace F : x_F p s m _ meth c cX2_init 1 RX2 none := F
  have hx := F.1
  have hb := F.2.1
  refine x_entry (vs := [.ref h0]) (n := 1) (Nat.le_of_ble_eq_true rfl) (fun ls hl => ?_)
  replace hl : lv_has ls 1 [(0, .ref h0)] := hl
  have hI : xc_I Y (xc_A h0 s.heap.size) s s.heap [] ([(h0, .inr (2, [.null, .null, .null, .null, .int 0, .int 0, .int 0, .int 0, .int 0, .int 0, .int 0]))]) := hI
  refine lv_aload_n hx hb dX2_init_0 rfl (lv_at hl 0 rfl) ?_
  refine xc_objInit F u_ml_X2_3 u_in_java_lang_Object_init_ u_co_java_lang_Object_init_ hl.1 ⟨by decide, by decide⟩ (Nat.le_of_ble_eq_true rfl) dX2_init_1 ?_
  refine lv_aload_n hx hb dX2_init_4 rfl (lv_at hl 0 rfl) ?_
  refine xc_new (ci := 1) (fs := [.null, .null, .null, .null, .null, .null, .null]) F hI xin_1 tyX1 tyX1_ok u_clk_X2_9 u_inst_X1 u_ini_X1 rfl (fun j hj => by rcases (show j = 0 ∨ j = 1 ∨ j = 2 ∨ j = 3 ∨ j = 4 ∨ j = 5 ∨ j = 6 by omega) with rfl | rfl | rfl | rfl | rfl | rfl | rfl <;> rfl) (Nat.le_of_ble_eq_true rfl) (Nat.le_of_ble_eq_true rfl) dX2_init_5 (fun q1 H hI => ?_)
  have hI : xc_I Y (xc_A h0 s.heap.size) s H _ ((q1, .inr (1, [.null, .null, .null, .null, .null, .null, .null])) :: (h0, .inr (2, [.null, .null, .null, .null, .int 0, .int 0, .int 0, .int 0, .int 0, .int 0, .int 0])) :: []) := hI
  refine lv_dup hx hb dX2_init_8 rfl ?_
  refine xc_made hI (xc_runI F hO hI (cX1 l Y q1 H.size) u_ml_X2_11 u_co_X1_init u_ini_X1 u_in_X1_init rfl hd_X1_init ⟨by decide, by decide⟩ ⟨rfl, rfl⟩ hl.1 (Nat.le_of_ble_eq_true rfl) dX2_init_9 ⟨by decide, by decide⟩) (fun G1 H locs hG hJ => ?_)
  obtain rfl := hG
  have hI := hJ.perm List.perm_middle
  have hI : xc_I Y (xc_A h0 s.heap.size) s H _ ((h0, .inr (2, [.null, .null, .null, .null, .int 0, .int 0, .int 0, .int 0, .int 0, .int 0, .int 0])) :: (xc_w Y G1 x_s0 xi_X1 ++ [])) := hI
  refine xc_putF F hn0 hI 0 rfl tyX2 rfl xin_2 tyX2_ok nmX2 (i := 0) (by decide) u_fl_X2_12 rfl rfl rfl (tyX2_ok 0 (by decide)) rfl rfl (Nat.le_of_ble_eq_true rfl) (ws' := (h0, .inr (2, [.ref (G1 0 1), .null, .null, .null, .int 0, .int 0, .int 0, .int 0, .int 0, .int 0, .int 0])) :: (xc_w Y G1 x_s0 xi_X1 ++ [])) rfl dX2_init_12 (fun H locs hI => ?_)
  refine lv_aload_n hx hb dX2_init_15 rfl (lv_at hl 0 rfl) ?_
  refine xc_new (ci := 3) (fs := [.null, .null, .null, .null, .null, .null, .null, .int 0, .int 0, .int 0, .int 0]) F hI xin_3 tyX3 tyX3_ok u_clk_X2_18 u_inst_X3 u_ini_X3 rfl (fun j hj => by rcases (show j = 0 ∨ j = 1 ∨ j = 2 ∨ j = 3 ∨ j = 4 ∨ j = 5 ∨ j = 6 ∨ j = 7 ∨ j = 8 ∨ j = 9 ∨ j = 10 by omega) with rfl | rfl | rfl | rfl | rfl | rfl | rfl | rfl | rfl | rfl | rfl <;> rfl) (Nat.le_of_ble_eq_true rfl) (Nat.le_of_ble_eq_true rfl) dX2_init_16 (fun q2 H hI => ?_)
  have hI : xc_I Y (xc_A h0 s.heap.size) s H _ ((q2, .inr (3, [.null, .null, .null, .null, .null, .null, .null, .int 0, .int 0, .int 0, .int 0])) :: (h0, .inr (2, [.ref (G1 0 1), .null, .null, .null, .int 0, .int 0, .int 0, .int 0, .int 0, .int 0, .int 0])) :: (xc_w Y G1 x_s0 xi_X1 ++ [])) := hI
  refine lv_dup hx hb dX2_init_19 rfl ?_
  refine xc_made hI (xc_runI F hO hI (cX3 l Y q2 H.size) u_ml_X2_20 u_co_X3_init u_ini_X3 u_in_X3_init rfl hd_X3_init ⟨by decide, by decide⟩ ⟨rfl, rfl⟩ hl.1 (Nat.le_of_ble_eq_true rfl) dX2_init_20 ⟨by decide, by decide⟩) (fun G2 H locs hG hJ => ?_)
  obtain rfl := hG
  have hI := hJ.perm List.perm_middle
  have hI : xc_I Y (xc_A h0 s.heap.size) s H _ ((h0, .inr (2, [.ref (G1 0 1), .null, .null, .null, .int 0, .int 0, .int 0, .int 0, .int 0, .int 0, .int 0])) :: (xc_w Y G2 x_s0 xi_X3 ++ (xc_w Y G1 x_s0 xi_X1 ++ []))) := hI
  refine xc_putF F hn0 hI 0 rfl tyX2 rfl xin_2 tyX2_ok nmX2 (i := 1) (by decide) u_fl_X2_21 rfl rfl rfl (tyX2_ok 1 (by decide)) rfl rfl (Nat.le_of_ble_eq_true rfl) (ws' := (h0, .inr (2, [.ref (G1 0 1), .ref (G2 0 2), .null, .null, .int 0, .int 0, .int 0, .int 0, .int 0, .int 0, .int 0])) :: (xc_w Y G2 x_s0 xi_X3 ++ (xc_w Y G1 x_s0 xi_X1 ++ []))) rfl dX2_init_23 (fun H locs hI => ?_)
  refine lv_aload_n hx hb dX2_init_26 rfl (lv_at hl 0 rfl) ?_
  refine xc_new (ci := 4) (fs := [.null, .null, .null, .null, .null, .null, .int 0]) F hI xin_4 tyX4 tyX4_ok u_clk_X2_25 u_inst_X4 u_ini_X4 rfl (fun j hj => by rcases (show j = 0 ∨ j = 1 ∨ j = 2 ∨ j = 3 ∨ j = 4 ∨ j = 5 ∨ j = 6 by omega) with rfl | rfl | rfl | rfl | rfl | rfl | rfl <;> rfl) (Nat.le_of_ble_eq_true rfl) (Nat.le_of_ble_eq_true rfl) dX2_init_27 (fun q3 H hI => ?_)
  have hI : xc_I Y (xc_A h0 s.heap.size) s H _ ((q3, .inr (4, [.null, .null, .null, .null, .null, .null, .int 0])) :: (h0, .inr (2, [.ref (G1 0 1), .ref (G2 0 2), .null, .null, .int 0, .int 0, .int 0, .int 0, .int 0, .int 0, .int 0])) :: (xc_w Y G2 x_s0 xi_X3 ++ (xc_w Y G1 x_s0 xi_X1 ++ []))) := hI
  refine lv_dup hx hb dX2_init_30 rfl ?_
  refine xc_made hI (xc_runIN F hO hI (cX4 l Y q3 H.size) u_mln_X2_27 u_co_X4_init u_ini_X4 u_in_X4_init rfl hd_X4_init ⟨by decide, by decide⟩ ⟨rfl, rfl⟩ hl.1 (Nat.le_of_ble_eq_true rfl) dX2_init_31 ⟨by decide, by decide⟩) (fun G3 H locs hG hJ => ?_)
  obtain rfl := hG
  have hI := hJ.perm List.perm_middle
  have hI : xc_I Y (xc_A h0 s.heap.size) s H _ ((h0, .inr (2, [.ref (G1 0 1), .ref (G2 0 2), .null, .null, .int 0, .int 0, .int 0, .int 0, .int 0, .int 0, .int 0])) :: (xc_w Y G3 x_s0 xi_X4 ++ (xc_w Y G2 x_s0 xi_X3 ++ (xc_w Y G1 x_s0 xi_X1 ++ [])))) := hI
  refine xc_putF F hn0 hI 0 rfl tyX2 rfl xin_2 tyX2_ok nmX2 (i := 2) (by decide) u_fl_X2_28 rfl rfl rfl (tyX2_ok 2 (by decide)) rfl rfl (Nat.le_of_ble_eq_true rfl) (ws' := (h0, .inr (2, [.ref (G1 0 1), .ref (G2 0 2), .ref (G3 0 3), .null, .int 0, .int 0, .int 0, .int 0, .int 0, .int 0, .int 0])) :: (xc_w Y G3 x_s0 xi_X4 ++ (xc_w Y G2 x_s0 xi_X3 ++ (xc_w Y G1 x_s0 xi_X1 ++ [])))) rfl dX2_init_34 (fun H locs hI => ?_)
  refine lv_aload_n hx hb dX2_init_37 rfl (lv_at hl 0 rfl) ?_
  refine lv_bipush (v := 7) hx hb dX2_init_38 (by decide) ?_
  refine xc_newa (ty := .int) (N' := 7) (a0 := (7, .inl (fun _ => 0))) F hI rfl u_arr_int 0 rfl (fun C h9 => by cases h9) (fun _ => rfl) (by decide) (by decide) (by decide) (Nat.le_of_ble_eq_true rfl) (Nat.le_of_ble_eq_true rfl) dX2_init_40 (fun q4 H hI => ?_)
  have hI : xc_I Y (xc_A h0 s.heap.size) s H _ ((h0, .inr (2, [.ref (G1 0 1), .ref (G2 0 2), .ref (G3 0 3), .null, .int 0, .int 0, .int 0, .int 0, .int 0, .int 0, .int 0])) :: (q4, .inl (Y.2.1 0, 7, .inl (fun _ => 0))) :: (xc_w Y G3 x_s0 xi_X4 ++ (xc_w Y G2 x_s0 xi_X3 ++ (xc_w Y G1 x_s0 xi_X1 ++ [])))) := hI
  refine xc_putF F hn0 hI 0 rfl tyX2 rfl xin_2 tyX2_ok nmX2 (i := 3) (by decide) u_fl_X2_32 rfl rfl rfl (tyX2_ok 3 (by decide)) rfl rfl (Nat.le_of_ble_eq_true rfl) (ws' := (h0, .inr (2, [.ref (G1 0 1), .ref (G2 0 2), .ref (G3 0 3), .ref q4, .int 0, .int 0, .int 0, .int 0, .int 0, .int 0, .int 0])) :: (q4, .inl (Y.2.1 0, 7, .inl (fun _ => 0))) :: (xc_w Y G3 x_s0 xi_X4 ++ (xc_w Y G2 x_s0 xi_X3 ++ (xc_w Y G1 x_s0 xi_X1 ++ [])))) rfl dX2_init_42 (fun H locs hI => ?_)
  exact xc_ret F hI (xg_X2 h0 q4 G3 G2 G1) rfl rfl (Nat.le_of_ble_eq_true rfl) (Nat.le_of_ble_eq_true rfl) dX2_init_45
def xg_X5 (h0 q1 : Nat) (G7 G6 G5 G4 G3 G2 : Nat → Nat → Nat) : Nat → Nat → Nat := fun j k => match j with | 2 => (match k with | 0 => G2 0 0 | 1 => G2 0 1 | 2 => G2 0 2 | 3 => G2 0 3 | 4 => G2 0 4 | 5 => G2 0 5 | 6 => G2 0 6 | 7 => G2 0 7 | 8 => G2 0 8 | 9 => G2 0 9 | 10 => G2 0 10 | 11 => G2 0 11 | 12 => G2 0 12 | 13 => G2 0 13 | 14 => G2 0 14 | 15 => G2 0 15 | 16 => G2 0 16 | 17 => G2 0 17 | 18 => G2 0 18 | 19 => G2 0 19 | 20 => G2 0 20 | 21 => G2 0 21 | 22 => G2 0 22 | 23 => G2 0 23 | 24 => G2 0 24 | _ => 0) | 3 => (match k with | 0 => G3 0 0 | 1 => G3 0 1 | 2 => G3 0 2 | 3 => G3 0 3 | 4 => G3 0 4 | 5 => G3 0 5 | 6 => G3 0 6 | 7 => G3 0 7 | 8 => G3 0 8 | 9 => G3 0 9 | 10 => G3 0 10 | 11 => G3 0 11 | 12 => G3 0 12 | 13 => G3 0 13 | 14 => G3 0 14 | 15 => G3 0 15 | 16 => G3 0 16 | 17 => G3 0 17 | 18 => G3 0 18 | 19 => G3 0 19 | 20 => G3 0 20 | 21 => G3 0 21 | 22 => G3 0 22 | 23 => G3 0 23 | 24 => G3 0 24 | _ => 0) | 4 => (match k with | 0 => G4 0 0 | 1 => G4 0 1 | 2 => G4 0 2 | 3 => G4 0 3 | 4 => G4 0 4 | 5 => G4 0 5 | 6 => G4 0 6 | 7 => G4 0 7 | 8 => G4 0 8 | 9 => G4 0 9 | 10 => G4 0 10 | 11 => G4 0 11 | 12 => G4 0 12 | 13 => G4 0 13 | 14 => G4 0 14 | 15 => G4 0 15 | 16 => G4 0 16 | 17 => G4 0 17 | 18 => G4 0 18 | 19 => G4 0 19 | 20 => G4 0 20 | 21 => G4 0 21 | 22 => G4 0 22 | 23 => G4 0 23 | 24 => G4 0 24 | _ => 0) | 5 => (match k with | 0 => G5 0 0 | 1 => G5 0 1 | 2 => G5 0 2 | 3 => G5 0 3 | 4 => G5 0 4 | 5 => G5 0 5 | 6 => G5 0 6 | 7 => G5 0 7 | 8 => G5 0 8 | 9 => G5 0 9 | 10 => G5 0 10 | 11 => G5 0 11 | 12 => G5 0 12 | 13 => G5 0 13 | 14 => G5 0 14 | 15 => G5 0 15 | 16 => G5 0 16 | 17 => G5 0 17 | 18 => G5 0 18 | 19 => G5 0 19 | 20 => G5 0 20 | 21 => G5 0 21 | 22 => G5 0 22 | 23 => G5 0 23 | 24 => G5 0 24 | _ => 0) | 6 => (match k with | 0 => G6 0 0 | 1 => G6 0 1 | 2 => G6 0 2 | 3 => G6 0 3 | 4 => G6 0 4 | 5 => G6 0 5 | 6 => G6 0 6 | 7 => G6 0 7 | 8 => G6 0 8 | 9 => G6 0 9 | 10 => G6 0 10 | 11 => G6 0 11 | 12 => G6 0 12 | 13 => G6 0 13 | 14 => G6 0 14 | 15 => G6 0 15 | 16 => G6 0 16 | 17 => G6 0 17 | 18 => G6 0 18 | 19 => G6 0 19 | 20 => G6 0 20 | 21 => G6 0 21 | 22 => G6 0 22 | 23 => G6 0 23 | 24 => G6 0 24 | _ => 0) | 7 => (match k with | 0 => G7 0 0 | 1 => G7 0 1 | 2 => G7 0 2 | 3 => G7 0 3 | 4 => G7 0 4 | 5 => G7 0 5 | 6 => G7 0 6 | 7 => G7 0 7 | 8 => G7 0 8 | 9 => G7 0 9 | 10 => G7 0 10 | 11 => G7 0 11 | 12 => G7 0 12 | 13 => G7 0 13 | 14 => G7 0 14 | 15 => G7 0 15 | 16 => G7 0 16 | 17 => G7 0 17 | 18 => G7 0 18 | 19 => G7 0 19 | 20 => G7 0 20 | 21 => G7 0 21 | 22 => G7 0 22 | 23 => G7 0 23 | 24 => G7 0 24 | _ => 0) | 10 => (match k with | 33 => h0 | 34 => q1 | _ => 0) | _ => 0
def xi_X5 : List (Nat × Nat) := [(10, 33), (10, 34), (7, 0), (7, 4), (7, 3), (7, 24), (7, 23), (7, 22), (7, 21), (7, 20), (7, 19), (7, 2), (7, 18), (7, 17), (7, 16), (7, 15), (7, 14), (7, 13), (7, 12), (7, 1), (7, 11), (7, 10), (7, 9), (7, 8), (7, 7), (7, 6), (7, 5), (6, 0), (6, 4), (6, 3), (6, 24), (6, 23), (6, 22), (6, 21), (6, 20), (6, 19), (6, 2), (6, 18), (6, 17), (6, 16), (6, 15), (6, 14), (6, 13), (6, 12), (6, 1), (6, 11), (6, 10), (6, 9), (6, 8), (6, 7), (6, 6), (6, 5), (5, 0), (5, 4), (5, 3), (5, 24), (5, 23), (5, 22), (5, 21), (5, 20), (5, 19), (5, 2), (5, 18), (5, 17), (5, 16), (5, 15), (5, 14), (5, 13), (5, 12), (5, 1), (5, 11), (5, 10), (5, 9), (5, 8), (5, 7), (5, 6), (5, 5), (4, 0), (4, 4), (4, 3), (4, 24), (4, 23), (4, 22), (4, 21), (4, 20), (4, 19), (4, 2), (4, 18), (4, 17), (4, 16), (4, 15), (4, 14), (4, 13), (4, 12), (4, 1), (4, 11), (4, 10), (4, 9), (4, 8), (4, 7), (4, 6), (4, 5), (3, 0), (3, 4), (3, 3), (3, 24), (3, 23), (3, 22), (3, 21), (3, 20), (3, 19), (3, 2), (3, 18), (3, 17), (3, 16), (3, 15), (3, 14), (3, 13), (3, 12), (3, 1), (3, 11), (3, 10), (3, 9), (3, 8), (3, 7), (3, 6), (3, 5), (2, 0), (2, 4), (2, 3), (2, 24), (2, 23), (2, 22), (2, 21), (2, 20), (2, 19), (2, 2), (2, 18), (2, 17), (2, 16), (2, 15), (2, 14), (2, 13), (2, 12), (2, 1), (2, 11), (2, 10), (2, 9), (2, 8), (2, 7), (2, 6), (2, 5)]
abbrev rm_X5_init : Room := { frames := 3, cells := 151, slots := 3552, locals := 61 }
set_option maxHeartbeats 8000000 in
set_option maxRecDepth 100000 in
theorem cX5 (l : Launch) (Y : x_T) (h0 sz : Nat) : Met l yX5_init (x_ws yX5_init cX5_init 2 none) rm_X5_init (xc_Pc Y h0 (.inr (5, [.null, .int 0])) sz) (xc_Q Y h0 sz (10, 33) x_s0 xi_X5) 151 3552 (xc_A h0 sz) := by
  refine Met.ofW (cc := cX5_init) (maxL := 2) (ret := none) (by decide) rfl ?_
  intro p e s m args below meth c s₁ B hml hv
  obtain ⟨F, hO, hn0, hI, rfl, rfl⟩ := xc_begin B hml hv rfl
  replace F : x_F p s m _ meth c cX5_init 2 RX5 none := F
  have hx := F.1
  have hb := F.2.1
  refine x_entry (vs := [.ref h0]) (n := 2) (Nat.le_of_ble_eq_true rfl) (fun ls hl => ?_)
  replace hl : lv_has ls 2 [(0, .ref h0)] := hl
  have hI : xc_I Y (xc_A h0 s.heap.size) s s.heap [] ([(h0, .inr (5, [.null, .int 0]))]) := hI
  refine lv_aload_n hx hb dX5_init_0 rfl (lv_at hl 0 rfl) ?_
  refine xc_objInit F u_ml_X5_3 u_in_java_lang_Object_init_ u_co_java_lang_Object_init_ hl.1 ⟨by decide, by decide⟩ (Nat.le_of_ble_eq_true rfl) dX5_init_1 ?_
  refine lv_aload_n hx hb dX5_init_4 rfl (lv_at hl 0 rfl) ?_
  refine lv_bipush (v := 6) hx hb dX5_init_5 (by decide) ?_
  refine xc_newq (N' := 6) F hO hI u_clk_X5_9 (by decide) (by decide) (by decide) (Nat.le_of_ble_eq_true rfl) (Nat.le_of_ble_eq_true rfl) dX5_init_7 (fun q1 H hI => ?_)
  have hI : xc_I Y (xc_A h0 s.heap.size) s H _ ((h0, .inr (5, [.null, .int 0])) :: (q1, .inl (Y.2.1 3, 6, .inr (.inr (.inr (.inr (fun _ => none)))))) :: []) := hI
  refine xc_putF F hn0 hI 0 rfl tyX5 rfl xin_5 tyX5_ok nmX5 (i := 0) (by decide) u_fl_X5_11 rfl rfl rfl (tyX5_ok 0 (by decide)) rfl rfl (Nat.le_of_ble_eq_true rfl) (ws' := (h0, .inr (5, [.ref q1, .int 0])) :: (q1, .inl (Y.2.1 3, 6, .inr (.inr (.inr (.inr (fun _ => none)))))) :: []) rfl dX5_init_10 (fun H locs hI => ?_)
  refine lv_iconst (v := 0) hx hb dX5_init_13 (by decide) ?_
  refine lv_istore_n (lv' := [(1, .int 0), (0, .ref h0)]) hx hb dX5_init_14 rfl hl (by decide) rfl (fun ls hl => ?_)
  refine lv_iload_n hx hb dX5_init_15 rfl (lv_at hl 0 rfl) ?_
  refine lv_bipush (v := 6) hx hb dX5_init_16 (by decide) ?_
  refine lv_icmp_ge (tgt := 40) hx hb dX5_init_18 (by decide) (fun c9 => absurd c9 (by decide)) (fun _ => ?_)
  refine lv_aload_n hx hb dX5_init_21 rfl (lv_at hl 1 rfl) ?_
  refine xc_get F hI 0 rfl rfl xin_5 (i := 0) (v := .ref q1) (by decide) u_fl_X5_11 rfl rfl dX5_init_22 ?_
  refine lv_iload_n hx hb dX5_init_25 rfl (lv_at hl 0 rfl) ?_
  refine xc_new (ci := 2) (fs := [.null, .null, .null, .null, .int 0, .int 0, .int 0, .int 0, .int 0, .int 0, .int 0]) F hI xin_2 tyX2 tyX2_ok u_clk_X5_9 u_inst_X2 u_ini_X2 rfl (fun j hj => by rcases (show j = 0 ∨ j = 1 ∨ j = 2 ∨ j = 3 ∨ j = 4 ∨ j = 5 ∨ j = 6 ∨ j = 7 ∨ j = 8 ∨ j = 9 ∨ j = 10 by omega) with rfl | rfl | rfl | rfl | rfl | rfl | rfl | rfl | rfl | rfl | rfl <;> rfl) (Nat.le_of_ble_eq_true rfl) (Nat.le_of_ble_eq_true rfl) dX5_init_26 (fun q2 H hI => ?_)
  have hI : xc_I Y (xc_A h0 s.heap.size) s H _ ((q2, .inr (2, [.null, .null, .null, .null, .int 0, .int 0, .int 0, .int 0, .int 0, .int 0, .int 0])) :: (h0, .inr (5, [.ref q1, .int 0])) :: (q1, .inl (Y.2.1 3, 6, .inr (.inr (.inr (.inr (fun _ => none)))))) :: []) := hI
  refine lv_dup hx hb dX5_init_29 rfl ?_
  refine xc_made hI (xc_runIN F hO hI (cX2 l Y q2 H.size) u_mln_X5_17 u_co_X2_init u_ini_X2 u_in_X2_init rfl hd_X2_init ⟨by decide, by decide⟩ ⟨rfl, rfl⟩ hl.1 (Nat.le_of_ble_eq_true rfl) dX5_init_30 ⟨by decide, by decide⟩) (fun G2 H locs hG hJ => ?_)
  obtain rfl := hG
  have hI := hJ.perm List.perm_middle
  replace hI := hI.perm (List.Perm.cons _ List.perm_middle)
  have hI : xc_I Y (xc_A h0 s.heap.size) s H _ ((h0, .inr (5, [.ref q1, .int 0])) :: (q1, .inl (Y.2.1 3, 6, .inr (.inr (.inr (.inr (fun _ => none)))))) :: (xc_w Y G2 x_s0 xi_X2 ++ [])) := hI
  refine xc_astq (n := 6) F hI 1 2 rfl rfl (by decide) (ws' := (h0, .inr (5, [.ref q1, .int 0])) :: (q1, .inl (Y.2.1 3, 6, .inr (.inr (.inr (.inr (va_up (fun _ => none) (Int32.toNatClampNeg 0) (some (G2 0 0)))))))) :: (xc_w Y G2 x_s0 xi_X2 ++ [])) rfl dX5_init_33 (fun H locs hI => ?_)
  refine lv_iinc (v := 1) (lv' := [(1, .int 1), (0, .ref h0)]) hx hb dX5_init_34 hl (k := 0) rfl (by decide) (by decide) rfl (fun ls hl => ?_)
  refine lv_goto (tgt := 15) hx hb dX5_init_37 (by decide) ?_
  refine lv_iload_n hx hb dX5_init_15 rfl (lv_at hl 0 rfl) ?_
  refine lv_bipush (v := 6) hx hb dX5_init_16 (by decide) ?_
  refine lv_icmp_ge (tgt := 40) hx hb dX5_init_18 (by decide) (fun c9 => absurd c9 (by decide)) (fun _ => ?_)
  refine lv_aload_n hx hb dX5_init_21 rfl (lv_at hl 1 rfl) ?_
  refine xc_get F hI 0 rfl rfl xin_5 (i := 0) (v := .ref q1) (by decide) u_fl_X5_11 rfl rfl dX5_init_22 ?_
  refine lv_iload_n hx hb dX5_init_25 rfl (lv_at hl 0 rfl) ?_
  refine xc_new (ci := 2) (fs := [.null, .null, .null, .null, .int 0, .int 0, .int 0, .int 0, .int 0, .int 0, .int 0]) F hI xin_2 tyX2 tyX2_ok u_clk_X5_9 u_inst_X2 u_ini_X2 rfl (fun j hj => by rcases (show j = 0 ∨ j = 1 ∨ j = 2 ∨ j = 3 ∨ j = 4 ∨ j = 5 ∨ j = 6 ∨ j = 7 ∨ j = 8 ∨ j = 9 ∨ j = 10 by omega) with rfl | rfl | rfl | rfl | rfl | rfl | rfl | rfl | rfl | rfl | rfl <;> rfl) (Nat.le_of_ble_eq_true rfl) (Nat.le_of_ble_eq_true rfl) dX5_init_26 (fun q3 H hI => ?_)
  have hI : xc_I Y (xc_A h0 s.heap.size) s H _ ((q3, .inr (2, [.null, .null, .null, .null, .int 0, .int 0, .int 0, .int 0, .int 0, .int 0, .int 0])) :: (h0, .inr (5, [.ref q1, .int 0])) :: (q1, .inl (Y.2.1 3, 6, .inr (.inr (.inr (.inr (va_up (fun _ => none) (Int32.toNatClampNeg 0) (some (G2 0 0)))))))) :: (xc_w Y G2 x_s0 xi_X2 ++ [])) := hI
  refine lv_dup hx hb dX5_init_29 rfl ?_
  refine xc_made hI (xc_runIN F hO hI (cX2 l Y q3 H.size) u_mln_X5_17 u_co_X2_init u_ini_X2 u_in_X2_init rfl hd_X2_init ⟨by decide, by decide⟩ ⟨rfl, rfl⟩ hl.1 (Nat.le_of_ble_eq_true rfl) dX5_init_30 ⟨by decide, by decide⟩) (fun G3 H locs hG hJ => ?_)
  obtain rfl := hG
  have hI := hJ.perm List.perm_middle
  replace hI := hI.perm (List.Perm.cons _ List.perm_middle)
  have hI : xc_I Y (xc_A h0 s.heap.size) s H _ ((h0, .inr (5, [.ref q1, .int 0])) :: (q1, .inl (Y.2.1 3, 6, .inr (.inr (.inr (.inr (va_up (fun _ => none) (Int32.toNatClampNeg 0) (some (G2 0 0)))))))) :: (xc_w Y G3 x_s0 xi_X2 ++ (xc_w Y G2 x_s0 xi_X2 ++ []))) := hI
  refine xc_astq (n := 6) F hI 1 2 rfl rfl (by decide) (ws' := (h0, .inr (5, [.ref q1, .int 0])) :: (q1, .inl (Y.2.1 3, 6, .inr (.inr (.inr (.inr (va_up (va_up (fun _ => none) (Int32.toNatClampNeg 0) (some (G2 0 0))) (Int32.toNatClampNeg 1) (some (G3 0 0)))))))) :: (xc_w Y G3 x_s0 xi_X2 ++ (xc_w Y G2 x_s0 xi_X2 ++ []))) rfl dX5_init_33 (fun H locs hI => ?_)
  refine lv_iinc (v := 2) (lv' := [(1, .int 2), (0, .ref h0)]) hx hb dX5_init_34 hl (k := 0) rfl (by decide) (by decide) rfl (fun ls hl => ?_)
  refine lv_goto (tgt := 15) hx hb dX5_init_37 (by decide) ?_
  refine lv_iload_n hx hb dX5_init_15 rfl (lv_at hl 0 rfl) ?_
  refine lv_bipush (v := 6) hx hb dX5_init_16 (by decide) ?_
  refine lv_icmp_ge (tgt := 40) hx hb dX5_init_18 (by decide) (fun c9 => absurd c9 (by decide)) (fun _ => ?_)
  refine lv_aload_n hx hb dX5_init_21 rfl (lv_at hl 1 rfl) ?_
  refine xc_get F hI 0 rfl rfl xin_5 (i := 0) (v := .ref q1) (by decide) u_fl_X5_11 rfl rfl dX5_init_22 ?_
  refine lv_iload_n hx hb dX5_init_25 rfl (lv_at hl 0 rfl) ?_
  refine xc_new (ci := 2) (fs := [.null, .null, .null, .null, .int 0, .int 0, .int 0, .int 0, .int 0, .int 0, .int 0]) F hI xin_2 tyX2 tyX2_ok u_clk_X5_9 u_inst_X2 u_ini_X2 rfl (fun j hj => by rcases (show j = 0 ∨ j = 1 ∨ j = 2 ∨ j = 3 ∨ j = 4 ∨ j = 5 ∨ j = 6 ∨ j = 7 ∨ j = 8 ∨ j = 9 ∨ j = 10 by omega) with rfl | rfl | rfl | rfl | rfl | rfl | rfl | rfl | rfl | rfl | rfl <;> rfl) (Nat.le_of_ble_eq_true rfl) (Nat.le_of_ble_eq_true rfl) dX5_init_26 (fun q4 H hI => ?_)
  have hI : xc_I Y (xc_A h0 s.heap.size) s H _ ((q4, .inr (2, [.null, .null, .null, .null, .int 0, .int 0, .int 0, .int 0, .int 0, .int 0, .int 0])) :: (h0, .inr (5, [.ref q1, .int 0])) :: (q1, .inl (Y.2.1 3, 6, .inr (.inr (.inr (.inr (va_up (va_up (fun _ => none) (Int32.toNatClampNeg 0) (some (G2 0 0))) (Int32.toNatClampNeg 1) (some (G3 0 0)))))))) :: (xc_w Y G3 x_s0 xi_X2 ++ (xc_w Y G2 x_s0 xi_X2 ++ []))) := hI
  refine lv_dup hx hb dX5_init_29 rfl ?_
  refine xc_made hI (xc_runIN F hO hI (cX2 l Y q4 H.size) u_mln_X5_17 u_co_X2_init u_ini_X2 u_in_X2_init rfl hd_X2_init ⟨by decide, by decide⟩ ⟨rfl, rfl⟩ hl.1 (Nat.le_of_ble_eq_true rfl) dX5_init_30 ⟨by decide, by decide⟩) (fun G4 H locs hG hJ => ?_)
  obtain rfl := hG
  have hI := hJ.perm List.perm_middle
  replace hI := hI.perm (List.Perm.cons _ List.perm_middle)
  have hI : xc_I Y (xc_A h0 s.heap.size) s H _ ((h0, .inr (5, [.ref q1, .int 0])) :: (q1, .inl (Y.2.1 3, 6, .inr (.inr (.inr (.inr (va_up (va_up (fun _ => none) (Int32.toNatClampNeg 0) (some (G2 0 0))) (Int32.toNatClampNeg 1) (some (G3 0 0)))))))) :: (xc_w Y G4 x_s0 xi_X2 ++ (xc_w Y G3 x_s0 xi_X2 ++ (xc_w Y G2 x_s0 xi_X2 ++ [])))) := hI
  refine xc_astq (n := 6) F hI 1 2 rfl rfl (by decide) (ws' := (h0, .inr (5, [.ref q1, .int 0])) :: (q1, .inl (Y.2.1 3, 6, .inr (.inr (.inr (.inr (va_up (va_up (va_up (fun _ => none) (Int32.toNatClampNeg 0) (some (G2 0 0))) (Int32.toNatClampNeg 1) (some (G3 0 0))) (Int32.toNatClampNeg 2) (some (G4 0 0)))))))) :: (xc_w Y G4 x_s0 xi_X2 ++ (xc_w Y G3 x_s0 xi_X2 ++ (xc_w Y G2 x_s0 xi_X2 ++ [])))) rfl dX5_init_33 (fun H locs hI => ?_)
  refine lv_iinc (v := 3) (lv' := [(1, .int 3), (0, .ref h0)]) hx hb dX5_init_34 hl (k := 0) rfl (by decide) (by decide) rfl (fun ls hl => ?_)
  refine lv_goto (tgt := 15) hx hb dX5_init_37 (by decide) ?_
  refine lv_iload_n hx hb dX5_init_15 rfl (lv_at hl 0 rfl) ?_
  refine lv_bipush (v := 6) hx hb dX5_init_16 (by decide) ?_
  refine lv_icmp_ge (tgt := 40) hx hb dX5_init_18 (by decide) (fun c9 => absurd c9 (by decide)) (fun _ => ?_)
  refine lv_aload_n hx hb dX5_init_21 rfl (lv_at hl 1 rfl) ?_
  refine xc_get F hI 0 rfl rfl xin_5 (i := 0) (v := .ref q1) (by decide) u_fl_X5_11 rfl rfl dX5_init_22 ?_
  refine lv_iload_n hx hb dX5_init_25 rfl (lv_at hl 0 rfl) ?_
  refine xc_new (ci := 2) (fs := [.null, .null, .null, .null, .int 0, .int 0, .int 0, .int 0, .int 0, .int 0, .int 0]) F hI xin_2 tyX2 tyX2_ok u_clk_X5_9 u_inst_X2 u_ini_X2 rfl (fun j hj => by rcases (show j = 0 ∨ j = 1 ∨ j = 2 ∨ j = 3 ∨ j = 4 ∨ j = 5 ∨ j = 6 ∨ j = 7 ∨ j = 8 ∨ j = 9 ∨ j = 10 by omega) with rfl | rfl | rfl | rfl | rfl | rfl | rfl | rfl | rfl | rfl | rfl <;> rfl) (Nat.le_of_ble_eq_true rfl) (Nat.le_of_ble_eq_true rfl) dX5_init_26 (fun q5 H hI => ?_)
  have hI : xc_I Y (xc_A h0 s.heap.size) s H _ ((q5, .inr (2, [.null, .null, .null, .null, .int 0, .int 0, .int 0, .int 0, .int 0, .int 0, .int 0])) :: (h0, .inr (5, [.ref q1, .int 0])) :: (q1, .inl (Y.2.1 3, 6, .inr (.inr (.inr (.inr (va_up (va_up (va_up (fun _ => none) (Int32.toNatClampNeg 0) (some (G2 0 0))) (Int32.toNatClampNeg 1) (some (G3 0 0))) (Int32.toNatClampNeg 2) (some (G4 0 0)))))))) :: (xc_w Y G4 x_s0 xi_X2 ++ (xc_w Y G3 x_s0 xi_X2 ++ (xc_w Y G2 x_s0 xi_X2 ++ [])))) := hI
  refine lv_dup hx hb dX5_init_29 rfl ?_
  refine xc_made hI (xc_runIN F hO hI (cX2 l Y q5 H.size) u_mln_X5_17 u_co_X2_init u_ini_X2 u_in_X2_init rfl hd_X2_init ⟨by decide, by decide⟩ ⟨rfl, rfl⟩ hl.1 (Nat.le_of_ble_eq_true rfl) dX5_init_30 ⟨by decide, by decide⟩) (fun G5 H locs hG hJ => ?_)
  obtain rfl := hG
  have hI := hJ.perm List.perm_middle
  replace hI := hI.perm (List.Perm.cons _ List.perm_middle)
  have hI : xc_I Y (xc_A h0 s.heap.size) s H _ ((h0, .inr (5, [.ref q1, .int 0])) :: (q1, .inl (Y.2.1 3, 6, .inr (.inr (.inr (.inr (va_up (va_up (va_up (fun _ => none) (Int32.toNatClampNeg 0) (some (G2 0 0))) (Int32.toNatClampNeg 1) (some (G3 0 0))) (Int32.toNatClampNeg 2) (some (G4 0 0)))))))) :: (xc_w Y G5 x_s0 xi_X2 ++ (xc_w Y G4 x_s0 xi_X2 ++ (xc_w Y G3 x_s0 xi_X2 ++ (xc_w Y G2 x_s0 xi_X2 ++ []))))) := hI
  refine xc_astq (n := 6) F hI 1 2 rfl rfl (by decide) (ws' := (h0, .inr (5, [.ref q1, .int 0])) :: (q1, .inl (Y.2.1 3, 6, .inr (.inr (.inr (.inr (va_up (va_up (va_up (va_up (fun _ => none) (Int32.toNatClampNeg 0) (some (G2 0 0))) (Int32.toNatClampNeg 1) (some (G3 0 0))) (Int32.toNatClampNeg 2) (some (G4 0 0))) (Int32.toNatClampNeg 3) (some (G5 0 0)))))))) :: (xc_w Y G5 x_s0 xi_X2 ++ (xc_w Y G4 x_s0 xi_X2 ++ (xc_w Y G3 x_s0 xi_X2 ++ (xc_w Y G2 x_s0 xi_X2 ++ []))))) rfl dX5_init_33 (fun H locs hI => ?_)
  refine lv_iinc (v := 4) (lv' := [(1, .int 4), (0, .ref h0)]) hx hb dX5_init_34 hl (k := 0) rfl (by decide) (by decide) rfl (fun ls hl => ?_)
  refine lv_goto (tgt := 15) hx hb dX5_init_37 (by decide) ?_
  refine lv_iload_n hx hb dX5_init_15 rfl (lv_at hl 0 rfl) ?_
  refine lv_bipush (v := 6) hx hb dX5_init_16 (by decide) ?_
  refine lv_icmp_ge (tgt := 40) hx hb dX5_init_18 (by decide) (fun c9 => absurd c9 (by decide)) (fun _ => ?_)
  refine lv_aload_n hx hb dX5_init_21 rfl (lv_at hl 1 rfl) ?_
  refine xc_get F hI 0 rfl rfl xin_5 (i := 0) (v := .ref q1) (by decide) u_fl_X5_11 rfl rfl dX5_init_22 ?_
  refine lv_iload_n hx hb dX5_init_25 rfl (lv_at hl 0 rfl) ?_
  refine xc_new (ci := 2) (fs := [.null, .null, .null, .null, .int 0, .int 0, .int 0, .int 0, .int 0, .int 0, .int 0]) F hI xin_2 tyX2 tyX2_ok u_clk_X5_9 u_inst_X2 u_ini_X2 rfl (fun j hj => by rcases (show j = 0 ∨ j = 1 ∨ j = 2 ∨ j = 3 ∨ j = 4 ∨ j = 5 ∨ j = 6 ∨ j = 7 ∨ j = 8 ∨ j = 9 ∨ j = 10 by omega) with rfl | rfl | rfl | rfl | rfl | rfl | rfl | rfl | rfl | rfl | rfl <;> rfl) (Nat.le_of_ble_eq_true rfl) (Nat.le_of_ble_eq_true rfl) dX5_init_26 (fun q6 H hI => ?_)
  have hI : xc_I Y (xc_A h0 s.heap.size) s H _ ((q6, .inr (2, [.null, .null, .null, .null, .int 0, .int 0, .int 0, .int 0, .int 0, .int 0, .int 0])) :: (h0, .inr (5, [.ref q1, .int 0])) :: (q1, .inl (Y.2.1 3, 6, .inr (.inr (.inr (.inr (va_up (va_up (va_up (va_up (fun _ => none) (Int32.toNatClampNeg 0) (some (G2 0 0))) (Int32.toNatClampNeg 1) (some (G3 0 0))) (Int32.toNatClampNeg 2) (some (G4 0 0))) (Int32.toNatClampNeg 3) (some (G5 0 0)))))))) :: (xc_w Y G5 x_s0 xi_X2 ++ (xc_w Y G4 x_s0 xi_X2 ++ (xc_w Y G3 x_s0 xi_X2 ++ (xc_w Y G2 x_s0 xi_X2 ++ []))))) := hI
  refine lv_dup hx hb dX5_init_29 rfl ?_
  refine xc_made hI (xc_runIN F hO hI (cX2 l Y q6 H.size) u_mln_X5_17 u_co_X2_init u_ini_X2 u_in_X2_init rfl hd_X2_init ⟨by decide, by decide⟩ ⟨rfl, rfl⟩ hl.1 (Nat.le_of_ble_eq_true rfl) dX5_init_30 ⟨by decide, by decide⟩) (fun G6 H locs hG hJ => ?_)
  obtain rfl := hG
  have hI := hJ.perm List.perm_middle
  replace hI := hI.perm (List.Perm.cons _ List.perm_middle)
  have hI : xc_I Y (xc_A h0 s.heap.size) s H _ ((h0, .inr (5, [.ref q1, .int 0])) :: (q1, .inl (Y.2.1 3, 6, .inr (.inr (.inr (.inr (va_up (va_up (va_up (va_up (fun _ => none) (Int32.toNatClampNeg 0) (some (G2 0 0))) (Int32.toNatClampNeg 1) (some (G3 0 0))) (Int32.toNatClampNeg 2) (some (G4 0 0))) (Int32.toNatClampNeg 3) (some (G5 0 0)))))))) :: (xc_w Y G6 x_s0 xi_X2 ++ (xc_w Y G5 x_s0 xi_X2 ++ (xc_w Y G4 x_s0 xi_X2 ++ (xc_w Y G3 x_s0 xi_X2 ++ (xc_w Y G2 x_s0 xi_X2 ++ [])))))) := hI
  refine xc_astq (n := 6) F hI 1 2 rfl rfl (by decide) (ws' := (h0, .inr (5, [.ref q1, .int 0])) :: (q1, .inl (Y.2.1 3, 6, .inr (.inr (.inr (.inr (va_up (va_up (va_up (va_up (va_up (fun _ => none) (Int32.toNatClampNeg 0) (some (G2 0 0))) (Int32.toNatClampNeg 1) (some (G3 0 0))) (Int32.toNatClampNeg 2) (some (G4 0 0))) (Int32.toNatClampNeg 3) (some (G5 0 0))) (Int32.toNatClampNeg 4) (some (G6 0 0)))))))) :: (xc_w Y G6 x_s0 xi_X2 ++ (xc_w Y G5 x_s0 xi_X2 ++ (xc_w Y G4 x_s0 xi_X2 ++ (xc_w Y G3 x_s0 xi_X2 ++ (xc_w Y G2 x_s0 xi_X2 ++ [])))))) rfl dX5_init_33 (fun H locs hI => ?_)
  refine lv_iinc (v := 5) (lv' := [(1, .int 5), (0, .ref h0)]) hx hb dX5_init_34 hl (k := 0) rfl (by decide) (by decide) rfl (fun ls hl => ?_)
  refine lv_goto (tgt := 15) hx hb dX5_init_37 (by decide) ?_
  refine lv_iload_n hx hb dX5_init_15 rfl (lv_at hl 0 rfl) ?_
  refine lv_bipush (v := 6) hx hb dX5_init_16 (by decide) ?_
  refine lv_icmp_ge (tgt := 40) hx hb dX5_init_18 (by decide) (fun c9 => absurd c9 (by decide)) (fun _ => ?_)
  refine lv_aload_n hx hb dX5_init_21 rfl (lv_at hl 1 rfl) ?_
  refine xc_get F hI 0 rfl rfl xin_5 (i := 0) (v := .ref q1) (by decide) u_fl_X5_11 rfl rfl dX5_init_22 ?_
  refine lv_iload_n hx hb dX5_init_25 rfl (lv_at hl 0 rfl) ?_
  refine xc_new (ci := 2) (fs := [.null, .null, .null, .null, .int 0, .int 0, .int 0, .int 0, .int 0, .int 0, .int 0]) F hI xin_2 tyX2 tyX2_ok u_clk_X5_9 u_inst_X2 u_ini_X2 rfl (fun j hj => by rcases (show j = 0 ∨ j = 1 ∨ j = 2 ∨ j = 3 ∨ j = 4 ∨ j = 5 ∨ j = 6 ∨ j = 7 ∨ j = 8 ∨ j = 9 ∨ j = 10 by omega) with rfl | rfl | rfl | rfl | rfl | rfl | rfl | rfl | rfl | rfl | rfl <;> rfl) (Nat.le_of_ble_eq_true rfl) (Nat.le_of_ble_eq_true rfl) dX5_init_26 (fun q7 H hI => ?_)
  have hI : xc_I Y (xc_A h0 s.heap.size) s H _ ((q7, .inr (2, [.null, .null, .null, .null, .int 0, .int 0, .int 0, .int 0, .int 0, .int 0, .int 0])) :: (h0, .inr (5, [.ref q1, .int 0])) :: (q1, .inl (Y.2.1 3, 6, .inr (.inr (.inr (.inr (va_up (va_up (va_up (va_up (va_up (fun _ => none) (Int32.toNatClampNeg 0) (some (G2 0 0))) (Int32.toNatClampNeg 1) (some (G3 0 0))) (Int32.toNatClampNeg 2) (some (G4 0 0))) (Int32.toNatClampNeg 3) (some (G5 0 0))) (Int32.toNatClampNeg 4) (some (G6 0 0)))))))) :: (xc_w Y G6 x_s0 xi_X2 ++ (xc_w Y G5 x_s0 xi_X2 ++ (xc_w Y G4 x_s0 xi_X2 ++ (xc_w Y G3 x_s0 xi_X2 ++ (xc_w Y G2 x_s0 xi_X2 ++ [])))))) := hI
  refine lv_dup hx hb dX5_init_29 rfl ?_
  refine xc_made hI (xc_runIN F hO hI (cX2 l Y q7 H.size) u_mln_X5_17 u_co_X2_init u_ini_X2 u_in_X2_init rfl hd_X2_init ⟨by decide, by decide⟩ ⟨rfl, rfl⟩ hl.1 (Nat.le_of_ble_eq_true rfl) dX5_init_30 ⟨by decide, by decide⟩) (fun G7 H locs hG hJ => ?_)
  obtain rfl := hG
  have hI := hJ.perm List.perm_middle
  replace hI := hI.perm (List.Perm.cons _ List.perm_middle)
  have hI : xc_I Y (xc_A h0 s.heap.size) s H _ ((h0, .inr (5, [.ref q1, .int 0])) :: (q1, .inl (Y.2.1 3, 6, .inr (.inr (.inr (.inr (va_up (va_up (va_up (va_up (va_up (fun _ => none) (Int32.toNatClampNeg 0) (some (G2 0 0))) (Int32.toNatClampNeg 1) (some (G3 0 0))) (Int32.toNatClampNeg 2) (some (G4 0 0))) (Int32.toNatClampNeg 3) (some (G5 0 0))) (Int32.toNatClampNeg 4) (some (G6 0 0)))))))) :: (xc_w Y G7 x_s0 xi_X2 ++ (xc_w Y G6 x_s0 xi_X2 ++ (xc_w Y G5 x_s0 xi_X2 ++ (xc_w Y G4 x_s0 xi_X2 ++ (xc_w Y G3 x_s0 xi_X2 ++ (xc_w Y G2 x_s0 xi_X2 ++ []))))))) := hI
  refine xc_astq (n := 6) F hI 1 2 rfl rfl (by decide) (ws' := (h0, .inr (5, [.ref q1, .int 0])) :: (q1, .inl (Y.2.1 3, 6, .inr (.inr (.inr (.inr (va_up (va_up (va_up (va_up (va_up (va_up (fun _ => none) (Int32.toNatClampNeg 0) (some (G2 0 0))) (Int32.toNatClampNeg 1) (some (G3 0 0))) (Int32.toNatClampNeg 2) (some (G4 0 0))) (Int32.toNatClampNeg 3) (some (G5 0 0))) (Int32.toNatClampNeg 4) (some (G6 0 0))) (Int32.toNatClampNeg 5) (some (G7 0 0)))))))) :: (xc_w Y G7 x_s0 xi_X2 ++ (xc_w Y G6 x_s0 xi_X2 ++ (xc_w Y G5 x_s0 xi_X2 ++ (xc_w Y G4 x_s0 xi_X2 ++ (xc_w Y G3 x_s0 xi_X2 ++ (xc_w Y G2 x_s0 xi_X2 ++ []))))))) rfl dX5_init_33 (fun H locs hI => ?_)
  refine lv_iinc (v := 6) (lv' := [(1, .int 6), (0, .ref h0)]) hx hb dX5_init_34 hl (k := 0) rfl (by decide) (by decide) rfl (fun ls hl => ?_)
  refine lv_goto (tgt := 15) hx hb dX5_init_37 (by decide) ?_
  refine lv_iload_n hx hb dX5_init_15 rfl (lv_at hl 0 rfl) ?_
  refine lv_bipush (v := 6) hx hb dX5_init_16 (by decide) ?_
  refine lv_icmp_ge (tgt := 40) hx hb dX5_init_18 (by decide) (fun _ => ?_) (fun c9 => absurd (by decide) c9)
  replace hI := xc_refs hI 1 rfl (g := fun i => some ((xg_X5 h0 q1 G7 G6 G5 G4 G3 G2) (Int32.toNatClampNeg (x_s0 10 34 i)) 0)) (fun i hi => by rcases (show i = 0 ∨ i = 1 ∨ i = 2 ∨ i = 3 ∨ i = 4 ∨ i = 5 by omega) with rfl | rfl | rfl | rfl | rfl | rfl <;> rfl) (ws' := (h0, .inr (5, [.ref q1, .int 0])) :: (q1, .inl (Y.2.1 3, 6, .inr (.inr (.inr (.inr (fun i => some ((xg_X5 h0 q1 G7 G6 G5 G4 G3 G2) (Int32.toNatClampNeg (x_s0 10 34 i)) 0))))))) :: (xc_w Y G7 x_s0 xi_X2 ++ (xc_w Y G6 x_s0 xi_X2 ++ (xc_w Y G5 x_s0 xi_X2 ++ (xc_w Y G4 x_s0 xi_X2 ++ (xc_w Y G3 x_s0 xi_X2 ++ (xc_w Y G2 x_s0 xi_X2 ++ []))))))) rfl
  exact xc_ret F hI (xg_X5 h0 q1 G7 G6 G5 G4 G3 G2) rfl rfl (Nat.le_of_ble_eq_true rfl) (Nat.le_of_ble_eq_true rfl) dX5_init_40
def xg_X6 (h0 q7 q4 : Nat) (G8 G6 G5 G3 G2 G1 : Nat → Nat → Nat) : Nat → Nat → Nat := fun j k => match j with | 0 => (match k with | 0 => G1 0 0 | 1 => G1 0 1 | 2 => G1 0 2 | 3 => G1 0 3 | 4 => G1 0 4 | 5 => G1 0 5 | 6 => G1 0 6 | 7 => G1 0 7 | 8 => G1 0 8 | 9 => G1 0 9 | 10 => G1 0 10 | 11 => G1 0 11 | 12 => G1 0 12 | 13 => G1 0 13 | 14 => G1 0 14 | 15 => G1 0 15 | 16 => G1 0 16 | 17 => G1 0 17 | 18 => G1 0 18 | 19 => G1 0 19 | 20 => G1 0 20 | 21 => G1 0 21 | 22 => G1 0 22 | 23 => G1 0 23 | 24 => G1 0 24 | _ => 0) | 1 => (match k with | 0 => G2 0 0 | 1 => G2 0 1 | 2 => G2 0 2 | 3 => G2 0 3 | 4 => G2 0 4 | 5 => G2 0 5 | 6 => G2 0 6 | 7 => G2 0 7 | 8 => G2 0 8 | 9 => G2 0 9 | 10 => G2 0 10 | 11 => G2 0 11 | 12 => G2 0 12 | 13 => G2 0 13 | 14 => G2 0 14 | 15 => G2 0 15 | 16 => G2 0 16 | 17 => G2 0 17 | 18 => G2 0 18 | 19 => G2 0 19 | 20 => G2 0 20 | 21 => G2 0 21 | 22 => G2 0 22 | 23 => G2 0 23 | 24 => G2 0 24 | _ => 0) | 2 => (match k with | 0 => G3 2 0 | 1 => G3 2 1 | 2 => G3 2 2 | 3 => G3 2 3 | 4 => G3 2 4 | 5 => G3 2 5 | 6 => G3 2 6 | 7 => G3 2 7 | 8 => G3 2 8 | 9 => G3 2 9 | 10 => G3 2 10 | 11 => G3 2 11 | 12 => G3 2 12 | 13 => G3 2 13 | 14 => G3 2 14 | 15 => G3 2 15 | 16 => G3 2 16 | 17 => G3 2 17 | 18 => G3 2 18 | 19 => G3 2 19 | 20 => G3 2 20 | 21 => G3 2 21 | 22 => G3 2 22 | 23 => G3 2 23 | 24 => G3 2 24 | _ => 0) | 3 => (match k with | 0 => G3 3 0 | 1 => G3 3 1 | 2 => G3 3 2 | 3 => G3 3 3 | 4 => G3 3 4 | 5 => G3 3 5 | 6 => G3 3 6 | 7 => G3 3 7 | 8 => G3 3 8 | 9 => G3 3 9 | 10 => G3 3 10 | 11 => G3 3 11 | 12 => G3 3 12 | 13 => G3 3 13 | 14 => G3 3 14 | 15 => G3 3 15 | 16 => G3 3 16 | 17 => G3 3 17 | 18 => G3 3 18 | 19 => G3 3 19 | 20 => G3 3 20 | 21 => G3 3 21 | 22 => G3 3 22 | 23 => G3 3 23 | 24 => G3 3 24 | _ => 0) | 4 => (match k with | 0 => G3 4 0 | 1 => G3 4 1 | 2 => G3 4 2 | 3 => G3 4 3 | 4 => G3 4 4 | 5 => G3 4 5 | 6 => G3 4 6 | 7 => G3 4 7 | 8 => G3 4 8 | 9 => G3 4 9 | 10 => G3 4 10 | 11 => G3 4 11 | 12 => G3 4 12 | 13 => G3 4 13 | 14 => G3 4 14 | 15 => G3 4 15 | 16 => G3 4 16 | 17 => G3 4 17 | 18 => G3 4 18 | 19 => G3 4 19 | 20 => G3 4 20 | 21 => G3 4 21 | 22 => G3 4 22 | 23 => G3 4 23 | 24 => G3 4 24 | _ => 0) | 5 => (match k with | 0 => G3 5 0 | 1 => G3 5 1 | 2 => G3 5 2 | 3 => G3 5 3 | 4 => G3 5 4 | 5 => G3 5 5 | 6 => G3 5 6 | 7 => G3 5 7 | 8 => G3 5 8 | 9 => G3 5 9 | 10 => G3 5 10 | 11 => G3 5 11 | 12 => G3 5 12 | 13 => G3 5 13 | 14 => G3 5 14 | 15 => G3 5 15 | 16 => G3 5 16 | 17 => G3 5 17 | 18 => G3 5 18 | 19 => G3 5 19 | 20 => G3 5 20 | 21 => G3 5 21 | 22 => G3 5 22 | 23 => G3 5 23 | 24 => G3 5 24 | _ => 0) | 6 => (match k with | 0 => G3 6 0 | 1 => G3 6 1 | 2 => G3 6 2 | 3 => G3 6 3 | 4 => G3 6 4 | 5 => G3 6 5 | 6 => G3 6 6 | 7 => G3 6 7 | 8 => G3 6 8 | 9 => G3 6 9 | 10 => G3 6 10 | 11 => G3 6 11 | 12 => G3 6 12 | 13 => G3 6 13 | 14 => G3 6 14 | 15 => G3 6 15 | 16 => G3 6 16 | 17 => G3 6 17 | 18 => G3 6 18 | 19 => G3 6 19 | 20 => G3 6 20 | 21 => G3 6 21 | 22 => G3 6 22 | 23 => G3 6 23 | 24 => G3 6 24 | _ => 0) | 7 => (match k with | 0 => G3 7 0 | 1 => G3 7 1 | 2 => G3 7 2 | 3 => G3 7 3 | 4 => G3 7 4 | 5 => G3 7 5 | 6 => G3 7 6 | 7 => G3 7 7 | 8 => G3 7 8 | 9 => G3 7 9 | 10 => G3 7 10 | 11 => G3 7 11 | 12 => G3 7 12 | 13 => G3 7 13 | 14 => G3 7 14 | 15 => G3 7 15 | 16 => G3 7 16 | 17 => G3 7 17 | 18 => G3 7 18 | 19 => G3 7 19 | 20 => G3 7 20 | 21 => G3 7 21 | 22 => G3 7 22 | 23 => G3 7 23 | 24 => G3 7 24 | _ => 0) | 8 => (match k with | 0 => G5 0 0 | 1 => G5 0 1 | 2 => G5 0 2 | 3 => G5 0 3 | 4 => G5 0 4 | 5 => G5 0 5 | 6 => G5 0 6 | 7 => G5 0 7 | 8 => G5 0 8 | 9 => G5 0 9 | 10 => G5 0 10 | 11 => G5 0 11 | 12 => G5 0 12 | 13 => G5 0 13 | 14 => G5 0 14 | 15 => G5 0 15 | 16 => G5 0 16 | 17 => G5 0 17 | 18 => G5 0 18 | 19 => G5 0 19 | 20 => G5 0 20 | 21 => G5 0 21 | 22 => G5 0 22 | 23 => G5 0 23 | 24 => G5 0 24 | _ => 0) | 9 => (match k with | 0 => G6 0 0 | 1 => G6 0 1 | 2 => G6 0 2 | 3 => G6 0 3 | 4 => G6 0 4 | 5 => G6 0 5 | 6 => G6 0 6 | 7 => G6 0 7 | 8 => G6 0 8 | 9 => G6 0 9 | 10 => G6 0 10 | 11 => G6 0 11 | 12 => G6 0 12 | 13 => G6 0 13 | 14 => G6 0 14 | 15 => G6 0 15 | 16 => G6 0 16 | 17 => G6 0 17 | 18 => G6 0 18 | 19 => G6 0 19 | 20 => G6 0 20 | 21 => G6 0 21 | 22 => G6 0 22 | 23 => G6 0 23 | 24 => G6 0 24 | _ => 0) | 10 => (match k with | 32 => h0 | 33 => G3 10 33 | 34 => G3 10 34 | 35 => q4 | 36 => q7 | 37 => G8 10 37 | 38 => G8 10 38 | _ => 0) | _ => 0
def xi_X6 : List (Nat × Nat) := [(10, 32), (10, 37), (10, 38), (10, 36), (10, 35), (9, 0), (9, 4), (9, 3), (9, 24), (9, 23), (9, 22), (9, 21), (9, 20), (9, 19), (9, 2), (9, 18), (9, 17), (9, 16), (9, 15), (9, 14), (9, 13), (9, 12), (9, 1), (9, 11), (9, 10), (9, 9), (9, 8), (9, 7), (9, 6), (9, 5), (8, 0), (8, 4), (8, 3), (8, 24), (8, 23), (8, 22), (8, 21), (8, 20), (8, 19), (8, 2), (8, 18), (8, 17), (8, 16), (8, 15), (8, 14), (8, 13), (8, 12), (8, 1), (8, 11), (8, 10), (8, 9), (8, 8), (8, 7), (8, 6), (8, 5), (10, 33), (10, 34), (7, 0), (7, 4), (7, 3), (7, 24), (7, 23), (7, 22), (7, 21), (7, 20), (7, 19), (7, 2), (7, 18), (7, 17), (7, 16), (7, 15), (7, 14), (7, 13), (7, 12), (7, 1), (7, 11), (7, 10), (7, 9), (7, 8), (7, 7), (7, 6), (7, 5), (6, 0), (6, 4), (6, 3), (6, 24), (6, 23), (6, 22), (6, 21), (6, 20), (6, 19), (6, 2), (6, 18), (6, 17), (6, 16), (6, 15), (6, 14), (6, 13), (6, 12), (6, 1), (6, 11), (6, 10), (6, 9), (6, 8), (6, 7), (6, 6), (6, 5), (5, 0), (5, 4), (5, 3), (5, 24), (5, 23), (5, 22), (5, 21), (5, 20), (5, 19), (5, 2), (5, 18), (5, 17), (5, 16), (5, 15), (5, 14), (5, 13), (5, 12), (5, 1), (5, 11), (5, 10), (5, 9), (5, 8), (5, 7), (5, 6), (5, 5), (4, 0), (4, 4), (4, 3), (4, 24), (4, 23), (4, 22), (4, 21), (4, 20), (4, 19), (4, 2), (4, 18), (4, 17), (4, 16), (4, 15), (4, 14), (4, 13), (4, 12), (4, 1), (4, 11), (4, 10), (4, 9), (4, 8), (4, 7), (4, 6), (4, 5), (3, 0), (3, 4), (3, 3), (3, 24), (3, 23), (3, 22), (3, 21), (3, 20), (3, 19), (3, 2), (3, 18), (3, 17), (3, 16), (3, 15), (3, 14), (3, 13), (3, 12), (3, 1), (3, 11), (3, 10), (3, 9), (3, 8), (3, 7), (3, 6), (3, 5), (2, 0), (2, 4), (2, 3), (2, 24), (2, 23), (2, 22), (2, 21), (2, 20), (2, 19), (2, 2), (2, 18), (2, 17), (2, 16), (2, 15), (2, 14), (2, 13), (2, 12), (2, 1), (2, 11), (2, 10), (2, 9), (2, 8), (2, 7), (2, 6), (2, 5), (1, 0), (1, 4), (1, 3), (1, 24), (1, 23), (1, 22), (1, 21), (1, 20), (1, 19), (1, 2), (1, 18), (1, 17), (1, 16), (1, 15), (1, 14), (1, 13), (1, 12), (1, 1), (1, 11), (1, 10), (1, 9), (1, 8), (1, 7), (1, 6), (1, 5), (0, 0), (0, 4), (0, 3), (0, 24), (0, 23), (0, 22), (0, 21), (0, 20), (0, 19), (0, 2), (0, 18), (0, 17), (0, 16), (0, 15), (0, 14), (0, 13), (0, 12), (0, 1), (0, 11), (0, 10), (0, 9), (0, 8), (0, 7), (0, 6), (0, 5)]
abbrev rm_X6_init : Room := { frames := 4, cells := 256, slots := 5986, locals := 82 }
set_option maxHeartbeats 8000000 in
set_option maxRecDepth 100000 in
theorem cX6 (l : Launch) (Y : x_T) (h0 sz : Nat) : Met l yX6_init (x_ws yX6_init cX6_init 2 none) rm_X6_init (xc_Pc Y h0 (.inr (6, [.null, .null, .null, .null, .null, .null])) sz) (xc_Q Y h0 sz (10, 32) x_s0 xi_X6) 256 5986 (xc_A h0 sz) := by
  refine Met.ofW (cc := cX6_init) (maxL := 2) (ret := none) (by decide) rfl ?_
  intro p e s m args below meth c s₁ B hml hv
  obtain ⟨F, hO, hn0, hI, rfl, rfl⟩ := xc_begin B hml hv rfl
  replace F : x_F p s m _ meth c cX6_init 2 RX6 none := F
  have hx := F.1
  have hb := F.2.1
  refine x_entry (vs := [.ref h0]) (n := 2) (Nat.le_of_ble_eq_true rfl) (fun ls hl => ?_)
  replace hl : lv_has ls 2 [(0, .ref h0)] := hl
  have hI : xc_I Y (xc_A h0 s.heap.size) s s.heap [] ([(h0, .inr (6, [.null, .null, .null, .null, .null, .null]))]) := hI
  refine lv_aload_n hx hb dX6_init_0 rfl (lv_at hl 0 rfl) ?_
  refine xc_objInit F u_ml_X6_3 u_in_java_lang_Object_init_ u_co_java_lang_Object_init_ hl.1 ⟨by decide, by decide⟩ (Nat.le_of_ble_eq_true rfl) dX6_init_1 ?_
  refine lv_aload_n hx hb dX6_init_4 rfl (lv_at hl 0 rfl) ?_
  refine xc_new (ci := 2) (fs := [.null, .null, .null, .null, .int 0, .int 0, .int 0, .int 0, .int 0, .int 0, .int 0]) F hI xin_2 tyX2 tyX2_ok u_clk_X6_9 u_inst_X2 u_ini_X2 rfl (fun j hj => by rcases (show j = 0 ∨ j = 1 ∨ j = 2 ∨ j = 3 ∨ j = 4 ∨ j = 5 ∨ j = 6 ∨ j = 7 ∨ j = 8 ∨ j = 9 ∨ j = 10 by omega) with rfl | rfl | rfl | rfl | rfl | rfl | rfl | rfl | rfl | rfl | rfl <;> rfl) (Nat.le_of_ble_eq_true rfl) (Nat.le_of_ble_eq_true rfl) dX6_init_5 (fun q1 H hI => ?_)
  have hI : xc_I Y (xc_A h0 s.heap.size) s H _ ((q1, .inr (2, [.null, .null, .null, .null, .int 0, .int 0, .int 0, .int 0, .int 0, .int 0, .int 0])) :: (h0, .inr (6, [.null, .null, .null, .null, .null, .null])) :: []) := hI
  refine lv_dup hx hb dX6_init_8 rfl ?_
  refine xc_made hI (xc_runIN F hO hI (cX2 l Y q1 H.size) u_mln_X6_11 u_co_X2_init u_ini_X2 u_in_X2_init rfl hd_X2_init ⟨by decide, by decide⟩ ⟨rfl, rfl⟩ hl.1 (Nat.le_of_ble_eq_true rfl) dX6_init_9 ⟨by decide, by decide⟩) (fun G1 H locs hG hJ => ?_)
  obtain rfl := hG
  have hI := hJ.perm List.perm_middle
  have hI : xc_I Y (xc_A h0 s.heap.size) s H _ ((h0, .inr (6, [.null, .null, .null, .null, .null, .null])) :: (xc_w Y G1 x_s0 xi_X2 ++ [])) := hI
  refine xc_putF F hn0 hI 0 rfl tyX6 rfl xin_6 tyX6_ok nmX6 (i := 0) (by decide) u_fl_X6_12 rfl rfl rfl (tyX6_ok 0 (by decide)) rfl rfl (Nat.le_of_ble_eq_true rfl) (ws' := (h0, .inr (6, [.ref (G1 0 0), .null, .null, .null, .null, .null])) :: (xc_w Y G1 x_s0 xi_X2 ++ [])) rfl dX6_init_12 (fun H locs hI => ?_)
  refine lv_aload_n hx hb dX6_init_15 rfl (lv_at hl 0 rfl) ?_
  refine xc_new (ci := 2) (fs := [.null, .null, .null, .null, .int 0, .int 0, .int 0, .int 0, .int 0, .int 0, .int 0]) F hI xin_2 tyX2 tyX2_ok u_clk_X6_9 u_inst_X2 u_ini_X2 rfl (fun j hj => by rcases (show j = 0 ∨ j = 1 ∨ j = 2 ∨ j = 3 ∨ j = 4 ∨ j = 5 ∨ j = 6 ∨ j = 7 ∨ j = 8 ∨ j = 9 ∨ j = 10 by omega) with rfl | rfl | rfl | rfl | rfl | rfl | rfl | rfl | rfl | rfl | rfl <;> rfl) (Nat.le_of_ble_eq_true rfl) (Nat.le_of_ble_eq_true rfl) dX6_init_16 (fun q2 H hI => ?_)
  have hI : xc_I Y (xc_A h0 s.heap.size) s H _ ((q2, .inr (2, [.null, .null, .null, .null, .int 0, .int 0, .int 0, .int 0, .int 0, .int 0, .int 0])) :: (h0, .inr (6, [.ref (G1 0 0), .null, .null, .null, .null, .null])) :: (xc_w Y G1 x_s0 xi_X2 ++ [])) := hI
  refine lv_dup hx hb dX6_init_19 rfl ?_
  refine xc_made hI (xc_runIN F hO hI (cX2 l Y q2 H.size) u_mln_X6_11 u_co_X2_init u_ini_X2 u_in_X2_init rfl hd_X2_init ⟨by decide, by decide⟩ ⟨rfl, rfl⟩ hl.1 (Nat.le_of_ble_eq_true rfl) dX6_init_20 ⟨by decide, by decide⟩) (fun G2 H locs hG hJ => ?_)
  obtain rfl := hG
  have hI := hJ.perm List.perm_middle
  have hI : xc_I Y (xc_A h0 s.heap.size) s H _ ((h0, .inr (6, [.ref (G1 0 0), .null, .null, .null, .null, .null])) :: (xc_w Y G2 x_s0 xi_X2 ++ (xc_w Y G1 x_s0 xi_X2 ++ []))) := hI
  refine xc_putF F hn0 hI 0 rfl tyX6 rfl xin_6 tyX6_ok nmX6 (i := 1) (by decide) u_fl_X6_16 rfl rfl rfl (tyX6_ok 1 (by decide)) rfl rfl (Nat.le_of_ble_eq_true rfl) (ws' := (h0, .inr (6, [.ref (G1 0 0), .ref (G2 0 0), .null, .null, .null, .null])) :: (xc_w Y G2 x_s0 xi_X2 ++ (xc_w Y G1 x_s0 xi_X2 ++ []))) rfl dX6_init_23 (fun H locs hI => ?_)
  refine lv_aload_n hx hb dX6_init_26 rfl (lv_at hl 0 rfl) ?_
  refine xc_new (ci := 5) (fs := [.null, .int 0]) F hI xin_5 tyX5 tyX5_ok u_clk_X6_19 u_inst_X5 u_ini_X5 rfl (fun j hj => by rcases (show j = 0 ∨ j = 1 by omega) with rfl | rfl <;> rfl) (Nat.le_of_ble_eq_true rfl) (Nat.le_of_ble_eq_true rfl) dX6_init_27 (fun q3 H hI => ?_)
  have hI : xc_I Y (xc_A h0 s.heap.size) s H _ ((q3, .inr (5, [.null, .int 0])) :: (h0, .inr (6, [.ref (G1 0 0), .ref (G2 0 0), .null, .null, .null, .null])) :: (xc_w Y G2 x_s0 xi_X2 ++ (xc_w Y G1 x_s0 xi_X2 ++ []))) := hI
  refine lv_dup hx hb dX6_init_30 rfl ?_
  refine xc_made hI (xc_runI F hO hI (cX5 l Y q3 H.size) u_ml_X6_21 u_co_X5_init u_ini_X5 u_in_X5_init rfl hd_X5_init ⟨by decide, by decide⟩ ⟨rfl, rfl⟩ hl.1 (Nat.le_of_ble_eq_true rfl) dX6_init_31 ⟨by decide, by decide⟩) (fun G3 H locs hG hJ => ?_)
  obtain rfl := hG
  have hI := hJ.perm List.perm_middle
  have hI : xc_I Y (xc_A h0 s.heap.size) s H _ ((h0, .inr (6, [.ref (G1 0 0), .ref (G2 0 0), .null, .null, .null, .null])) :: (xc_w Y G3 x_s0 xi_X5 ++ (xc_w Y G2 x_s0 xi_X2 ++ (xc_w Y G1 x_s0 xi_X2 ++ [])))) := hI
  refine xc_putF F hn0 hI 0 rfl tyX6 rfl xin_6 tyX6_ok nmX6 (i := 2) (by decide) u_fl_X6_22 rfl rfl rfl (tyX6_ok 2 (by decide)) rfl rfl (Nat.le_of_ble_eq_true rfl) (ws' := (h0, .inr (6, [.ref (G1 0 0), .ref (G2 0 0), .ref (G3 10 33), .null, .null, .null])) :: (xc_w Y G3 x_s0 xi_X5 ++ (xc_w Y G2 x_s0 xi_X2 ++ (xc_w Y G1 x_s0 xi_X2 ++ [])))) rfl dX6_init_34 (fun H locs hI => ?_)
  refine lv_aload_n hx hb dX6_init_37 rfl (lv_at hl 0 rfl) ?_
  refine lv_iconst (v := 2) hx hb dX6_init_38 (by decide) ?_
  refine xc_newq (N' := 2) F hO hI u_clk_X6_9 (by decide) (by decide) (by decide) (Nat.le_of_ble_eq_true rfl) (Nat.le_of_ble_eq_true rfl) dX6_init_39 (fun q4 H hI => ?_)
  have hI : xc_I Y (xc_A h0 s.heap.size) s H _ ((h0, .inr (6, [.ref (G1 0 0), .ref (G2 0 0), .ref (G3 10 33), .null, .null, .null])) :: (q4, .inl (Y.2.1 3, 2, .inr (.inr (.inr (.inr (fun _ => none)))))) :: (xc_w Y G3 x_s0 xi_X5 ++ (xc_w Y G2 x_s0 xi_X2 ++ (xc_w Y G1 x_s0 xi_X2 ++ [])))) := hI
  refine xc_putF F hn0 hI 0 rfl tyX6 rfl xin_6 tyX6_ok nmX6 (i := 3) (by decide) u_fl_X6_26 rfl rfl rfl (tyX6_ok 3 (by decide)) rfl rfl (Nat.le_of_ble_eq_true rfl) (ws' := (h0, .inr (6, [.ref (G1 0 0), .ref (G2 0 0), .ref (G3 10 33), .ref q4, .null, .null])) :: (q4, .inl (Y.2.1 3, 2, .inr (.inr (.inr (.inr (fun _ => none)))))) :: (xc_w Y G3 x_s0 xi_X5 ++ (xc_w Y G2 x_s0 xi_X2 ++ (xc_w Y G1 x_s0 xi_X2 ++ [])))) rfl dX6_init_42 (fun H locs hI => ?_)
  refine lv_iconst (v := 0) hx hb dX6_init_45 (by decide) ?_
  refine lv_istore_n (lv' := [(1, .int 0), (0, .ref h0)]) hx hb dX6_init_46 rfl hl (by decide) rfl (fun ls hl => ?_)
  refine lv_iload_n hx hb dX6_init_47 rfl (lv_at hl 0 rfl) ?_
  refine lv_iconst (v := 2) hx hb dX6_init_48 (by decide) ?_
  refine lv_icmp_ge (tgt := 71) hx hb dX6_init_49 (by decide) (fun c9 => absurd c9 (by decide)) (fun _ => ?_)
  refine lv_aload_n hx hb dX6_init_52 rfl (lv_at hl 1 rfl) ?_
  refine xc_get F hI 0 rfl rfl xin_6 (i := 3) (v := .ref q4) (by decide) u_fl_X6_26 rfl rfl dX6_init_53 ?_
  refine lv_iload_n hx hb dX6_init_56 rfl (lv_at hl 0 rfl) ?_
  refine xc_new (ci := 2) (fs := [.null, .null, .null, .null, .int 0, .int 0, .int 0, .int 0, .int 0, .int 0, .int 0]) F hI xin_2 tyX2 tyX2_ok u_clk_X6_9 u_inst_X2 u_ini_X2 rfl (fun j hj => by rcases (show j = 0 ∨ j = 1 ∨ j = 2 ∨ j = 3 ∨ j = 4 ∨ j = 5 ∨ j = 6 ∨ j = 7 ∨ j = 8 ∨ j = 9 ∨ j = 10 by omega) with rfl | rfl | rfl | rfl | rfl | rfl | rfl | rfl | rfl | rfl | rfl <;> rfl) (Nat.le_of_ble_eq_true rfl) (Nat.le_of_ble_eq_true rfl) dX6_init_57 (fun q5 H hI => ?_)
  have hI : xc_I Y (xc_A h0 s.heap.size) s H _ ((q5, .inr (2, [.null, .null, .null, .null, .int 0, .int 0, .int 0, .int 0, .int 0, .int 0, .int 0])) :: (h0, .inr (6, [.ref (G1 0 0), .ref (G2 0 0), .ref (G3 10 33), .ref q4, .null, .null])) :: (q4, .inl (Y.2.1 3, 2, .inr (.inr (.inr (.inr (fun _ => none)))))) :: (xc_w Y G3 x_s0 xi_X5 ++ (xc_w Y G2 x_s0 xi_X2 ++ (xc_w Y G1 x_s0 xi_X2 ++ [])))) := hI
  refine lv_dup hx hb dX6_init_60 rfl ?_
  refine xc_made hI (xc_runIN F hO hI (cX2 l Y q5 H.size) u_mln_X6_11 u_co_X2_init u_ini_X2 u_in_X2_init rfl hd_X2_init ⟨by decide, by decide⟩ ⟨rfl, rfl⟩ hl.1 (Nat.le_of_ble_eq_true rfl) dX6_init_61 ⟨by decide, by decide⟩) (fun G5 H locs hG hJ => ?_)
  obtain rfl := hG
  have hI := hJ.perm List.perm_middle
  replace hI := hI.perm (List.Perm.cons _ List.perm_middle)
  have hI : xc_I Y (xc_A h0 s.heap.size) s H _ ((h0, .inr (6, [.ref (G1 0 0), .ref (G2 0 0), .ref (G3 10 33), .ref q4, .null, .null])) :: (q4, .inl (Y.2.1 3, 2, .inr (.inr (.inr (.inr (fun _ => none)))))) :: (xc_w Y G5 x_s0 xi_X2 ++ (xc_w Y G3 x_s0 xi_X5 ++ (xc_w Y G2 x_s0 xi_X2 ++ (xc_w Y G1 x_s0 xi_X2 ++ []))))) := hI
  refine xc_astq (n := 2) F hI 1 2 rfl rfl (by decide) (ws' := (h0, .inr (6, [.ref (G1 0 0), .ref (G2 0 0), .ref (G3 10 33), .ref q4, .null, .null])) :: (q4, .inl (Y.2.1 3, 2, .inr (.inr (.inr (.inr (va_up (fun _ => none) (Int32.toNatClampNeg 0) (some (G5 0 0)))))))) :: (xc_w Y G5 x_s0 xi_X2 ++ (xc_w Y G3 x_s0 xi_X5 ++ (xc_w Y G2 x_s0 xi_X2 ++ (xc_w Y G1 x_s0 xi_X2 ++ []))))) rfl dX6_init_64 (fun H locs hI => ?_)
  refine lv_iinc (v := 1) (lv' := [(1, .int 1), (0, .ref h0)]) hx hb dX6_init_65 hl (k := 0) rfl (by decide) (by decide) rfl (fun ls hl => ?_)
  refine lv_goto (tgt := 47) hx hb dX6_init_68 (by decide) ?_
  refine lv_iload_n hx hb dX6_init_47 rfl (lv_at hl 0 rfl) ?_
  refine lv_iconst (v := 2) hx hb dX6_init_48 (by decide) ?_
  refine lv_icmp_ge (tgt := 71) hx hb dX6_init_49 (by decide) (fun c9 => absurd c9 (by decide)) (fun _ => ?_)
  refine lv_aload_n hx hb dX6_init_52 rfl (lv_at hl 1 rfl) ?_
  refine xc_get F hI 0 rfl rfl xin_6 (i := 3) (v := .ref q4) (by decide) u_fl_X6_26 rfl rfl dX6_init_53 ?_
  refine lv_iload_n hx hb dX6_init_56 rfl (lv_at hl 0 rfl) ?_
  refine xc_new (ci := 2) (fs := [.null, .null, .null, .null, .int 0, .int 0, .int 0, .int 0, .int 0, .int 0, .int 0]) F hI xin_2 tyX2 tyX2_ok u_clk_X6_9 u_inst_X2 u_ini_X2 rfl (fun j hj => by rcases (show j = 0 ∨ j = 1 ∨ j = 2 ∨ j = 3 ∨ j = 4 ∨ j = 5 ∨ j = 6 ∨ j = 7 ∨ j = 8 ∨ j = 9 ∨ j = 10 by omega) with rfl | rfl | rfl | rfl | rfl | rfl | rfl | rfl | rfl | rfl | rfl <;> rfl) (Nat.le_of_ble_eq_true rfl) (Nat.le_of_ble_eq_true rfl) dX6_init_57 (fun q6 H hI => ?_)
  have hI : xc_I Y (xc_A h0 s.heap.size) s H _ ((q6, .inr (2, [.null, .null, .null, .null, .int 0, .int 0, .int 0, .int 0, .int 0, .int 0, .int 0])) :: (h0, .inr (6, [.ref (G1 0 0), .ref (G2 0 0), .ref (G3 10 33), .ref q4, .null, .null])) :: (q4, .inl (Y.2.1 3, 2, .inr (.inr (.inr (.inr (va_up (fun _ => none) (Int32.toNatClampNeg 0) (some (G5 0 0)))))))) :: (xc_w Y G5 x_s0 xi_X2 ++ (xc_w Y G3 x_s0 xi_X5 ++ (xc_w Y G2 x_s0 xi_X2 ++ (xc_w Y G1 x_s0 xi_X2 ++ []))))) := hI
  refine lv_dup hx hb dX6_init_60 rfl ?_
  refine xc_made hI (xc_runIN F hO hI (cX2 l Y q6 H.size) u_mln_X6_11 u_co_X2_init u_ini_X2 u_in_X2_init rfl hd_X2_init ⟨by decide, by decide⟩ ⟨rfl, rfl⟩ hl.1 (Nat.le_of_ble_eq_true rfl) dX6_init_61 ⟨by decide, by decide⟩) (fun G6 H locs hG hJ => ?_)
  obtain rfl := hG
  have hI := hJ.perm List.perm_middle
  replace hI := hI.perm (List.Perm.cons _ List.perm_middle)
  have hI : xc_I Y (xc_A h0 s.heap.size) s H _ ((h0, .inr (6, [.ref (G1 0 0), .ref (G2 0 0), .ref (G3 10 33), .ref q4, .null, .null])) :: (q4, .inl (Y.2.1 3, 2, .inr (.inr (.inr (.inr (va_up (fun _ => none) (Int32.toNatClampNeg 0) (some (G5 0 0)))))))) :: (xc_w Y G6 x_s0 xi_X2 ++ (xc_w Y G5 x_s0 xi_X2 ++ (xc_w Y G3 x_s0 xi_X5 ++ (xc_w Y G2 x_s0 xi_X2 ++ (xc_w Y G1 x_s0 xi_X2 ++ [])))))) := hI
  refine xc_astq (n := 2) F hI 1 2 rfl rfl (by decide) (ws' := (h0, .inr (6, [.ref (G1 0 0), .ref (G2 0 0), .ref (G3 10 33), .ref q4, .null, .null])) :: (q4, .inl (Y.2.1 3, 2, .inr (.inr (.inr (.inr (va_up (va_up (fun _ => none) (Int32.toNatClampNeg 0) (some (G5 0 0))) (Int32.toNatClampNeg 1) (some (G6 0 0)))))))) :: (xc_w Y G6 x_s0 xi_X2 ++ (xc_w Y G5 x_s0 xi_X2 ++ (xc_w Y G3 x_s0 xi_X5 ++ (xc_w Y G2 x_s0 xi_X2 ++ (xc_w Y G1 x_s0 xi_X2 ++ [])))))) rfl dX6_init_64 (fun H locs hI => ?_)
  refine lv_iinc (v := 2) (lv' := [(1, .int 2), (0, .ref h0)]) hx hb dX6_init_65 hl (k := 0) rfl (by decide) (by decide) rfl (fun ls hl => ?_)
  refine lv_goto (tgt := 47) hx hb dX6_init_68 (by decide) ?_
  refine lv_iload_n hx hb dX6_init_47 rfl (lv_at hl 0 rfl) ?_
  refine lv_iconst (v := 2) hx hb dX6_init_48 (by decide) ?_
  refine lv_icmp_ge (tgt := 71) hx hb dX6_init_49 (by decide) (fun _ => ?_) (fun c9 => absurd (by decide) c9)
  refine lv_aload_n hx hb dX6_init_71 rfl (lv_at hl 1 rfl) ?_
  refine lv_iconst (v := 2) hx hb dX6_init_72 (by decide) ?_
  refine xc_newa (ty := .boolean) (N' := 2) (a0 := (2, .inl (fun _ => 0))) F hI rfl u_arr_boolean 2 rfl (fun C h9 => by cases h9) (fun _ => rfl) (by decide) (by decide) (by decide) (Nat.le_of_ble_eq_true rfl) (Nat.le_of_ble_eq_true rfl) dX6_init_73 (fun q7 H hI => ?_)
  have hI : xc_I Y (xc_A h0 s.heap.size) s H _ ((h0, .inr (6, [.ref (G1 0 0), .ref (G2 0 0), .ref (G3 10 33), .ref q4, .null, .null])) :: (q7, .inl (Y.2.1 2, 2, .inl (fun _ => 0))) :: (q4, .inl (Y.2.1 3, 2, .inr (.inr (.inr (.inr (va_up (va_up (fun _ => none) (Int32.toNatClampNeg 0) (some (G5 0 0))) (Int32.toNatClampNeg 1) (some (G6 0 0)))))))) :: (xc_w Y G6 x_s0 xi_X2 ++ (xc_w Y G5 x_s0 xi_X2 ++ (xc_w Y G3 x_s0 xi_X5 ++ (xc_w Y G2 x_s0 xi_X2 ++ (xc_w Y G1 x_s0 xi_X2 ++ [])))))) := hI
  refine xc_putF F hn0 hI 0 rfl tyX6 rfl xin_6 tyX6_ok nmX6 (i := 4) (by decide) u_fl_X6_30 rfl rfl rfl (tyX6_ok 4 (by decide)) rfl rfl (Nat.le_of_ble_eq_true rfl) (ws' := (h0, .inr (6, [.ref (G1 0 0), .ref (G2 0 0), .ref (G3 10 33), .ref q4, .ref q7, .null])) :: (q7, .inl (Y.2.1 2, 2, .inl (fun _ => 0))) :: (q4, .inl (Y.2.1 3, 2, .inr (.inr (.inr (.inr (va_up (va_up (fun _ => none) (Int32.toNatClampNeg 0) (some (G5 0 0))) (Int32.toNatClampNeg 1) (some (G6 0 0)))))))) :: (xc_w Y G6 x_s0 xi_X2 ++ (xc_w Y G5 x_s0 xi_X2 ++ (xc_w Y G3 x_s0 xi_X5 ++ (xc_w Y G2 x_s0 xi_X2 ++ (xc_w Y G1 x_s0 xi_X2 ++ [])))))) rfl dX6_init_75 (fun H locs hI => ?_)
  refine lv_aload_n hx hb dX6_init_78 rfl (lv_at hl 1 rfl) ?_
  refine xc_new (ci := 0) (fs := [.null, .int 0, .int 0, .int 0]) F hI xin_0 tyX0 tyX0_ok u_clk_X6_34 u_inst_X0 u_ini_X0 rfl (fun j hj => by rcases (show j = 0 ∨ j = 1 ∨ j = 2 ∨ j = 3 by omega) with rfl | rfl | rfl | rfl <;> rfl) (Nat.le_of_ble_eq_true rfl) (Nat.le_of_ble_eq_true rfl) dX6_init_79 (fun q8 H hI => ?_)
  have hI : xc_I Y (xc_A h0 s.heap.size) s H _ ((q8, .inr (0, [.null, .int 0, .int 0, .int 0])) :: (h0, .inr (6, [.ref (G1 0 0), .ref (G2 0 0), .ref (G3 10 33), .ref q4, .ref q7, .null])) :: (q7, .inl (Y.2.1 2, 2, .inl (fun _ => 0))) :: (q4, .inl (Y.2.1 3, 2, .inr (.inr (.inr (.inr (va_up (va_up (fun _ => none) (Int32.toNatClampNeg 0) (some (G5 0 0))) (Int32.toNatClampNeg 1) (some (G6 0 0)))))))) :: (xc_w Y G6 x_s0 xi_X2 ++ (xc_w Y G5 x_s0 xi_X2 ++ (xc_w Y G3 x_s0 xi_X5 ++ (xc_w Y G2 x_s0 xi_X2 ++ (xc_w Y G1 x_s0 xi_X2 ++ [])))))) := hI
  refine lv_dup hx hb dX6_init_82 rfl ?_
  refine xc_made hI (xc_runIN F hO hI (cX0 l Y q8 H.size) u_mln_X6_36 u_co_X0_init u_ini_X0 u_in_X0_init rfl hd_X0_init ⟨by decide, by decide⟩ ⟨rfl, rfl⟩ hl.1 (Nat.le_of_ble_eq_true rfl) dX6_init_83 ⟨by decide, by decide⟩) (fun G8 H locs hG hJ => ?_)
  obtain rfl := hG
  have hI := hJ.perm List.perm_middle
  have hI : xc_I Y (xc_A h0 s.heap.size) s H _ ((h0, .inr (6, [.ref (G1 0 0), .ref (G2 0 0), .ref (G3 10 33), .ref q4, .ref q7, .null])) :: (xc_w Y G8 x_s0 xi_X0 ++ (q7, .inl (Y.2.1 2, 2, .inl (fun _ => 0))) :: (q4, .inl (Y.2.1 3, 2, .inr (.inr (.inr (.inr (va_up (va_up (fun _ => none) (Int32.toNatClampNeg 0) (some (G5 0 0))) (Int32.toNatClampNeg 1) (some (G6 0 0)))))))) :: (xc_w Y G6 x_s0 xi_X2 ++ (xc_w Y G5 x_s0 xi_X2 ++ (xc_w Y G3 x_s0 xi_X5 ++ (xc_w Y G2 x_s0 xi_X2 ++ (xc_w Y G1 x_s0 xi_X2 ++ []))))))) := hI
  refine xc_putF F hn0 hI 0 rfl tyX6 rfl xin_6 tyX6_ok nmX6 (i := 5) (by decide) u_fl_X6_37 rfl rfl rfl (tyX6_ok 5 (by decide)) rfl rfl (Nat.le_of_ble_eq_true rfl) (ws' := (h0, .inr (6, [.ref (G1 0 0), .ref (G2 0 0), .ref (G3 10 33), .ref q4, .ref q7, .ref (G8 10 37)])) :: (xc_w Y G8 x_s0 xi_X0 ++ (q7, .inl (Y.2.1 2, 2, .inl (fun _ => 0))) :: (q4, .inl (Y.2.1 3, 2, .inr (.inr (.inr (.inr (va_up (va_up (fun _ => none) (Int32.toNatClampNeg 0) (some (G5 0 0))) (Int32.toNatClampNeg 1) (some (G6 0 0)))))))) :: (xc_w Y G6 x_s0 xi_X2 ++ (xc_w Y G5 x_s0 xi_X2 ++ (xc_w Y G3 x_s0 xi_X5 ++ (xc_w Y G2 x_s0 xi_X2 ++ (xc_w Y G1 x_s0 xi_X2 ++ []))))))) rfl dX6_init_86 (fun H locs hI => ?_)
  replace hI := xc_refs hI 4 rfl (g := fun i => some ((xg_X6 h0 q7 q4 G8 G6 G5 G3 G2 G1) (Int32.toNatClampNeg (x_s0 10 35 i)) 0)) (fun i hi => by rcases (show i = 0 ∨ i = 1 by omega) with rfl | rfl <;> rfl) (ws' := (h0, .inr (6, [.ref (G1 0 0), .ref (G2 0 0), .ref (G3 10 33), .ref q4, .ref q7, .ref (G8 10 37)])) :: (xc_w Y G8 x_s0 xi_X0 ++ (q7, .inl (Y.2.1 2, 2, .inl (fun _ => 0))) :: (q4, .inl (Y.2.1 3, 2, .inr (.inr (.inr (.inr (fun i => some ((xg_X6 h0 q7 q4 G8 G6 G5 G3 G2 G1) (Int32.toNatClampNeg (x_s0 10 35 i)) 0))))))) :: (xc_w Y G6 x_s0 xi_X2 ++ (xc_w Y G5 x_s0 xi_X2 ++ (xc_w Y G3 x_s0 xi_X5 ++ (xc_w Y G2 x_s0 xi_X2 ++ (xc_w Y G1 x_s0 xi_X2 ++ []))))))) rfl
  replace hI := xc_refs hI 56 (a := G3 10 34) (n := 6) (cA := Y.2.1 3) (f := fun i => some (G3 (Int32.toNatClampNeg (x_s0 10 34 i)) 0)) rfl (g := fun i => some (xg_X6 h0 q7 q4 G8 G6 G5 G3 G2 G1 (Int32.toNatClampNeg (x_s0 10 34 i)) 0)) (fun i hi => by rcases (show i = 0 ∨ i = 1 ∨ i = 2 ∨ i = 3 ∨ i = 4 ∨ i = 5 by omega) with rfl | rfl | rfl | rfl | rfl | rfl <;> rfl) rfl
  exact xc_ret F hI (xg_X6 h0 q7 q4 G8 G6 G5 G3 G2 G1) rfl rfl (Nat.le_of_ble_eq_true rfl) (Nat.le_of_ble_eq_true rfl) dX6_init_89
