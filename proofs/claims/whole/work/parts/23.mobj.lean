abbrev rm_Jxe99ae_isNaN_b9ae7 : Room := { frames := 0, cells := 0, slots := 0, locals := 0 }
def fJxe99ae_isNaN_b9ae7 (a1 : UInt64) : Option Int32 := (if (Op.cmpValue (FP.dcmp a1 a1) CmpOp.l) = 0 then some (0 : Int32) else some (1 : Int32))
set_option maxHeartbeats 4000000 in
set_option maxRecDepth 100000 in
theorem mJxe99ae_isNaN_b9ae7 (l : Launch) (X : x_T) (σ : x_S) (sz : Nat) (a1 : UInt64) (r : Int32) (h : fJxe99ae_isNaN_b9ae7 a1 = some r) : Met l yJxe99ae_isNaN_b9ae7 (x_ws yJxe99ae_isNaN_b9ae7 cJxe99ae_isNaN_b9ae7 2 (some .boolean)) rm_Jxe99ae_isNaN_b9ae7 (x_Pc X σ sz [.double a1]) (x_Qi X r σ sz) 0 0 (x_A X sz) := by
  refine Met.ofW (cc := cJxe99ae_isNaN_b9ae7) (maxL := 2) (ret := (some .boolean)) (by decide) rfl ?_
  intro p e s m args below meth c s₁ B hml hv
  obtain ⟨F, hI, rfl, rfl⟩ := x_begin B hml hv
  replace F : x_F p s m _ meth c cJxe99ae_isNaN_b9ae7 2 RJxe99ae (some .boolean) := F
  have hx := F.1
  have hb := F.2.1
  have hml := F.2.2.1
  have hown := F.2.2.2.1
  have hts := F.2.2.2.2.1
  refine x_entry (vs := [.double a1]) (n := 2) (Nat.le_of_ble_eq_true rfl) (fun ls hl => ?_)
  replace hl : lv_has ls 2 [(0, .double a1)] := hl
  unfold fJxe99ae_isNaN_b9ae7 at h
  refine lv_dload_n hx hb dJxe99ae_isNaN_b9ae7_0 rfl (lv_at hl 0 rfl) ?_
  refine lv_dload_n hx hb dJxe99ae_isNaN_b9ae7_1 rfl (lv_at hl 0 rfl) ?_
  refine lv_dcmp hx hb dJxe99ae_isNaN_b9ae7_2 ?_
  refine lv_if_eq (tgt := 10) hx hb dJxe99ae_isNaN_b9ae7_3 (by decide) (fun c1 => ?_) (fun c1 => ?_)
  · have h := x_ift h c1
    refine lv_iconst (v := 0) hx hb dJxe99ae_isNaN_b9ae7_10 (by decide) ?_
    rw [x_some h]
    exact x_zret (v := 0) F hI (by decide) dJxe99ae_isNaN_b9ae7_11
  · have h := x_iff h c1
    refine lv_iconst (v := 1) hx hb dJxe99ae_isNaN_b9ae7_6 (by decide) ?_
    refine lv_goto (tgt := 11) hx hb dJxe99ae_isNaN_b9ae7_7 (by decide) ?_
    rw [x_some h]
    exact x_zret (v := 1) F hI (by decide) dJxe99ae_isNaN_b9ae7_11
abbrev rm_Jxe99ae_doubleToLongBits_ccdee : Room := { frames := 1, cells := 0, slots := 0, locals := 24 }
def fJxe99ae_doubleToLongBits_ccdee (a1 : UInt64) : Option Int64 := (Option.bind (fJxe99ae_isNaN_b9ae7 a1) fun r1 => (if r1 = 0 then some (a1.toInt64) else some (9221120237041090560 : Int64)))
set_option maxHeartbeats 4000000 in
set_option maxRecDepth 100000 in
theorem mJxe99ae_doubleToLongBits_ccdee (l : Launch) (X : x_T) (σ : x_S) (sz : Nat) (a1 : UInt64) (r : Int64) (h : fJxe99ae_doubleToLongBits_ccdee a1 = some r) : Met l yJxe99ae_doubleToLongBits_ccdee (x_ws yJxe99ae_doubleToLongBits_ccdee cJxe99ae_doubleToLongBits_ccdee 2 (some .long)) rm_Jxe99ae_doubleToLongBits_ccdee (x_Pc X σ sz [.double a1]) (x_Ql X r σ sz) 0 0 (x_A X sz) := by
  refine Met.ofW (cc := cJxe99ae_doubleToLongBits_ccdee) (maxL := 2) (ret := (some .long)) (by decide) rfl ?_
  intro p e s m args below meth c s₁ B hml hv
  obtain ⟨F, hI, rfl, rfl⟩ := x_begin B hml hv
  replace F : x_F p s m _ meth c cJxe99ae_doubleToLongBits_ccdee 2 RJxe99ae (some .long) := F
  have hx := F.1
  have hb := F.2.1
  have hml := F.2.2.1
  have hown := F.2.2.2.1
  have hts := F.2.2.2.2.1
  refine x_entry (vs := [.double a1]) (n := 2) (Nat.le_of_ble_eq_true rfl) (fun ls hl => ?_)
  replace hl : lv_has ls 2 [(0, .double a1)] := hl
  unfold fJxe99ae_doubleToLongBits_ccdee at h
  refine lv_dload_n hx hb dJxe99ae_doubleToLongBits_ccdee_0 rfl (lv_at hl 0 rfl) ?_
  obtain ⟨r1, h2, h⟩ := x_bnd h
  refine x_aci hI (x_runS (rest := []) F hI (mJxe99ae_isNaN_b9ae7 l X σ _ a1 r1 h2) g_Jxe99ae_122 hd_Jxe99ae_isNaN_b9ae7 ⟨by decide, by decide⟩ ⟨rfl, rfl⟩ rfl hl.1 rfl (Nat.le_of_ble_eq_true rfl) dJxe99ae_doubleToLongBits_ccdee_1 ⟨Nat.zero_le _, Nat.zero_le _⟩) (fun H locs hI => ?_)
  refine lv_if_ne (tgt := 12) hx hb dJxe99ae_doubleToLongBits_ccdee_4 (by decide) (fun c3 => ?_) (fun c3 => ?_)
  · have h := x_iff h c3
    refine lv_ldc2 (v := 9221120237041090560) hx hb hown (hts _ u_cl_Jxe99ae_137) dJxe99ae_doubleToLongBits_ccdee_12 ?_
    rw [x_some h]
    exact x_lret F hI dJxe99ae_doubleToLongBits_ccdee_15
  · have h := x_ift h c3
    refine lv_dload_n hx hb dJxe99ae_doubleToLongBits_ccdee_7 rfl (lv_at hl 0 rfl) ?_
    refine vn_d2l hx hb (hml.trans hl.1.symm) hown (hts _ u_ml_Jxe99ae_134) (hts _ u_na_java_lang_DoubledoubleToRawLongBits) (hts _ u_st_java_lang_DoubledoubleToRawLongBits) (hts _ u_ini_Jxe99ae) (by decide) (Nat.le_of_ble_eq_true rfl) dJxe99ae_doubleToLongBits_ccdee_8 ?_
    rw [x_some h]
    exact x_lret F hI dJxe99ae_doubleToLongBits_ccdee_11
abbrev rm_X7_thrown : Room := { frames := 0, cells := 0, slots := 0, locals := 0 }
def fX7_thrown (u : x_H) : Option Int32 := some (u 40 0)
set_option maxHeartbeats 4000000 in
set_option maxRecDepth 100000 in
theorem mX7_thrown (l : Launch) (X : x_T) (σ : x_S) (sz : Nat) (u : x_H) (r : Int32) (h : fX7_thrown u  = some r) : Met l yX7_thrown (x_ws yX7_thrown cX7_thrown 1 (some .int)) rm_X7_thrown (x_Pc X (x_sh σ 11 u) sz [.ref (X.2.2 11 40)]) (x_Qi X r (x_sh σ 11 u) sz) 0 0 (x_A X sz) := by
  refine Met.ofW (cc := cX7_thrown) (maxL := 1) (ret := (some .int)) (by decide) rfl ?_
  intro p e s m args below meth c s₁ B hml hv
  obtain ⟨F, hI, rfl, rfl⟩ := x_begin B hml hv
  replace F : x_F p s m _ meth c cX7_thrown 1 RX7 (some .int) := F
  have hx := F.1
  have hb := F.2.1
  have hml := F.2.2.1
  have hown := F.2.2.2.1
  have hts := F.2.2.2.2.1
  refine x_entry (vs := [.ref (X.2.2 11 40)]) (n := 1) (Nat.le_of_ble_eq_true rfl) (fun ls hl => ?_)
  replace hl : lv_has ls 1 [(0, .ref (X.2.2 11 40))] := hl
  unfold fX7_thrown at h
  refine lv_aload_n hx hb dX7_thrown_0 rfl (lv_at hl 0 rfl) ?_
  refine xg_7_0 F hI (x_inO (by decide)) u_fl_X7_29 dX7_thrown_1 ?_
  rw [x_some h]
  exact x_iret F hI dX7_thrown_4
abbrev rm_X7_refused : Room := { frames := 0, cells := 0, slots := 0, locals := 0 }
def fX7_refused (u : x_H) (a1 : Int32) : Option (Int32 × x_H) := x_let (x_hu u 40 0 a1) fun u1 => (if a1 = 0 then some ((0 : Int32), u1) else some ((1 : Int32), u1))
set_option maxHeartbeats 4000000 in
set_option maxRecDepth 100000 in
theorem mX7_refused (l : Launch) (X : x_T) (σ : x_S) (sz : Nat) (u : x_H) (a1 : Int32) (r : (Int32 × x_H)) (h : fX7_refused u a1 = some r) : Met l yX7_refused (x_ws yX7_refused cX7_refused 2 (some .boolean)) rm_X7_refused (x_Pc X (x_sh σ 11 u) sz [.ref (X.2.2 11 40), .int a1]) (x_Qi X r.1 (x_sh σ 11 r.2) sz) 0 0 (x_A X sz) := by
  refine Met.ofW (cc := cX7_refused) (maxL := 2) (ret := (some .boolean)) (by decide) rfl ?_
  intro p e s m args below meth c s₁ B hml hv
  obtain ⟨F, hI, rfl, rfl⟩ := x_begin B hml hv
  replace F : x_F p s m _ meth c cX7_refused 2 RX7 (some .boolean) := F
  have hx := F.1
  have hb := F.2.1
  have hml := F.2.2.1
  have hown := F.2.2.2.1
  have hts := F.2.2.2.2.1
  refine x_entry (vs := [.ref (X.2.2 11 40), .int a1]) (n := 2) (Nat.le_of_ble_eq_true rfl) (fun ls hl => ?_)
  replace hl : lv_has ls 2 [(0, .ref (X.2.2 11 40)), (1, .int a1)] := hl
  unfold fX7_refused at h
  refine lv_aload_n hx hb dX7_refused_0 rfl (lv_at hl 0 rfl) ?_
  refine lv_iload_n hx hb dX7_refused_1 rfl (lv_at hl 1 rfl) ?_
  refine xp_7_0 F hI (x_inO (by decide)) u_fl_X7_29 dX7_refused_2 (fun H locs u1 e2 hI => ?_)
  have h := x_let_at h e2
  refine lv_iload_n hx hb dX7_refused_5 rfl (lv_at hl 1 rfl) ?_
  refine lv_if_eq (tgt := 13) hx hb dX7_refused_6 (by decide) (fun c3 => ?_) (fun c3 => ?_)
  · have h := x_ift h c3
    refine lv_iconst (v := 0) hx hb dX7_refused_13 (by decide) ?_
    rw [x_some h]
    exact x_zret (v := 0) F hI (by decide) dX7_refused_14
  · have h := x_iff h c3
    refine lv_iconst (v := 1) hx hb dX7_refused_9 (by decide) ?_
    refine lv_goto (tgt := 14) hx hb dX7_refused_10 (by decide) ?_
    rw [x_some h]
    exact x_zret (v := 1) F hI (by decide) dX7_refused_14
abbrev rm_X7_save : Room := { frames := 0, cells := 0, slots := 0, locals := 0 }
def fX7_save_b52 : Nat → x_H → Int32 → Option x_H
  | 0, _, _ => none
  | n + 1, u, y1 => (if (570 : Int32) ≤ y1 then x_let (x_hu u 40 1 ((u 40 1) + (1 : Int32))) fun u12 => some (u12) else (if x_in y1 570 then (if x_in (((570 : Int32) * (u 40 1)) + y1) 3420 then x_let (x_hu u 43 (Int32.toNatClampNeg (((570 : Int32) * (u 40 1)) + y1)) (u 41 (Int32.toNatClampNeg y1))) fun u15 => x_let (y1 + (1 : Int32)) fun x18 => fX7_save_b52 n u15 x18 else none) else none))
set_option maxHeartbeats 4000000 in
set_option maxRecDepth 100000 in
theorem wX7_save_b52 {p : Program} {l : Launch} {e : Env} {s : State} {m : MethodId} {args : Array Value} {below : List Frame} {meth : Method} {c : Code} {X : x_T} {σ : x_S} {r : x_H} (F : x_F p s m args meth c cX7_save 2 RX7 none) : ∀ (n : Nat) (u : x_H) (y1 : Int32) (H : Heap) (locs : List Loc) (ls : Array Slot), fX7_save_b52 n u y1 = some r → x_I X (x_sh σ 11 u) s H locs → lv_has ls 2 [(0, .ref (X.2.2 11 40)), (1, .int y1)] → W p l e rm_X7_save s m args below meth c H locs 0 0 (MQ below (x_Qv X (x_sh σ 11 r) s.heap.size) args s 0 0 (x_A X s.heap.size)) (F0 m 52 ls []) := by
  have hx := F.1
  have hb := F.2.1
  have hml := F.2.2.1
  have hown := F.2.2.2.1
  have hts := F.2.2.2.2.1
  intro n
  induction n with
  | zero =>
    intro u y1 H locs ls h
    rw [fX7_save_b52] at h
    cases h
  | succ n ih =>
    intro u y1 H locs ls h hI hl
    rw [fX7_save_b52] at h
    refine lv_iload_n hx hb dX7_save_52 rfl (lv_at hl 1 rfl) ?_
    refine lv_sipush (v := 570) hx hb dX7_save_53 (by decide) ?_
    refine lv_icmp_ge (tgt := 86) hx hb dX7_save_56 (by decide) (fun c11 => ?_) (fun c11 => ?_)
    · have h := x_ift h c11
      refine lv_aload_n hx hb dX7_save_86 rfl (lv_at hl 0 rfl) ?_
      refine lv_dup hx hb dX7_save_87 rfl ?_
      refine xg_7_4 F hI (x_inO (by decide)) u_fl_X7_90 dX7_save_88 ?_
      refine lv_iconst (v := 1) hx hb dX7_save_91 (by decide) ?_
      refine lv_iadd hx hb dX7_save_92 ?_
      refine xp_7_4 F hI (x_inO (by decide)) u_fl_X7_90 dX7_save_93 (fun H locs u12 e13 hI => ?_)
      have h := x_let_at h e13
      rw [x_some h]
      exact x_vret F hI dX7_save_96
    · have h := x_iff h c11
      refine lv_aload_n hx hb dX7_save_59 rfl (lv_at hl 0 rfl) ?_
      refine xg_7_3 F hI (x_inO (by decide)) u_fl_X7_16 dX7_save_60 ?_
      refine lv_sipush (v := 570) hx hb dX7_save_63 (by decide) ?_
      refine lv_aload_n hx hb dX7_save_66 rfl (lv_at hl 0 rfl) ?_
      refine xg_7_4 F hI (x_inO (by decide)) u_fl_X7_90 dX7_save_67 ?_
      refine lv_imul hx hb dX7_save_70 ?_
      refine lv_iload_n hx hb dX7_save_71 rfl (lv_at hl 1 rfl) ?_
      refine lv_iadd hx hb dX7_save_72 ?_
      refine lv_aload_n hx hb dX7_save_73 rfl (lv_at hl 0 rfl) ?_
      refine xg_7_1 F hI (x_inO (by decide)) u_fl_X7_7 dX7_save_74 ?_
      refine lv_iload_n hx hb dX7_save_77 rfl (lv_at hl 1 rfl) ?_
      obtain ⟨g14, h⟩ := x_chk h
      refine xh_iald (n := 570) F hI (x_inO (by decide)) (fun _ => rfl) g14 dX7_save_78 ?_
      obtain ⟨g17, h⟩ := x_chk h
      refine xh_iast (n := 3420) F hI (x_inO (by decide)) (fun _ => rfl) g17 dX7_save_79 (fun H locs u15 e16 hI => ?_)
      have h := x_let_at h e16
      obtain ⟨x18, e19⟩ : ∃ z : Int32, z = (y1 + (1 : Int32)) := ⟨_, rfl⟩
      have h := x_let_at h e19
      refine lv_iinc (v := x18) (lv' := [(1, .int x18), (0, .ref (X.2.2 11 40))]) hx hb dX7_save_80 hl (k := 1) rfl (by rw [e19]; rfl) (by decide) rfl (fun ls hl => ?_)
      refine lv_goto (tgt := 52) hx hb dX7_save_83 (by decide) ?_
      exact ih u15 x18 _ _ _ h hI (lv_sub hl [1, 0] rfl)
def fX7_save_j50 (u : x_H) : Option x_H := fX7_save_b52 4000 u (0 : Int32)
set_option maxHeartbeats 4000000 in
set_option maxRecDepth 100000 in
theorem wX7_save_j50 {p : Program} {l : Launch} {e : Env} {s : State} {m : MethodId} {args : Array Value} {below : List Frame} {meth : Method} {c : Code} {X : x_T} {σ : x_S} {r : x_H} (F : x_F p s m args meth c cX7_save 2 RX7 none) (u : x_H) (H : Heap) (locs : List Loc) (ls : Array Slot) (h : fX7_save_j50 u = some r) (hI : x_I X (x_sh σ 11 u) s H locs) (hl : lv_has ls 2 [(0, .ref (X.2.2 11 40))]) : W p l e rm_X7_save s m args below meth c H locs 0 0 (MQ below (x_Qv X (x_sh σ 11 r) s.heap.size) args s 0 0 (x_A X s.heap.size)) (F0 m 50 ls []) := by
  have hx := F.1
  have hb := F.2.1
  have hml := F.2.2.1
  have hown := F.2.2.2.1
  have hts := F.2.2.2.2.1
  unfold fX7_save_j50 at h
  refine lv_iconst (v := 0) hx hb dX7_save_50 (by decide) ?_
  refine lv_istore_n (lv' := [(1, .int (0)), (0, .ref (X.2.2 11 40))]) hx hb dX7_save_51 rfl hl (by decide) rfl (fun ls hl => ?_)
  exact wX7_save_b52 F 4000 u (0 : Int32) _ _ _ h hI (lv_sub hl [1, 0] rfl)
def fX7_save_b11 : Nat → x_H → Int32 → Option x_H
  | 0, _, _ => none
  | n + 1, u, y1 => (if (2850 : Int32) ≤ y1 then x_let (x_hu u 40 1 ((u 40 1) - (1 : Int32))) fun u3 => fX7_save_j50 u3 else (if x_in ((570 : Int32) + y1) 3420 then (if x_in y1 3420 then x_let (x_hu u 43 (Int32.toNatClampNeg y1) (u 43 (Int32.toNatClampNeg ((570 : Int32) + y1)))) fun u6 => x_let (y1 + (1 : Int32)) fun x9 => fX7_save_b11 n u6 x9 else none) else none))
set_option maxHeartbeats 4000000 in
set_option maxRecDepth 100000 in
theorem wX7_save_b11 {p : Program} {l : Launch} {e : Env} {s : State} {m : MethodId} {args : Array Value} {below : List Frame} {meth : Method} {c : Code} {X : x_T} {σ : x_S} {r : x_H} (F : x_F p s m args meth c cX7_save 2 RX7 none) : ∀ (n : Nat) (u : x_H) (y1 : Int32) (H : Heap) (locs : List Loc) (ls : Array Slot), fX7_save_b11 n u y1 = some r → x_I X (x_sh σ 11 u) s H locs → lv_has ls 2 [(0, .ref (X.2.2 11 40)), (1, .int y1)] → W p l e rm_X7_save s m args below meth c H locs 0 0 (MQ below (x_Qv X (x_sh σ 11 r) s.heap.size) args s 0 0 (x_A X s.heap.size)) (F0 m 11 ls []) := by
  have hx := F.1
  have hb := F.2.1
  have hml := F.2.2.1
  have hown := F.2.2.2.1
  have hts := F.2.2.2.2.1
  intro n
  induction n with
  | zero =>
    intro u y1 H locs ls h
    rw [fX7_save_b11] at h
    cases h
  | succ n ih =>
    intro u y1 H locs ls h hI hl
    rw [fX7_save_b11] at h
    refine lv_iload_n hx hb dX7_save_11 rfl (lv_at hl 1 rfl) ?_
    refine lv_sipush (v := 2850) hx hb dX7_save_12 (by decide) ?_
    refine lv_icmp_ge (tgt := 40) hx hb dX7_save_15 (by decide) (fun c2 => ?_) (fun c2 => ?_)
    · have h := x_ift h c2
      refine lv_aload_n hx hb dX7_save_40 rfl (lv_at hl 0 rfl) ?_
      refine lv_dup hx hb dX7_save_41 rfl ?_
      refine xg_7_4 F hI (x_inO (by decide)) u_fl_X7_90 dX7_save_42 ?_
      refine lv_iconst (v := 1) hx hb dX7_save_45 (by decide) ?_
      refine lv_isub hx hb dX7_save_46 ?_
      refine xp_7_4 F hI (x_inO (by decide)) u_fl_X7_90 dX7_save_47 (fun H locs u3 e4 hI => ?_)
      have h := x_let_at h e4
      exact wX7_save_j50 F u3 _ _ _ h hI (lv_sub hl [0] rfl)
    · have h := x_iff h c2
      refine lv_aload_n hx hb dX7_save_18 rfl (lv_at hl 0 rfl) ?_
      refine xg_7_3 F hI (x_inO (by decide)) u_fl_X7_16 dX7_save_19 ?_
      refine lv_iload_n hx hb dX7_save_22 rfl (lv_at hl 1 rfl) ?_
      refine lv_aload_n hx hb dX7_save_23 rfl (lv_at hl 0 rfl) ?_
      refine xg_7_3 F hI (x_inO (by decide)) u_fl_X7_16 dX7_save_24 ?_
      refine lv_sipush (v := 570) hx hb dX7_save_27 (by decide) ?_
      refine lv_iload_n hx hb dX7_save_30 rfl (lv_at hl 1 rfl) ?_
      refine lv_iadd hx hb dX7_save_31 ?_
      obtain ⟨g5, h⟩ := x_chk h
      refine xh_iald (n := 3420) F hI (x_inO (by decide)) (fun _ => rfl) g5 dX7_save_32 ?_
      obtain ⟨g8, h⟩ := x_chk h
      refine xh_iast (n := 3420) F hI (x_inO (by decide)) (fun _ => rfl) g8 dX7_save_33 (fun H locs u6 e7 hI => ?_)
      have h := x_let_at h e7
      obtain ⟨x9, e10⟩ : ∃ z : Int32, z = (y1 + (1 : Int32)) := ⟨_, rfl⟩
      have h := x_let_at h e10
      refine lv_iinc (v := x9) (lv' := [(1, .int x9), (0, .ref (X.2.2 11 40))]) hx hb dX7_save_34 hl (k := 1) rfl (by rw [e10]; rfl) (by decide) rfl (fun ls hl => ?_)
      refine lv_goto (tgt := 11) hx hb dX7_save_37 (by decide) ?_
      exact ih u6 x9 _ _ _ h hI (lv_sub hl [1, 0] rfl)
def fX7_save (u : x_H) : Option x_H := (if (u 40 1) = (6 : Int32) then fX7_save_b11 4000 u (0 : Int32) else fX7_save_j50 u)
set_option maxHeartbeats 4000000 in
set_option maxRecDepth 100000 in
theorem mX7_save (l : Launch) (X : x_T) (σ : x_S) (sz : Nat) (u : x_H) (r : x_H) (h : fX7_save u  = some r) : Met l yX7_save (x_ws yX7_save cX7_save 2 none) rm_X7_save (x_Pc X (x_sh σ 11 u) sz [.ref (X.2.2 11 40)]) (x_Qv X (x_sh σ 11 r) sz) 0 0 (x_A X sz) := by
  refine Met.ofW (cc := cX7_save) (maxL := 2) (ret := none) (by decide) rfl ?_
  intro p e s m args below meth c s₁ B hml hv
  obtain ⟨F, hI, rfl, rfl⟩ := x_begin B hml hv
  replace F : x_F p s m _ meth c cX7_save 2 RX7 none := F
  have hx := F.1
  have hb := F.2.1
  have hml := F.2.2.1
  have hown := F.2.2.2.1
  have hts := F.2.2.2.2.1
  refine x_entry (vs := [.ref (X.2.2 11 40)]) (n := 2) (Nat.le_of_ble_eq_true rfl) (fun ls hl => ?_)
  replace hl : lv_has ls 2 [(0, .ref (X.2.2 11 40))] := hl
  unfold fX7_save at h
  refine lv_aload_n hx hb dX7_save_0 rfl (lv_at hl 0 rfl) ?_
  refine xg_7_4 F hI (x_inO (by decide)) u_fl_X7_90 dX7_save_1 ?_
  refine lv_bipush (v := 6) hx hb dX7_save_4 (by decide) ?_
  refine lv_icmp_ne (tgt := 50) hx hb dX7_save_6 (by decide) (fun c1 => ?_) (fun c1 => ?_)
  · have h := x_iff h c1
    exact wX7_save_j50 F u _ _ _ h hI (lv_sub hl [0] rfl)
  · have h := x_ift h c1
    refine lv_iconst (v := 0) hx hb dX7_save_9 (by decide) ?_
    refine lv_istore_n (lv' := [(1, .int (0)), (0, .ref (X.2.2 11 40))]) hx hb dX7_save_10 rfl hl (by decide) rfl (fun ls hl => ?_)
    exact wX7_save_b11 F 4000 u (0 : Int32) _ _ _ h hI (lv_sub hl [1, 0] rfl)
abbrev rm_X7_noGuest : Room := { frames := 2, cells := 0, slots := 0, locals := 45 }
def fX7_noGuest (u : x_H) (a1 : Int32) : Option (Int32 × x_H) := (Option.bind (fX7_isGuest a1) fun r1 => (if r1 = 0 then (Option.bind (fX7_refused u (1 : Int32)) fun r4 => if vp_nar .boolean r4.1 = r4.1 then some (r4.1, r4.2) else none) else (Option.bind (fX7_refused u (0 : Int32)) fun r6 => if vp_nar .boolean r6.1 = r6.1 then some (r6.1, r6.2) else none)))
set_option maxHeartbeats 4000000 in
set_option maxRecDepth 100000 in
theorem mX7_noGuest (l : Launch) (X : x_T) (σ : x_S) (sz : Nat) (u : x_H) (a1 : Int32) (r : (Int32 × x_H)) (h : fX7_noGuest u a1 = some r) : Met l yX7_noGuest (x_ws yX7_noGuest cX7_noGuest 2 (some .boolean)) rm_X7_noGuest (x_Pc X (x_sh σ 11 u) sz [.ref (X.2.2 11 40), .int a1]) (x_Qi X r.1 (x_sh σ 11 r.2) sz) 0 0 (x_A X sz) := by
  refine Met.ofW (cc := cX7_noGuest) (maxL := 2) (ret := (some .boolean)) (by decide) rfl ?_
  intro p e s m args below meth c s₁ B hml hv
  obtain ⟨F, hI, rfl, rfl⟩ := x_begin B hml hv
  replace F : x_F p s m _ meth c cX7_noGuest 2 RX7 (some .boolean) := F
  have hx := F.1
  have hb := F.2.1
  have hml := F.2.2.1
  have hown := F.2.2.2.1
  have hts := F.2.2.2.2.1
  refine x_entry (vs := [.ref (X.2.2 11 40), .int a1]) (n := 2) (Nat.le_of_ble_eq_true rfl) (fun ls hl => ?_)
  replace hl : lv_has ls 2 [(0, .ref (X.2.2 11 40)), (1, .int a1)] := hl
  unfold fX7_noGuest at h
  refine lv_aload_n hx hb dX7_noGuest_0 rfl (lv_at hl 0 rfl) ?_
  refine lv_iload_n hx hb dX7_noGuest_1 rfl (lv_at hl 1 rfl) ?_
  obtain ⟨r1, h2, h⟩ := x_bnd h
  refine x_aci hI (x_runS (rest := [.ref (X.2.2 11 40)]) F hI (mX7_isGuest l X (x_sh σ 11 u) _ a1 r1 h2) g_X7_93 hd_X7_isGuest ⟨by decide, by decide⟩ ⟨rfl, rfl⟩ rfl hl.1 rfl (Nat.le_of_ble_eq_true rfl) dX7_noGuest_2 ⟨Nat.zero_le _, Nat.zero_le _⟩) (fun H locs hI => ?_)
  refine lv_if_eq (tgt := 12) hx hb dX7_noGuest_5 (by decide) (fun c3 => ?_) (fun c3 => ?_)
  · have h := x_ift h c3
    refine lv_iconst (v := 1) hx hb dX7_noGuest_12 (by decide) ?_
    obtain ⟨r4, h5, h⟩ := x_bnd h
    refine x_aci hI (x_runV (rest := []) F hI (mX7_refused l X σ _ u (1 : Int32) r4 h5) g_X7_97 ⟨rfl, hd_X7_refused⟩ ⟨by decide, by decide⟩ ⟨rfl, rfl⟩ (x_inO (by decide)) rfl rfl rfl rfl hl.1 rfl (Nat.le_of_ble_eq_true rfl) dX7_noGuest_13 ⟨Nat.zero_le _, Nat.zero_le _⟩) (fun H locs hI => ?_)
    obtain ⟨g, h⟩ := x_chk h
    rw [x_some h]
    exact x_zret (v := r4.1) F hI g dX7_noGuest_16
  · have h := x_iff h c3
    refine lv_iconst (v := 0) hx hb dX7_noGuest_8 (by decide) ?_
    refine lv_goto (tgt := 13) hx hb dX7_noGuest_9 (by decide) ?_
    obtain ⟨r6, h7, h⟩ := x_bnd h
    refine x_aci hI (x_runV (rest := []) F hI (mX7_refused l X σ _ u (0 : Int32) r6 h7) g_X7_97 ⟨rfl, hd_X7_refused⟩ ⟨by decide, by decide⟩ ⟨rfl, rfl⟩ (x_inO (by decide)) rfl rfl rfl rfl hl.1 rfl (Nat.le_of_ble_eq_true rfl) dX7_noGuest_13 ⟨Nat.zero_le _, Nat.zero_le _⟩) (fun H locs hI => ?_)
    obtain ⟨g, h⟩ := x_chk h
    rw [x_some h]
    exact x_zret (v := r6.1) F hI g dX7_noGuest_16
abbrev rm_X7_noRoom : Room := { frames := 2, cells := 0, slots := 0, locals := 45 }
def fX7_noRoom (u : x_H) (a1 : Int32) : Option (Int32 × x_H) := (Option.bind (fX7_isRoom a1) fun r1 => (if r1 = 0 then (Option.bind (fX7_refused u (1 : Int32)) fun r4 => if vp_nar .boolean r4.1 = r4.1 then some (r4.1, r4.2) else none) else (Option.bind (fX7_refused u (0 : Int32)) fun r6 => if vp_nar .boolean r6.1 = r6.1 then some (r6.1, r6.2) else none)))
set_option maxHeartbeats 4000000 in
set_option maxRecDepth 100000 in
theorem mX7_noRoom (l : Launch) (X : x_T) (σ : x_S) (sz : Nat) (u : x_H) (a1 : Int32) (r : (Int32 × x_H)) (h : fX7_noRoom u a1 = some r) : Met l yX7_noRoom (x_ws yX7_noRoom cX7_noRoom 2 (some .boolean)) rm_X7_noRoom (x_Pc X (x_sh σ 11 u) sz [.ref (X.2.2 11 40), .int a1]) (x_Qi X r.1 (x_sh σ 11 r.2) sz) 0 0 (x_A X sz) := by
  refine Met.ofW (cc := cX7_noRoom) (maxL := 2) (ret := (some .boolean)) (by decide) rfl ?_
  intro p e s m args below meth c s₁ B hml hv
  obtain ⟨F, hI, rfl, rfl⟩ := x_begin B hml hv
  replace F : x_F p s m _ meth c cX7_noRoom 2 RX7 (some .boolean) := F
  have hx := F.1
  have hb := F.2.1
  have hml := F.2.2.1
  have hown := F.2.2.2.1
  have hts := F.2.2.2.2.1
  refine x_entry (vs := [.ref (X.2.2 11 40), .int a1]) (n := 2) (Nat.le_of_ble_eq_true rfl) (fun ls hl => ?_)
  replace hl : lv_has ls 2 [(0, .ref (X.2.2 11 40)), (1, .int a1)] := hl
  unfold fX7_noRoom at h
  refine lv_aload_n hx hb dX7_noRoom_0 rfl (lv_at hl 0 rfl) ?_
  refine lv_iload_n hx hb dX7_noRoom_1 rfl (lv_at hl 1 rfl) ?_
  obtain ⟨r1, h2, h⟩ := x_bnd h
  refine x_aci hI (x_runS (rest := [.ref (X.2.2 11 40)]) F hI (mX7_isRoom l X (x_sh σ 11 u) _ a1 r1 h2) g_X7_100 hd_X7_isRoom ⟨by decide, by decide⟩ ⟨rfl, rfl⟩ rfl hl.1 rfl (Nat.le_of_ble_eq_true rfl) dX7_noRoom_2 ⟨Nat.zero_le _, Nat.zero_le _⟩) (fun H locs hI => ?_)
  refine lv_if_eq (tgt := 12) hx hb dX7_noRoom_5 (by decide) (fun c3 => ?_) (fun c3 => ?_)
  · have h := x_ift h c3
    refine lv_iconst (v := 1) hx hb dX7_noRoom_12 (by decide) ?_
    obtain ⟨r4, h5, h⟩ := x_bnd h
    refine x_aci hI (x_runV (rest := []) F hI (mX7_refused l X σ _ u (1 : Int32) r4 h5) g_X7_97 ⟨rfl, hd_X7_refused⟩ ⟨by decide, by decide⟩ ⟨rfl, rfl⟩ (x_inO (by decide)) rfl rfl rfl rfl hl.1 rfl (Nat.le_of_ble_eq_true rfl) dX7_noRoom_13 ⟨Nat.zero_le _, Nat.zero_le _⟩) (fun H locs hI => ?_)
    obtain ⟨g, h⟩ := x_chk h
    rw [x_some h]
    exact x_zret (v := r4.1) F hI g dX7_noRoom_16
  · have h := x_iff h c3
    refine lv_iconst (v := 0) hx hb dX7_noRoom_8 (by decide) ?_
    refine lv_goto (tgt := 13) hx hb dX7_noRoom_9 (by decide) ?_
    obtain ⟨r6, h7, h⟩ := x_bnd h
    refine x_aci hI (x_runV (rest := []) F hI (mX7_refused l X σ _ u (0 : Int32) r6 h7) g_X7_97 ⟨rfl, hd_X7_refused⟩ ⟨by decide, by decide⟩ ⟨rfl, rfl⟩ (x_inO (by decide)) rfl rfl rfl rfl hl.1 rfl (Nat.le_of_ble_eq_true rfl) dX7_noRoom_13 ⟨Nat.zero_le _, Nat.zero_le _⟩) (fun H locs hI => ?_)
    obtain ⟨g, h⟩ := x_chk h
    rw [x_some h]
    exact x_zret (v := r6.1) F hI g dX7_noRoom_16
abbrev rm_X7_seek : Room := { frames := 2, cells := 0, slots := 0, locals := 48 }
def fX7_seek (u : x_H) (a1 : Int32) : Option (Int32 × x_H) := (Option.bind (fX7_isGuest a1) fun r1 => (if r1 = 0 then (Option.bind (fX7_refused u (1 : Int32)) fun r4 => (if r4.1 = 0 then (Option.bind (fX7_save r4.2 ) fun r7 => (Option.bind (fX7_goSeek (r7 41) a1) fun r9 => x_let (x_hs r7 41 r9.2) fun u11 => some (r9.1, u11))) else some ((0 : Int32), r4.2))) else (Option.bind (fX7_doing (u 41) a1) fun r13 => (if r13 = 0 then (Option.bind (fX7_refused u (0 : Int32)) fun r16 => (if r16.1 = 0 then (Option.bind (fX7_save r16.2 ) fun r19 => (Option.bind (fX7_goSeek (r19 41) a1) fun r21 => x_let (x_hs r19 41 r21.2) fun u23 => some (r21.1, u23))) else some ((0 : Int32), r16.2))) else (Option.bind (fX7_refused u (2 : Int32)) fun r25 => (if r25.1 = 0 then (Option.bind (fX7_save r25.2 ) fun r28 => (Option.bind (fX7_goSeek (r28 41) a1) fun r30 => x_let (x_hs r28 41 r30.2) fun u32 => some (r30.1, u32))) else some ((0 : Int32), r25.2)))))))
set_option maxHeartbeats 4000000 in
set_option maxRecDepth 100000 in
theorem mX7_seek (l : Launch) (X : x_T) (σ : x_S) (sz : Nat) (u : x_H) (a1 : Int32) (r : (Int32 × x_H)) (h : fX7_seek u a1 = some r) : Met l yX7_seek (x_ws yX7_seek cX7_seek 3 (some .int)) rm_X7_seek (x_Pc X (x_sh σ 11 u) sz [.ref (X.2.2 11 40), .int a1]) (x_Qi X r.1 (x_sh σ 11 r.2) sz) 0 0 (x_A X sz) := by
  refine Met.ofW (cc := cX7_seek) (maxL := 3) (ret := (some .int)) (by decide) rfl ?_
  intro p e s m args below meth c s₁ B hml hv
  obtain ⟨F, hI, rfl, rfl⟩ := x_begin B hml hv
  replace F : x_F p s m _ meth c cX7_seek 3 RX7 (some .int) := F
  have hx := F.1
  have hb := F.2.1
  have hml := F.2.2.1
  have hown := F.2.2.2.1
  have hts := F.2.2.2.2.1
  refine x_entry (vs := [.ref (X.2.2 11 40), .int a1]) (n := 3) (Nat.le_of_ble_eq_true rfl) (fun ls hl => ?_)
  replace hl : lv_has ls 3 [(0, .ref (X.2.2 11 40)), (1, .int a1)] := hl
  unfold fX7_seek at h
  refine lv_iload_n hx hb dX7_seek_0 rfl (lv_at hl 1 rfl) ?_
  obtain ⟨r1, h2, h⟩ := x_bnd h
  refine x_aci hI (x_runS (rest := []) F hI (mX7_isGuest l X (x_sh σ 11 u) _ a1 r1 h2) g_X7_93 hd_X7_isGuest ⟨by decide, by decide⟩ ⟨rfl, rfl⟩ rfl hl.1 rfl (Nat.le_of_ble_eq_true rfl) dX7_seek_1 ⟨Nat.zero_le _, Nat.zero_le _⟩) (fun H locs hI => ?_)
  refine lv_istore_n (lv' := [(2, .int r1), (0, .ref (X.2.2 11 40)), (1, .int a1)]) hx hb dX7_seek_4 rfl hl (by decide) rfl (fun ls hl => ?_)
  refine lv_aload_n hx hb dX7_seek_5 rfl (lv_at hl 1 rfl) ?_
  refine lv_iload_n hx hb dX7_seek_6 rfl (lv_at hl 0 rfl) ?_
  refine lv_if_ne (tgt := 14) hx hb dX7_seek_7 (by decide) (fun c3 => ?_) (fun c3 => ?_)
  · have h := x_iff h c3
    refine lv_aload_n hx hb dX7_seek_14 rfl (lv_at hl 1 rfl) ?_
    refine xg_7_1 F hI (x_inO (by decide)) u_fl_X7_7 dX7_seek_15 ?_
    refine lv_iload_n hx hb dX7_seek_18 rfl (lv_at hl 2 rfl) ?_
    obtain ⟨r13, h14, h⟩ := x_bnd h
    have hI := x_toV 41 hI
    refine x_aci hI (x_runS (rest := [.ref (X.2.2 11 40)]) F hI (mX7_doing l X σ u 41 (x_inO (by decide)) (fun _ => rfl) _ (u 41) a1 r13 h14) g_X7_60 hd_X7_doing ⟨by decide, by decide⟩ ⟨rfl, rfl⟩ rfl hl.1 rfl (Nat.le_of_ble_eq_true rfl) dX7_seek_19 ⟨Nat.zero_le _, Nat.zero_le _⟩) (fun H locs hI => ?_)
    rw [x_hs_self] at hI
    refine lv_if_eq (tgt := 29) hx hb dX7_seek_22 (by decide) (fun c15 => ?_) (fun c15 => ?_)
    · have h := x_ift h c15
      refine lv_iconst (v := 0) hx hb dX7_seek_29 (by decide) ?_
      obtain ⟨r16, h17, h⟩ := x_bnd h
      refine x_aci hI (x_runV (rest := []) F hI (mX7_refused l X σ _ u (0 : Int32) r16 h17) g_X7_97 ⟨rfl, hd_X7_refused⟩ ⟨by decide, by decide⟩ ⟨rfl, rfl⟩ (x_inO (by decide)) rfl rfl rfl rfl hl.1 rfl (Nat.le_of_ble_eq_true rfl) dX7_seek_30 ⟨Nat.zero_le _, Nat.zero_le _⟩) (fun H locs hI => ?_)
      refine lv_if_eq (tgt := 38) hx hb dX7_seek_33 (by decide) (fun c18 => ?_) (fun c18 => ?_)
      · have h := x_ift h c18
        refine lv_aload_n hx hb dX7_seek_38 rfl (lv_at hl 1 rfl) ?_
        obtain ⟨r19, h20, h⟩ := x_bnd h
        refine x_acv hI (x_runV (rest := []) F hI (mX7_save l X σ _ r16.2  r19 h20) g_X7_103 ⟨rfl, hd_X7_save⟩ ⟨by decide, by decide⟩ ⟨rfl, rfl⟩ (x_inO (by decide)) rfl rfl rfl rfl hl.1 rfl (Nat.le_of_ble_eq_true rfl) dX7_seek_39 ⟨Nat.zero_le _, Nat.zero_le _⟩) (fun H locs hI => ?_)
        refine lv_aload_n hx hb dX7_seek_42 rfl (lv_at hl 1 rfl) ?_
        refine xg_7_1 F hI (x_inO (by decide)) u_fl_X7_7 dX7_seek_43 ?_
        refine lv_iload_n hx hb dX7_seek_46 rfl (lv_at hl 2 rfl) ?_
        obtain ⟨r21, h22, h⟩ := x_bnd h
        have hI := x_toV 41 hI
        refine x_aci hI (x_runS (rest := []) F hI (mX7_goSeek l X σ r19 41 (x_inO (by decide)) (fun _ => rfl) _ (r19 41) a1 r21 h22) g_X7_106 hd_X7_goSeek ⟨by decide, by decide⟩ ⟨rfl, rfl⟩ rfl hl.1 rfl (Nat.le_of_ble_eq_true rfl) dX7_seek_47 ⟨Nat.zero_le _, Nat.zero_le _⟩) (fun H locs hI => ?_)
        obtain ⟨u23, e24⟩ : ∃ z : x_H, z = x_hs r19 41 r21.2 := ⟨_, rfl⟩
        rw [← e24] at hI
        have h := x_let_at h e24
        rw [x_some h]
        exact x_iret F hI dX7_seek_50
      · have h := x_iff h c18
        refine lv_iconst (v := 0) hx hb dX7_seek_36 (by decide) ?_
        rw [x_some h]
        exact x_iret F hI dX7_seek_37
    · have h := x_iff h c15
      refine lv_iconst (v := 2) hx hb dX7_seek_25 (by decide) ?_
      refine lv_goto (tgt := 30) hx hb dX7_seek_26 (by decide) ?_
      obtain ⟨r25, h26, h⟩ := x_bnd h
      refine x_aci hI (x_runV (rest := []) F hI (mX7_refused l X σ _ u (2 : Int32) r25 h26) g_X7_97 ⟨rfl, hd_X7_refused⟩ ⟨by decide, by decide⟩ ⟨rfl, rfl⟩ (x_inO (by decide)) rfl rfl rfl rfl hl.1 rfl (Nat.le_of_ble_eq_true rfl) dX7_seek_30 ⟨Nat.zero_le _, Nat.zero_le _⟩) (fun H locs hI => ?_)
      refine lv_if_eq (tgt := 38) hx hb dX7_seek_33 (by decide) (fun c27 => ?_) (fun c27 => ?_)
      · have h := x_ift h c27
        refine lv_aload_n hx hb dX7_seek_38 rfl (lv_at hl 1 rfl) ?_
        obtain ⟨r28, h29, h⟩ := x_bnd h
        refine x_acv hI (x_runV (rest := []) F hI (mX7_save l X σ _ r25.2  r28 h29) g_X7_103 ⟨rfl, hd_X7_save⟩ ⟨by decide, by decide⟩ ⟨rfl, rfl⟩ (x_inO (by decide)) rfl rfl rfl rfl hl.1 rfl (Nat.le_of_ble_eq_true rfl) dX7_seek_39 ⟨Nat.zero_le _, Nat.zero_le _⟩) (fun H locs hI => ?_)
        refine lv_aload_n hx hb dX7_seek_42 rfl (lv_at hl 1 rfl) ?_
        refine xg_7_1 F hI (x_inO (by decide)) u_fl_X7_7 dX7_seek_43 ?_
        refine lv_iload_n hx hb dX7_seek_46 rfl (lv_at hl 2 rfl) ?_
        obtain ⟨r30, h31, h⟩ := x_bnd h
        have hI := x_toV 41 hI
        refine x_aci hI (x_runS (rest := []) F hI (mX7_goSeek l X σ r28 41 (x_inO (by decide)) (fun _ => rfl) _ (r28 41) a1 r30 h31) g_X7_106 hd_X7_goSeek ⟨by decide, by decide⟩ ⟨rfl, rfl⟩ rfl hl.1 rfl (Nat.le_of_ble_eq_true rfl) dX7_seek_47 ⟨Nat.zero_le _, Nat.zero_le _⟩) (fun H locs hI => ?_)
        obtain ⟨u32, e33⟩ : ∃ z : x_H, z = x_hs r28 41 r30.2 := ⟨_, rfl⟩
        rw [← e33] at hI
        have h := x_let_at h e33
        rw [x_some h]
        exact x_iret F hI dX7_seek_50
      · have h := x_iff h c27
        refine lv_iconst (v := 0) hx hb dX7_seek_36 (by decide) ?_
        rw [x_some h]
        exact x_iret F hI dX7_seek_37
  · have h := x_ift h c3
    refine lv_iconst (v := 1) hx hb dX7_seek_10 (by decide) ?_
    refine lv_goto (tgt := 30) hx hb dX7_seek_11 (by decide) ?_
    obtain ⟨r4, h5, h⟩ := x_bnd h
    refine x_aci hI (x_runV (rest := []) F hI (mX7_refused l X σ _ u (1 : Int32) r4 h5) g_X7_97 ⟨rfl, hd_X7_refused⟩ ⟨by decide, by decide⟩ ⟨rfl, rfl⟩ (x_inO (by decide)) rfl rfl rfl rfl hl.1 rfl (Nat.le_of_ble_eq_true rfl) dX7_seek_30 ⟨Nat.zero_le _, Nat.zero_le _⟩) (fun H locs hI => ?_)
    refine lv_if_eq (tgt := 38) hx hb dX7_seek_33 (by decide) (fun c6 => ?_) (fun c6 => ?_)
    · have h := x_ift h c6
      refine lv_aload_n hx hb dX7_seek_38 rfl (lv_at hl 1 rfl) ?_
      obtain ⟨r7, h8, h⟩ := x_bnd h
      refine x_acv hI (x_runV (rest := []) F hI (mX7_save l X σ _ r4.2  r7 h8) g_X7_103 ⟨rfl, hd_X7_save⟩ ⟨by decide, by decide⟩ ⟨rfl, rfl⟩ (x_inO (by decide)) rfl rfl rfl rfl hl.1 rfl (Nat.le_of_ble_eq_true rfl) dX7_seek_39 ⟨Nat.zero_le _, Nat.zero_le _⟩) (fun H locs hI => ?_)
      refine lv_aload_n hx hb dX7_seek_42 rfl (lv_at hl 1 rfl) ?_
      refine xg_7_1 F hI (x_inO (by decide)) u_fl_X7_7 dX7_seek_43 ?_
      refine lv_iload_n hx hb dX7_seek_46 rfl (lv_at hl 2 rfl) ?_
      obtain ⟨r9, h10, h⟩ := x_bnd h
      have hI := x_toV 41 hI
      refine x_aci hI (x_runS (rest := []) F hI (mX7_goSeek l X σ r7 41 (x_inO (by decide)) (fun _ => rfl) _ (r7 41) a1 r9 h10) g_X7_106 hd_X7_goSeek ⟨by decide, by decide⟩ ⟨rfl, rfl⟩ rfl hl.1 rfl (Nat.le_of_ble_eq_true rfl) dX7_seek_47 ⟨Nat.zero_le _, Nat.zero_le _⟩) (fun H locs hI => ?_)
      obtain ⟨u11, e12⟩ : ∃ z : x_H, z = x_hs r7 41 r9.2 := ⟨_, rfl⟩
      rw [← e12] at hI
      have h := x_let_at h e12
      rw [x_some h]
      exact x_iret F hI dX7_seek_50
    · have h := x_iff h c6
      refine lv_iconst (v := 0) hx hb dX7_seek_36 (by decide) ?_
      rw [x_some h]
      exact x_iret F hI dX7_seek_37
abbrev rm_X7_noHost : Room := { frames := 2, cells := 0, slots := 0, locals := 45 }
def fX7_noHost (u : x_H) (a1 : Int32) : Option (Int32 × x_H) := (Option.bind (fX7_isGuest a1) fun r1 => (if r1 = 0 then (Option.bind (fX7_refused u (1 : Int32)) fun r4 => if vp_nar .boolean r4.1 = r4.1 then some (r4.1, r4.2) else none) else (Option.bind (fX7_doing (u 41) a1) fun r6 => (if r6 = (3 : Int32) then (Option.bind (fX7_refused u (0 : Int32)) fun r9 => if vp_nar .boolean r9.1 = r9.1 then some (r9.1, r9.2) else none) else (Option.bind (fX7_refused u (2 : Int32)) fun r11 => if vp_nar .boolean r11.1 = r11.1 then some (r11.1, r11.2) else none)))))
set_option maxHeartbeats 4000000 in
set_option maxRecDepth 100000 in
theorem mX7_noHost (l : Launch) (X : x_T) (σ : x_S) (sz : Nat) (u : x_H) (a1 : Int32) (r : (Int32 × x_H)) (h : fX7_noHost u a1 = some r) : Met l yX7_noHost (x_ws yX7_noHost cX7_noHost 3 (some .boolean)) rm_X7_noHost (x_Pc X (x_sh σ 11 u) sz [.ref (X.2.2 11 40), .int a1]) (x_Qi X r.1 (x_sh σ 11 r.2) sz) 0 0 (x_A X sz) := by
  refine Met.ofW (cc := cX7_noHost) (maxL := 3) (ret := (some .boolean)) (by decide) rfl ?_
  intro p e s m args below meth c s₁ B hml hv
  obtain ⟨F, hI, rfl, rfl⟩ := x_begin B hml hv
  replace F : x_F p s m _ meth c cX7_noHost 3 RX7 (some .boolean) := F
  have hx := F.1
  have hb := F.2.1
  have hml := F.2.2.1
  have hown := F.2.2.2.1
  have hts := F.2.2.2.2.1
  refine x_entry (vs := [.ref (X.2.2 11 40), .int a1]) (n := 3) (Nat.le_of_ble_eq_true rfl) (fun ls hl => ?_)
  replace hl : lv_has ls 3 [(0, .ref (X.2.2 11 40)), (1, .int a1)] := hl
  unfold fX7_noHost at h
  refine lv_iload_n hx hb dX7_noHost_0 rfl (lv_at hl 1 rfl) ?_
  obtain ⟨r1, h2, h⟩ := x_bnd h
  refine x_aci hI (x_runS (rest := []) F hI (mX7_isGuest l X (x_sh σ 11 u) _ a1 r1 h2) g_X7_93 hd_X7_isGuest ⟨by decide, by decide⟩ ⟨rfl, rfl⟩ rfl hl.1 rfl (Nat.le_of_ble_eq_true rfl) dX7_noHost_1 ⟨Nat.zero_le _, Nat.zero_le _⟩) (fun H locs hI => ?_)
  refine lv_istore_n (lv' := [(2, .int r1), (0, .ref (X.2.2 11 40)), (1, .int a1)]) hx hb dX7_noHost_4 rfl hl (by decide) rfl (fun ls hl => ?_)
  refine lv_aload_n hx hb dX7_noHost_5 rfl (lv_at hl 1 rfl) ?_
  refine lv_iload_n hx hb dX7_noHost_6 rfl (lv_at hl 0 rfl) ?_
  refine lv_if_ne (tgt := 14) hx hb dX7_noHost_7 (by decide) (fun c3 => ?_) (fun c3 => ?_)
  · have h := x_iff h c3
    refine lv_aload_n hx hb dX7_noHost_14 rfl (lv_at hl 1 rfl) ?_
    refine xg_7_1 F hI (x_inO (by decide)) u_fl_X7_7 dX7_noHost_15 ?_
    refine lv_iload_n hx hb dX7_noHost_18 rfl (lv_at hl 2 rfl) ?_
    obtain ⟨r6, h7, h⟩ := x_bnd h
    have hI := x_toV 41 hI
    refine x_aci hI (x_runS (rest := [.ref (X.2.2 11 40)]) F hI (mX7_doing l X σ u 41 (x_inO (by decide)) (fun _ => rfl) _ (u 41) a1 r6 h7) g_X7_60 hd_X7_doing ⟨by decide, by decide⟩ ⟨rfl, rfl⟩ rfl hl.1 rfl (Nat.le_of_ble_eq_true rfl) dX7_noHost_19 ⟨Nat.zero_le _, Nat.zero_le _⟩) (fun H locs hI => ?_)
    rw [x_hs_self] at hI
    refine lv_iconst (v := 3) hx hb dX7_noHost_22 (by decide) ?_
    refine lv_icmp_eq (tgt := 30) hx hb dX7_noHost_23 (by decide) (fun c8 => ?_) (fun c8 => ?_)
    · have h := x_ift h c8
      refine lv_iconst (v := 0) hx hb dX7_noHost_30 (by decide) ?_
      obtain ⟨r9, h10, h⟩ := x_bnd h
      refine x_aci hI (x_runV (rest := []) F hI (mX7_refused l X σ _ u (0 : Int32) r9 h10) g_X7_97 ⟨rfl, hd_X7_refused⟩ ⟨by decide, by decide⟩ ⟨rfl, rfl⟩ (x_inO (by decide)) rfl rfl rfl rfl hl.1 rfl (Nat.le_of_ble_eq_true rfl) dX7_noHost_31 ⟨Nat.zero_le _, Nat.zero_le _⟩) (fun H locs hI => ?_)
      obtain ⟨g, h⟩ := x_chk h
      rw [x_some h]
      exact x_zret (v := r9.1) F hI g dX7_noHost_34
    · have h := x_iff h c8
      refine lv_iconst (v := 2) hx hb dX7_noHost_26 (by decide) ?_
      refine lv_goto (tgt := 31) hx hb dX7_noHost_27 (by decide) ?_
      obtain ⟨r11, h12, h⟩ := x_bnd h
      refine x_aci hI (x_runV (rest := []) F hI (mX7_refused l X σ _ u (2 : Int32) r11 h12) g_X7_97 ⟨rfl, hd_X7_refused⟩ ⟨by decide, by decide⟩ ⟨rfl, rfl⟩ (x_inO (by decide)) rfl rfl rfl rfl hl.1 rfl (Nat.le_of_ble_eq_true rfl) dX7_noHost_31 ⟨Nat.zero_le _, Nat.zero_le _⟩) (fun H locs hI => ?_)
      obtain ⟨g, h⟩ := x_chk h
      rw [x_some h]
      exact x_zret (v := r11.1) F hI g dX7_noHost_34
  · have h := x_ift h c3
    refine lv_iconst (v := 1) hx hb dX7_noHost_10 (by decide) ?_
    refine lv_goto (tgt := 31) hx hb dX7_noHost_11 (by decide) ?_
    obtain ⟨r4, h5, h⟩ := x_bnd h
    refine x_aci hI (x_runV (rest := []) F hI (mX7_refused l X σ _ u (1 : Int32) r4 h5) g_X7_97 ⟨rfl, hd_X7_refused⟩ ⟨by decide, by decide⟩ ⟨rfl, rfl⟩ (x_inO (by decide)) rfl rfl rfl rfl hl.1 rfl (Nat.le_of_ble_eq_true rfl) dX7_noHost_31 ⟨Nat.zero_le _, Nat.zero_le _⟩) (fun H locs hI => ?_)
    obtain ⟨g, h⟩ := x_chk h
    rw [x_some h]
    exact x_zret (v := r4.1) F hI g dX7_noHost_34
abbrev rm_X7_leave : Room := { frames := 3, cells := 0, slots := 0, locals := 67 }
def fX7_leave (u : x_H) (a1 : Int32) : Option (Int32 × x_H) := (Option.bind (fX7_noHost u a1) fun r1 => (if r1.1 = 0 then (Option.bind (fX7_save r1.2 ) fun r4 => (Option.bind (fX7_goLeave (r4 41) a1) fun r6 => x_let (x_hs r4 41 r6.2) fun u8 => some (r6.1, u8))) else some ((0 : Int32), r1.2)))
set_option maxHeartbeats 4000000 in
set_option maxRecDepth 100000 in
theorem mX7_leave (l : Launch) (X : x_T) (σ : x_S) (sz : Nat) (u : x_H) (a1 : Int32) (r : (Int32 × x_H)) (h : fX7_leave u a1 = some r) : Met l yX7_leave (x_ws yX7_leave cX7_leave 2 (some .int)) rm_X7_leave (x_Pc X (x_sh σ 11 u) sz [.ref (X.2.2 11 40), .int a1]) (x_Qi X r.1 (x_sh σ 11 r.2) sz) 0 0 (x_A X sz) := by
  refine Met.ofW (cc := cX7_leave) (maxL := 2) (ret := (some .int)) (by decide) rfl ?_
  intro p e s m args below meth c s₁ B hml hv
  obtain ⟨F, hI, rfl, rfl⟩ := x_begin B hml hv
  replace F : x_F p s m _ meth c cX7_leave 2 RX7 (some .int) := F
  have hx := F.1
  have hb := F.2.1
  have hml := F.2.2.1
  have hown := F.2.2.2.1
  have hts := F.2.2.2.2.1
  refine x_entry (vs := [.ref (X.2.2 11 40), .int a1]) (n := 2) (Nat.le_of_ble_eq_true rfl) (fun ls hl => ?_)
  replace hl : lv_has ls 2 [(0, .ref (X.2.2 11 40)), (1, .int a1)] := hl
  unfold fX7_leave at h
  refine lv_aload_n hx hb dX7_leave_0 rfl (lv_at hl 0 rfl) ?_
  refine lv_iload_n hx hb dX7_leave_1 rfl (lv_at hl 1 rfl) ?_
  obtain ⟨r1, h2, h⟩ := x_bnd h
  refine x_aci hI (x_runV (rest := []) F hI (mX7_noHost l X σ _ u a1 r1 h2) g_X7_109 ⟨rfl, hd_X7_noHost⟩ ⟨by decide, by decide⟩ ⟨rfl, rfl⟩ (x_inO (by decide)) rfl rfl rfl rfl hl.1 rfl (Nat.le_of_ble_eq_true rfl) dX7_leave_2 ⟨Nat.zero_le _, Nat.zero_le _⟩) (fun H locs hI => ?_)
  refine lv_if_eq (tgt := 10) hx hb dX7_leave_5 (by decide) (fun c3 => ?_) (fun c3 => ?_)
  · have h := x_ift h c3
    refine lv_aload_n hx hb dX7_leave_10 rfl (lv_at hl 0 rfl) ?_
    obtain ⟨r4, h5, h⟩ := x_bnd h
    refine x_acv hI (x_runV (rest := []) F hI (mX7_save l X σ _ r1.2  r4 h5) g_X7_103 ⟨rfl, hd_X7_save⟩ ⟨by decide, by decide⟩ ⟨rfl, rfl⟩ (x_inO (by decide)) rfl rfl rfl rfl hl.1 rfl (Nat.le_of_ble_eq_true rfl) dX7_leave_11 ⟨Nat.zero_le _, Nat.zero_le _⟩) (fun H locs hI => ?_)
    refine lv_aload_n hx hb dX7_leave_14 rfl (lv_at hl 0 rfl) ?_
    refine xg_7_1 F hI (x_inO (by decide)) u_fl_X7_7 dX7_leave_15 ?_
    refine lv_iload_n hx hb dX7_leave_18 rfl (lv_at hl 1 rfl) ?_
    obtain ⟨r6, h7, h⟩ := x_bnd h
    have hI := x_toV 41 hI
    refine x_aci hI (x_runS (rest := []) F hI (mX7_goLeave l X σ r4 41 (x_inO (by decide)) (fun _ => rfl) _ (r4 41) a1 r6 h7) g_X7_112 hd_X7_goLeave ⟨by decide, by decide⟩ ⟨rfl, rfl⟩ rfl hl.1 rfl (Nat.le_of_ble_eq_true rfl) dX7_leave_19 ⟨Nat.zero_le _, Nat.zero_le _⟩) (fun H locs hI => ?_)
    obtain ⟨u8, e9⟩ : ∃ z : x_H, z = x_hs r4 41 r6.2 := ⟨_, rfl⟩
    rw [← e9] at hI
    have h := x_let_at h e9
    rw [x_some h]
    exact x_iret F hI dX7_leave_22
  · have h := x_iff h c3
    refine lv_iconst (v := 0) hx hb dX7_leave_8 (by decide) ?_
    rw [x_some h]
    exact x_iret F hI dX7_leave_9
abbrev rm_X7_giveUp : Room := { frames := 2, cells := 0, slots := 0, locals := 45 }
def fX7_giveUp_j38 (u : x_H) (y1 : Int32) (z0 : Int32) : Option (Int32 × x_H) := (Option.bind (fX7_refused u z0) fun r9 => (if r9.1 = 0 then (Option.bind (fX7_save r9.2 ) fun r12 => (Option.bind (fX7_doing (r12 41) y1) fun r14 => (if x_in ((8 : Int32) * y1) 570 then x_let (x_hu r12 41 (Int32.toNatClampNeg ((8 : Int32) * y1)) (0 : Int32)) fun u16 => some (r14, u16) else none))) else some ((0 : Int32), r9.2)))
set_option maxHeartbeats 4000000 in
set_option maxRecDepth 100000 in
theorem wX7_giveUp_j38 {p : Program} {l : Launch} {e : Env} {s : State} {m : MethodId} {args : Array Value} {below : List Frame} {meth : Method} {c : Code} {X : x_T} {σ : x_S} {r : (Int32 × x_H)} (F : x_F p s m args meth c cX7_giveUp 4 RX7 (some .int)) (u : x_H) (y1 : Int32) (z0 : Int32) (H : Heap) (locs : List Loc) (ls : Array Slot) (h : fX7_giveUp_j38 u y1 z0 = some r) (hI : x_I X (x_sh σ 11 u) s H locs) (hl : lv_has ls 4 [(0, .ref (X.2.2 11 40)), (1, .int y1)]) : W p l e rm_X7_giveUp s m args below meth c H locs 0 0 (MQ below (x_Qi X r.1 (x_sh σ 11 r.2) s.heap.size) args s 0 0 (x_A X s.heap.size)) (F0 m 38 ls [.int z0, .ref (X.2.2 11 40)]) := by
  have hx := F.1
  have hb := F.2.1
  have hml := F.2.2.1
  have hown := F.2.2.2.1
  have hts := F.2.2.2.2.1
  unfold fX7_giveUp_j38 at h
  obtain ⟨r9, h10, h⟩ := x_bnd h
  refine x_aci hI (x_runV (rest := []) F hI (mX7_refused l X σ _ u z0 r9 h10) g_X7_97 ⟨rfl, hd_X7_refused⟩ ⟨by decide, by decide⟩ ⟨rfl, rfl⟩ (x_inO (by decide)) rfl rfl rfl rfl hl.1 rfl (Nat.le_of_ble_eq_true rfl) dX7_giveUp_38 ⟨Nat.zero_le _, Nat.zero_le _⟩) (fun H locs hI => ?_)
  refine lv_if_eq (tgt := 46) hx hb dX7_giveUp_41 (by decide) (fun c11 => ?_) (fun c11 => ?_)
  · have h := x_ift h c11
    refine lv_aload_n hx hb dX7_giveUp_46 rfl (lv_at hl 0 rfl) ?_
    obtain ⟨r12, h13, h⟩ := x_bnd h
    refine x_acv hI (x_runV (rest := []) F hI (mX7_save l X σ _ r9.2  r12 h13) g_X7_103 ⟨rfl, hd_X7_save⟩ ⟨by decide, by decide⟩ ⟨rfl, rfl⟩ (x_inO (by decide)) rfl rfl rfl rfl hl.1 rfl (Nat.le_of_ble_eq_true rfl) dX7_giveUp_47 ⟨Nat.zero_le _, Nat.zero_le _⟩) (fun H locs hI => ?_)
    refine lv_aload_n hx hb dX7_giveUp_50 rfl (lv_at hl 0 rfl) ?_
    refine xg_7_1 F hI (x_inO (by decide)) u_fl_X7_7 dX7_giveUp_51 ?_
    refine lv_iload_n hx hb dX7_giveUp_54 rfl (lv_at hl 1 rfl) ?_
    obtain ⟨r14, h15, h⟩ := x_bnd h
    have hI := x_toV 41 hI
    refine x_aci hI (x_runS (rest := []) F hI (mX7_doing l X σ r12 41 (x_inO (by decide)) (fun _ => rfl) _ (r12 41) y1 r14 h15) g_X7_60 hd_X7_doing ⟨by decide, by decide⟩ ⟨rfl, rfl⟩ rfl hl.1 rfl (Nat.le_of_ble_eq_true rfl) dX7_giveUp_55 ⟨Nat.zero_le _, Nat.zero_le _⟩) (fun H locs hI => ?_)
    rw [x_hs_self] at hI
    refine lv_istore_n (lv' := [(3, .int r14), (0, .ref (X.2.2 11 40)), (1, .int y1)]) hx hb dX7_giveUp_58 rfl hl (by decide) rfl (fun ls hl => ?_)
    refine lv_aload_n hx hb dX7_giveUp_59 rfl (lv_at hl 1 rfl) ?_
    refine xg_7_1 F hI (x_inO (by decide)) u_fl_X7_7 dX7_giveUp_60 ?_
    refine lv_bipush (v := 8) hx hb dX7_giveUp_63 (by decide) ?_
    refine lv_iload_n hx hb dX7_giveUp_65 rfl (lv_at hl 2 rfl) ?_
    refine lv_imul hx hb dX7_giveUp_66 ?_
    refine lv_iconst (v := 0) hx hb dX7_giveUp_67 (by decide) ?_
    obtain ⟨g18, h⟩ := x_chk h
    refine xh_iast (n := 570) F hI (x_inO (by decide)) (fun _ => rfl) g18 dX7_giveUp_68 (fun H locs u16 e17 hI => ?_)
    have h := x_let_at h e17
    refine lv_iload_n hx hb dX7_giveUp_69 rfl (lv_at hl 0 rfl) ?_
    rw [x_some h]
    exact x_iret F hI dX7_giveUp_70
  · have h := x_iff h c11
    refine lv_iconst (v := 0) hx hb dX7_giveUp_44 (by decide) ?_
    rw [x_some h]
    exact x_iret F hI dX7_giveUp_45
def fX7_giveUp (u : x_H) (a1 : Int32) : Option (Int32 × x_H) := (Option.bind (fX7_isGuest a1) fun r1 => (if r1 = 0 then fX7_giveUp_j38 u a1 (1 : Int32) else (Option.bind (fX7_doing (u 41) a1) fun r4 => (Option.bind (fX7_in r4.toInt64 (1 : Int64) (2 : Int64)) fun r6 => (if r6 = 0 then fX7_giveUp_j38 u a1 (2 : Int32) else fX7_giveUp_j38 u a1 (0 : Int32))))))
set_option maxHeartbeats 4000000 in
set_option maxRecDepth 100000 in
theorem mX7_giveUp (l : Launch) (X : x_T) (σ : x_S) (sz : Nat) (u : x_H) (a1 : Int32) (r : (Int32 × x_H)) (h : fX7_giveUp u a1 = some r) : Met l yX7_giveUp (x_ws yX7_giveUp cX7_giveUp 4 (some .int)) rm_X7_giveUp (x_Pc X (x_sh σ 11 u) sz [.ref (X.2.2 11 40), .int a1]) (x_Qi X r.1 (x_sh σ 11 r.2) sz) 0 0 (x_A X sz) := by
  refine Met.ofW (cc := cX7_giveUp) (maxL := 4) (ret := (some .int)) (by decide) rfl ?_
  intro p e s m args below meth c s₁ B hml hv
  obtain ⟨F, hI, rfl, rfl⟩ := x_begin B hml hv
  replace F : x_F p s m _ meth c cX7_giveUp 4 RX7 (some .int) := F
  have hx := F.1
  have hb := F.2.1
  have hml := F.2.2.1
  have hown := F.2.2.2.1
  have hts := F.2.2.2.2.1
  refine x_entry (vs := [.ref (X.2.2 11 40), .int a1]) (n := 4) (Nat.le_of_ble_eq_true rfl) (fun ls hl => ?_)
  replace hl : lv_has ls 4 [(0, .ref (X.2.2 11 40)), (1, .int a1)] := hl
  unfold fX7_giveUp at h
  refine lv_iload_n hx hb dX7_giveUp_0 rfl (lv_at hl 1 rfl) ?_
  obtain ⟨r1, h2, h⟩ := x_bnd h
  refine x_aci hI (x_runS (rest := []) F hI (mX7_isGuest l X (x_sh σ 11 u) _ a1 r1 h2) g_X7_93 hd_X7_isGuest ⟨by decide, by decide⟩ ⟨rfl, rfl⟩ rfl hl.1 rfl (Nat.le_of_ble_eq_true rfl) dX7_giveUp_1 ⟨Nat.zero_le _, Nat.zero_le _⟩) (fun H locs hI => ?_)
  refine lv_istore_n (lv' := [(2, .int r1), (0, .ref (X.2.2 11 40)), (1, .int a1)]) hx hb dX7_giveUp_4 rfl hl (by decide) rfl (fun ls hl => ?_)
  refine lv_aload_n hx hb dX7_giveUp_5 rfl (lv_at hl 1 rfl) ?_
  refine lv_iload_n hx hb dX7_giveUp_6 rfl (lv_at hl 0 rfl) ?_
  refine lv_if_ne (tgt := 14) hx hb dX7_giveUp_7 (by decide) (fun c3 => ?_) (fun c3 => ?_)
  · have h := x_iff h c3
    refine lv_aload_n hx hb dX7_giveUp_14 rfl (lv_at hl 1 rfl) ?_
    refine xg_7_1 F hI (x_inO (by decide)) u_fl_X7_7 dX7_giveUp_15 ?_
    refine lv_iload_n hx hb dX7_giveUp_18 rfl (lv_at hl 2 rfl) ?_
    obtain ⟨r4, h5, h⟩ := x_bnd h
    have hI := x_toV 41 hI
    refine x_aci hI (x_runS (rest := [.ref (X.2.2 11 40)]) F hI (mX7_doing l X σ u 41 (x_inO (by decide)) (fun _ => rfl) _ (u 41) a1 r4 h5) g_X7_60 hd_X7_doing ⟨by decide, by decide⟩ ⟨rfl, rfl⟩ rfl hl.1 rfl (Nat.le_of_ble_eq_true rfl) dX7_giveUp_19 ⟨Nat.zero_le _, Nat.zero_le _⟩) (fun H locs hI => ?_)
    rw [x_hs_self] at hI
    refine lv_i2l hx hb dX7_giveUp_22 rfl ?_
    refine lv_lconst (v := 1) hx hb dX7_giveUp_23 (by decide) ?_
    refine lv_ldc2 (v := 2) hx hb hown (hts _ u_cl_X7_115) dX7_giveUp_24 ?_
    obtain ⟨r6, h7, h⟩ := x_bnd h
    refine x_aci hI (x_runS (rest := [.ref (X.2.2 11 40)]) F hI (mX7_in l X (x_sh σ 11 u) _ r4.toInt64 (1 : Int64) (2 : Int64) r6 h7) g_X7_35 hd_X7_in ⟨by decide, by decide⟩ ⟨rfl, rfl⟩ rfl hl.1 rfl (Nat.le_of_ble_eq_true rfl) dX7_giveUp_27 ⟨Nat.zero_le _, Nat.zero_le _⟩) (fun H locs hI => ?_)
    refine lv_if_ne (tgt := 37) hx hb dX7_giveUp_30 (by decide) (fun c8 => ?_) (fun c8 => ?_)
    · have h := x_iff h c8
      refine lv_iconst (v := 0) hx hb dX7_giveUp_37 (by decide) ?_
      exact wX7_giveUp_j38 F u a1 (0 : Int32) _ _ _ h hI (lv_sub hl [1, 2] rfl)
    · have h := x_ift h c8
      refine lv_iconst (v := 2) hx hb dX7_giveUp_33 (by decide) ?_
      refine lv_goto (tgt := 38) hx hb dX7_giveUp_34 (by decide) ?_
      exact wX7_giveUp_j38 F u a1 (2 : Int32) _ _ _ h hI (lv_sub hl [1, 2] rfl)
  · have h := x_ift h c3
    refine lv_iconst (v := 1) hx hb dX7_giveUp_10 (by decide) ?_
    refine lv_goto (tgt := 38) hx hb dX7_giveUp_11 (by decide) ?_
    exact wX7_giveUp_j38 F u a1 (1 : Int32) _ _ _ h hI (lv_sub hl [1, 2] rfl)
abbrev rm_X7_renew : Room := { frames := 3, cells := 0, slots := 0, locals := 67 }
def fX7_renew (u : x_H) (a1 : Int32) : Option (Int32 × x_H) := (Option.bind (fX7_noHost u a1) fun r1 => (if r1.1 = 0 then (Option.bind (fX7_save r1.2 ) fun r4 => (Option.bind (fX7_want (r4 41) a1) fun r6 => x_let (x_hs r4 41 r6) fun u8 => some ((u8 41 (Int32.toNatClampNeg (552 : Int32))), u8))) else some ((0 : Int32), r1.2)))
set_option maxHeartbeats 4000000 in
set_option maxRecDepth 100000 in
theorem mX7_renew (l : Launch) (X : x_T) (σ : x_S) (sz : Nat) (u : x_H) (a1 : Int32) (r : (Int32 × x_H)) (h : fX7_renew u a1 = some r) : Met l yX7_renew (x_ws yX7_renew cX7_renew 2 (some .int)) rm_X7_renew (x_Pc X (x_sh σ 11 u) sz [.ref (X.2.2 11 40), .int a1]) (x_Qi X r.1 (x_sh σ 11 r.2) sz) 0 0 (x_A X sz) := by
  refine Met.ofW (cc := cX7_renew) (maxL := 2) (ret := (some .int)) (by decide) rfl ?_
  intro p e s m args below meth c s₁ B hml hv
  obtain ⟨F, hI, rfl, rfl⟩ := x_begin B hml hv
  replace F : x_F p s m _ meth c cX7_renew 2 RX7 (some .int) := F
  have hx := F.1
  have hb := F.2.1
  have hml := F.2.2.1
  have hown := F.2.2.2.1
  have hts := F.2.2.2.2.1
  refine x_entry (vs := [.ref (X.2.2 11 40), .int a1]) (n := 2) (Nat.le_of_ble_eq_true rfl) (fun ls hl => ?_)
  replace hl : lv_has ls 2 [(0, .ref (X.2.2 11 40)), (1, .int a1)] := hl
  unfold fX7_renew at h
  refine lv_aload_n hx hb dX7_renew_0 rfl (lv_at hl 0 rfl) ?_
  refine lv_iload_n hx hb dX7_renew_1 rfl (lv_at hl 1 rfl) ?_
  obtain ⟨r1, h2, h⟩ := x_bnd h
  refine x_aci hI (x_runV (rest := []) F hI (mX7_noHost l X σ _ u a1 r1 h2) g_X7_109 ⟨rfl, hd_X7_noHost⟩ ⟨by decide, by decide⟩ ⟨rfl, rfl⟩ (x_inO (by decide)) rfl rfl rfl rfl hl.1 rfl (Nat.le_of_ble_eq_true rfl) dX7_renew_2 ⟨Nat.zero_le _, Nat.zero_le _⟩) (fun H locs hI => ?_)
  refine lv_if_eq (tgt := 10) hx hb dX7_renew_5 (by decide) (fun c3 => ?_) (fun c3 => ?_)
  · have h := x_ift h c3
    refine lv_aload_n hx hb dX7_renew_10 rfl (lv_at hl 0 rfl) ?_
    obtain ⟨r4, h5, h⟩ := x_bnd h
    refine x_acv hI (x_runV (rest := []) F hI (mX7_save l X σ _ r1.2  r4 h5) g_X7_103 ⟨rfl, hd_X7_save⟩ ⟨by decide, by decide⟩ ⟨rfl, rfl⟩ (x_inO (by decide)) rfl rfl rfl rfl hl.1 rfl (Nat.le_of_ble_eq_true rfl) dX7_renew_11 ⟨Nat.zero_le _, Nat.zero_le _⟩) (fun H locs hI => ?_)
    refine lv_aload_n hx hb dX7_renew_14 rfl (lv_at hl 0 rfl) ?_
    refine xg_7_1 F hI (x_inO (by decide)) u_fl_X7_7 dX7_renew_15 ?_
    refine lv_iload_n hx hb dX7_renew_18 rfl (lv_at hl 1 rfl) ?_
    obtain ⟨r6, h7, h⟩ := x_bnd h
    have hI := x_toV 41 hI
    refine x_acv hI (x_runS (rest := []) F hI (mX7_want l X σ r4 41 (x_inO (by decide)) (fun _ => rfl) _ (r4 41) a1 r6 h7) g_X7_70 hd_X7_want ⟨by decide, by decide⟩ ⟨rfl, rfl⟩ rfl hl.1 rfl (Nat.le_of_ble_eq_true rfl) dX7_renew_19 ⟨Nat.zero_le _, Nat.zero_le _⟩) (fun H locs hI => ?_)
    obtain ⟨u8, e9⟩ : ∃ z : x_H, z = x_hs r4 41 r6 := ⟨_, rfl⟩
    rw [← e9] at hI
    have h := x_let_at h e9
    refine lv_aload_n hx hb dX7_renew_22 rfl (lv_at hl 0 rfl) ?_
    refine xg_7_1 F hI (x_inO (by decide)) u_fl_X7_7 dX7_renew_23 ?_
    refine lv_sipush (v := 552) hx hb dX7_renew_26 (by decide) ?_
    refine xh_iald (n := 570) F hI (x_inO (by decide)) (fun _ => rfl) (by decide) dX7_renew_29 ?_
    rw [x_some h]
    exact x_iret F hI dX7_renew_30
  · have h := x_iff h c3
    refine lv_iconst (v := 0) hx hb dX7_renew_8 (by decide) ?_
    rw [x_some h]
    exact x_iret F hI dX7_renew_9
abbrev rm_X7_keptFor : Room := { frames := 0, cells := 0, slots := 0, locals := 0 }
def fX7_keptFor_b2 : Nat → x_H → Int32 → Int32 → Option Int32
  | 0, _, _, _ => none
  | n + 1, u, y1, y2 => (if (16 : Int32) ≤ y2 then some (-1 : Int32) else (if x_in (((96 : Int32) + ((6 : Int32) * y2)) + (4 : Int32)) 570 then (if (u 41 (Int32.toNatClampNeg (((96 : Int32) + ((6 : Int32) * y2)) + (4 : Int32)))) = (y1 + (1 : Int32)) then some (y2) else x_let (y2 + (1 : Int32)) fun x4 => fX7_keptFor_b2 n u y1 x4) else none))
set_option maxHeartbeats 4000000 in
set_option maxRecDepth 100000 in
theorem wX7_keptFor_b2 {p : Program} {l : Launch} {e : Env} {s : State} {m : MethodId} {args : Array Value} {below : List Frame} {meth : Method} {c : Code} {X : x_T} {σ : x_S} {r : Int32} (F : x_F p s m args meth c cX7_keptFor 3 RX7 (some .int)) : ∀ (n : Nat) (u : x_H) (y1 : Int32) (y2 : Int32) (H : Heap) (locs : List Loc) (ls : Array Slot), fX7_keptFor_b2 n u y1 y2 = some r → x_I X (x_sh σ 11 u) s H locs → lv_has ls 3 [(0, .ref (X.2.2 11 40)), (1, .int y1), (2, .int y2)] → W p l e rm_X7_keptFor s m args below meth c H locs 0 0 (MQ below (x_Qi X r (x_sh σ 11 u) s.heap.size) args s 0 0 (x_A X s.heap.size)) (F0 m 2 ls []) := by
  have hx := F.1
  have hb := F.2.1
  have hml := F.2.2.1
  have hown := F.2.2.2.1
  have hts := F.2.2.2.2.1
  intro n
  induction n with
  | zero =>
    intro u y1 y2 H locs ls h
    rw [fX7_keptFor_b2] at h
    cases h
  | succ n ih =>
    intro u y1 y2 H locs ls h hI hl
    rw [fX7_keptFor_b2] at h
    refine lv_iload_n hx hb dX7_keptFor_2 rfl (lv_at hl 2 rfl) ?_
    refine lv_bipush (v := 16) hx hb dX7_keptFor_3 (by decide) ?_
    refine lv_icmp_ge (tgt := 36) hx hb dX7_keptFor_5 (by decide) (fun c1 => ?_) (fun c1 => ?_)
    · have h := x_ift h c1
      refine lv_iconst (v := (-1)) hx hb dX7_keptFor_36 (by decide) ?_
      rw [x_some h]
      exact x_iret F hI dX7_keptFor_37
    · have h := x_iff h c1
      refine lv_aload_n hx hb dX7_keptFor_8 rfl (lv_at hl 0 rfl) ?_
      refine xg_7_1 F hI (x_inO (by decide)) u_fl_X7_7 dX7_keptFor_9 ?_
      refine lv_bipush (v := 96) hx hb dX7_keptFor_12 (by decide) ?_
      refine lv_bipush (v := 6) hx hb dX7_keptFor_14 (by decide) ?_
      refine lv_iload_n hx hb dX7_keptFor_16 rfl (lv_at hl 2 rfl) ?_
      refine lv_imul hx hb dX7_keptFor_17 ?_
      refine lv_iadd hx hb dX7_keptFor_18 ?_
      refine lv_iconst (v := 4) hx hb dX7_keptFor_19 (by decide) ?_
      refine lv_iadd hx hb dX7_keptFor_20 ?_
      obtain ⟨g2, h⟩ := x_chk h
      refine xh_iald (n := 570) F hI (x_inO (by decide)) (fun _ => rfl) g2 dX7_keptFor_21 ?_
      refine lv_iload_n hx hb dX7_keptFor_22 rfl (lv_at hl 1 rfl) ?_
      refine lv_iconst (v := 1) hx hb dX7_keptFor_23 (by decide) ?_
      refine lv_iadd hx hb dX7_keptFor_24 ?_
      refine lv_icmp_ne (tgt := 30) hx hb dX7_keptFor_25 (by decide) (fun c3 => ?_) (fun c3 => ?_)
      · have h := x_iff h c3
        obtain ⟨x4, e5⟩ : ∃ z : Int32, z = (y2 + (1 : Int32)) := ⟨_, rfl⟩
        have h := x_let_at h e5
        refine lv_iinc (v := x4) (lv' := [(2, .int x4), (0, .ref (X.2.2 11 40)), (1, .int y1)]) hx hb dX7_keptFor_30 hl (k := 2) rfl (by rw [e5]; rfl) (by decide) rfl (fun ls hl => ?_)
        refine lv_goto (tgt := 2) hx hb dX7_keptFor_33 (by decide) ?_
        exact ih u y1 x4 _ _ _ h hI (lv_sub hl [1, 2, 0] rfl)
      · have h := x_ift h c3
        refine lv_iload_n hx hb dX7_keptFor_28 rfl (lv_at hl 2 rfl) ?_
        rw [x_some h]
        exact x_iret F hI dX7_keptFor_29
def fX7_keptFor (u : x_H) (a1 : Int32) : Option Int32 := fX7_keptFor_b2 400 u a1 (0 : Int32)
set_option maxHeartbeats 4000000 in
set_option maxRecDepth 100000 in
theorem mX7_keptFor (l : Launch) (X : x_T) (σ : x_S) (sz : Nat) (u : x_H) (a1 : Int32) (r : Int32) (h : fX7_keptFor u a1 = some r) : Met l yX7_keptFor (x_ws yX7_keptFor cX7_keptFor 3 (some .int)) rm_X7_keptFor (x_Pc X (x_sh σ 11 u) sz [.ref (X.2.2 11 40), .int a1]) (x_Qi X r (x_sh σ 11 u) sz) 0 0 (x_A X sz) := by
  refine Met.ofW (cc := cX7_keptFor) (maxL := 3) (ret := (some .int)) (by decide) rfl ?_
  intro p e s m args below meth c s₁ B hml hv
  obtain ⟨F, hI, rfl, rfl⟩ := x_begin B hml hv
  replace F : x_F p s m _ meth c cX7_keptFor 3 RX7 (some .int) := F
  have hx := F.1
  have hb := F.2.1
  have hml := F.2.2.1
  have hown := F.2.2.2.1
  have hts := F.2.2.2.2.1
  refine x_entry (vs := [.ref (X.2.2 11 40), .int a1]) (n := 3) (Nat.le_of_ble_eq_true rfl) (fun ls hl => ?_)
  replace hl : lv_has ls 3 [(0, .ref (X.2.2 11 40)), (1, .int a1)] := hl
  unfold fX7_keptFor at h
  refine lv_iconst (v := 0) hx hb dX7_keptFor_0 (by decide) ?_
  refine lv_istore_n (lv' := [(2, .int (0)), (0, .ref (X.2.2 11 40)), (1, .int a1)]) hx hb dX7_keptFor_1 rfl hl (by decide) rfl (fun ls hl => ?_)
  exact wX7_keptFor_b2 F 400 u a1 (0 : Int32) _ _ _ h hI (lv_sub hl [1, 2, 0] rfl)
abbrev rm_X7_reserve : Room := { frames := 2, cells := 0, slots := 0, locals := 45 }
def fX7_reserve_j91 (u : x_H) (y1 : Int32) (y2 : Int32) : Option x_H := (if x_in (((96 : Int32) + ((6 : Int32) * y2)) + (4 : Int32)) 570 then x_let (x_hu u 41 (Int32.toNatClampNeg (((96 : Int32) + ((6 : Int32) * y2)) + (4 : Int32))) (y1 + (1 : Int32))) fun u21 => some (u21) else none)
set_option maxHeartbeats 4000000 in
set_option maxRecDepth 100000 in
theorem wX7_reserve_j91 {p : Program} {l : Launch} {e : Env} {s : State} {m : MethodId} {args : Array Value} {below : List Frame} {meth : Method} {c : Code} {X : x_T} {σ : x_S} {r : x_H} (F : x_F p s m args meth c cX7_reserve 5 RX7 none) (u : x_H) (y1 : Int32) (y2 : Int32) (H : Heap) (locs : List Loc) (ls : Array Slot) (h : fX7_reserve_j91 u y1 y2 = some r) (hI : x_I X (x_sh σ 11 u) s H locs) (hl : lv_has ls 5 [(0, .ref (X.2.2 11 40)), (1, .int y1), (2, .int y2)]) : W p l e rm_X7_reserve s m args below meth c H locs 0 0 (MQ below (x_Qv X (x_sh σ 11 r) s.heap.size) args s 0 0 (x_A X s.heap.size)) (F0 m 91 ls []) := by
  have hx := F.1
  have hb := F.2.1
  have hml := F.2.2.1
  have hown := F.2.2.2.1
  have hts := F.2.2.2.2.1
  unfold fX7_reserve_j91 at h
  refine lv_aload_n hx hb dX7_reserve_91 rfl (lv_at hl 0 rfl) ?_
  refine xg_7_1 F hI (x_inO (by decide)) u_fl_X7_7 dX7_reserve_92 ?_
  refine lv_bipush (v := 96) hx hb dX7_reserve_95 (by decide) ?_
  refine lv_bipush (v := 6) hx hb dX7_reserve_97 (by decide) ?_
  refine lv_iload_n hx hb dX7_reserve_99 rfl (lv_at hl 2 rfl) ?_
  refine lv_imul hx hb dX7_reserve_100 ?_
  refine lv_iadd hx hb dX7_reserve_101 ?_
  refine lv_iconst (v := 4) hx hb dX7_reserve_102 (by decide) ?_
  refine lv_iadd hx hb dX7_reserve_103 ?_
  refine lv_iload_n hx hb dX7_reserve_104 rfl (lv_at hl 1 rfl) ?_
  refine lv_iconst (v := 1) hx hb dX7_reserve_105 (by decide) ?_
  refine lv_iadd hx hb dX7_reserve_106 ?_
  obtain ⟨g23, h⟩ := x_chk h
  refine xh_iast (n := 570) F hI (x_inO (by decide)) (fun _ => rfl) g23 dX7_reserve_107 (fun H locs u21 e22 hI => ?_)
  have h := x_let_at h e22
  rw [x_some h]
  exact x_vret F hI dX7_reserve_108
def fX7_reserve_j51 (u : x_H) (y1 : Int32) (y2 : Int32) (z0 : Int32) : Option x_H := (Option.bind (fX7_refused u z0) fun r10 => (if r10.1 = 0 then (Option.bind (fX7_save r10.2 ) fun r13 => (Option.bind (fX7_keptFor r13 y1) fun r15 => (if r15 = (-1 : Int32) then fX7_reserve_j91 r13 y1 y2 else (if x_in (((96 : Int32) + ((6 : Int32) * r15)) + (4 : Int32)) 570 then x_let (x_hu r13 41 (Int32.toNatClampNeg (((96 : Int32) + ((6 : Int32) * r15)) + (4 : Int32))) (0 : Int32)) fun u18 => fX7_reserve_j91 u18 y1 y2 else none)))) else some (r10.2)))
set_option maxHeartbeats 4000000 in
set_option maxRecDepth 100000 in
theorem wX7_reserve_j51 {p : Program} {l : Launch} {e : Env} {s : State} {m : MethodId} {args : Array Value} {below : List Frame} {meth : Method} {c : Code} {X : x_T} {σ : x_S} {r : x_H} (F : x_F p s m args meth c cX7_reserve 5 RX7 none) (u : x_H) (y1 : Int32) (y2 : Int32) (z0 : Int32) (H : Heap) (locs : List Loc) (ls : Array Slot) (h : fX7_reserve_j51 u y1 y2 z0 = some r) (hI : x_I X (x_sh σ 11 u) s H locs) (hl : lv_has ls 5 [(0, .ref (X.2.2 11 40)), (1, .int y1), (2, .int y2)]) : W p l e rm_X7_reserve s m args below meth c H locs 0 0 (MQ below (x_Qv X (x_sh σ 11 r) s.heap.size) args s 0 0 (x_A X s.heap.size)) (F0 m 51 ls [.int z0, .ref (X.2.2 11 40)]) := by
  have hx := F.1
  have hb := F.2.1
  have hml := F.2.2.1
  have hown := F.2.2.2.1
  have hts := F.2.2.2.2.1
  unfold fX7_reserve_j51 at h
  obtain ⟨r10, h11, h⟩ := x_bnd h
  refine x_aci hI (x_runV (rest := []) F hI (mX7_refused l X σ _ u z0 r10 h11) g_X7_97 ⟨rfl, hd_X7_refused⟩ ⟨by decide, by decide⟩ ⟨rfl, rfl⟩ (x_inO (by decide)) rfl rfl rfl rfl hl.1 rfl (Nat.le_of_ble_eq_true rfl) dX7_reserve_51 ⟨Nat.zero_le _, Nat.zero_le _⟩) (fun H locs hI => ?_)
  refine lv_if_eq (tgt := 58) hx hb dX7_reserve_54 (by decide) (fun c12 => ?_) (fun c12 => ?_)
  · have h := x_ift h c12
    refine lv_aload_n hx hb dX7_reserve_58 rfl (lv_at hl 0 rfl) ?_
    obtain ⟨r13, h14, h⟩ := x_bnd h
    refine x_acv hI (x_runV (rest := []) F hI (mX7_save l X σ _ r10.2  r13 h14) g_X7_103 ⟨rfl, hd_X7_save⟩ ⟨by decide, by decide⟩ ⟨rfl, rfl⟩ (x_inO (by decide)) rfl rfl rfl rfl hl.1 rfl (Nat.le_of_ble_eq_true rfl) dX7_reserve_59 ⟨Nat.zero_le _, Nat.zero_le _⟩) (fun H locs hI => ?_)
    refine lv_aload_n hx hb dX7_reserve_62 rfl (lv_at hl 0 rfl) ?_
    refine lv_iload_n hx hb dX7_reserve_63 rfl (lv_at hl 1 rfl) ?_
    obtain ⟨r15, h16, h⟩ := x_bnd h
    refine x_aci hI (x_runV (rest := []) F hI (mX7_keptFor l X σ _ r13 y1 r15 h16) g_X7_117 ⟨rfl, hd_X7_keptFor⟩ ⟨by decide, by decide⟩ ⟨rfl, rfl⟩ (x_inO (by decide)) rfl rfl rfl rfl hl.1 rfl (Nat.le_of_ble_eq_true rfl) dX7_reserve_64 ⟨Nat.zero_le _, Nat.zero_le _⟩) (fun H locs hI => ?_)
    refine lv_istore (lv' := [(4, .int r15), (0, .ref (X.2.2 11 40)), (1, .int y1), (2, .int y2)]) hx hb dX7_reserve_67 hl (by decide) rfl (fun ls hl => ?_)
    refine lv_iload hx hb dX7_reserve_69 (lv_at hl 0 rfl) ?_
    refine lv_iconst (v := (-1)) hx hb dX7_reserve_71 (by decide) ?_
    refine lv_icmp_eq (tgt := 91) hx hb dX7_reserve_72 (by decide) (fun c17 => ?_) (fun c17 => ?_)
    · have h := x_ift h c17
      exact wX7_reserve_j91 F r13 y1 y2 _ _ _ h hI (lv_sub hl [1, 2, 3] rfl)
    · have h := x_iff h c17
      refine lv_aload_n hx hb dX7_reserve_75 rfl (lv_at hl 1 rfl) ?_
      refine xg_7_1 F hI (x_inO (by decide)) u_fl_X7_7 dX7_reserve_76 ?_
      refine lv_bipush (v := 96) hx hb dX7_reserve_79 (by decide) ?_
      refine lv_bipush (v := 6) hx hb dX7_reserve_81 (by decide) ?_
      refine lv_iload hx hb dX7_reserve_83 (lv_at hl 0 rfl) ?_
      refine lv_imul hx hb dX7_reserve_85 ?_
      refine lv_iadd hx hb dX7_reserve_86 ?_
      refine lv_iconst (v := 4) hx hb dX7_reserve_87 (by decide) ?_
      refine lv_iadd hx hb dX7_reserve_88 ?_
      refine lv_iconst (v := 0) hx hb dX7_reserve_89 (by decide) ?_
      obtain ⟨g20, h⟩ := x_chk h
      refine xh_iast (n := 570) F hI (x_inO (by decide)) (fun _ => rfl) g20 dX7_reserve_90 (fun H locs u18 e19 hI => ?_)
      have h := x_let_at h e19
      exact wX7_reserve_j91 F u18 y1 y2 _ _ _ h hI (lv_sub hl [1, 2, 3] rfl)
  · have h := x_iff h c12
    rw [x_some h]
    exact x_vret F hI dX7_reserve_57
def fX7_reserve_j19 (u : x_H) (y1 : Int32) (y2 : Int32) (z0 : Int32) : Option x_H := (if z0 = 0 then fX7_reserve_j51 u y1 y2 (1 : Int32) else (if x_in (((96 : Int32) + ((6 : Int32) * y2)) + (4 : Int32)) 570 then (if (u 41 (Int32.toNatClampNeg (((96 : Int32) + ((6 : Int32) * y2)) + (4 : Int32)))) ≤ 0 then fX7_reserve_j51 u y1 y2 (0 : Int32) else fX7_reserve_j51 u y1 y2 (2 : Int32)) else none))
set_option maxHeartbeats 4000000 in
set_option maxRecDepth 100000 in
theorem wX7_reserve_j19 {p : Program} {l : Launch} {e : Env} {s : State} {m : MethodId} {args : Array Value} {below : List Frame} {meth : Method} {c : Code} {X : x_T} {σ : x_S} {r : x_H} (F : x_F p s m args meth c cX7_reserve 5 RX7 none) (u : x_H) (y1 : Int32) (y2 : Int32) (z0 : Int32) (H : Heap) (locs : List Loc) (ls : Array Slot) (h : fX7_reserve_j19 u y1 y2 z0 = some r) (hI : x_I X (x_sh σ 11 u) s H locs) (hl : lv_has ls 5 [(0, .ref (X.2.2 11 40)), (1, .int y1), (2, .int y2)]) : W p l e rm_X7_reserve s m args below meth c H locs 0 0 (MQ below (x_Qv X (x_sh σ 11 r) s.heap.size) args s 0 0 (x_A X s.heap.size)) (F0 m 19 ls [.int z0]) := by
  have hx := F.1
  have hb := F.2.1
  have hml := F.2.2.1
  have hown := F.2.2.2.1
  have hts := F.2.2.2.2.1
  unfold fX7_reserve_j19 at h
  refine lv_istore_n (lv' := [(3, .int z0), (0, .ref (X.2.2 11 40)), (1, .int y1), (2, .int y2)]) hx hb dX7_reserve_19 rfl hl (by decide) rfl (fun ls hl => ?_)
  refine lv_aload_n hx hb dX7_reserve_20 rfl (lv_at hl 1 rfl) ?_
  refine lv_iload_n hx hb dX7_reserve_21 rfl (lv_at hl 0 rfl) ?_
  refine lv_if_ne (tgt := 29) hx hb dX7_reserve_22 (by decide) (fun c7 => ?_) (fun c7 => ?_)
  · have h := x_iff h c7
    refine lv_aload_n hx hb dX7_reserve_29 rfl (lv_at hl 1 rfl) ?_
    refine xg_7_1 F hI (x_inO (by decide)) u_fl_X7_7 dX7_reserve_30 ?_
    refine lv_bipush (v := 96) hx hb dX7_reserve_33 (by decide) ?_
    refine lv_bipush (v := 6) hx hb dX7_reserve_35 (by decide) ?_
    refine lv_iload_n hx hb dX7_reserve_37 rfl (lv_at hl 3 rfl) ?_
    refine lv_imul hx hb dX7_reserve_38 ?_
    refine lv_iadd hx hb dX7_reserve_39 ?_
    refine lv_iconst (v := 4) hx hb dX7_reserve_40 (by decide) ?_
    refine lv_iadd hx hb dX7_reserve_41 ?_
    obtain ⟨g8, h⟩ := x_chk h
    refine xh_iald (n := 570) F hI (x_inO (by decide)) (fun _ => rfl) g8 dX7_reserve_42 ?_
    refine lv_if_le (tgt := 50) hx hb dX7_reserve_43 (by decide) (fun c9 => ?_) (fun c9 => ?_)
    · have h := x_ift h c9
      refine lv_iconst (v := 0) hx hb dX7_reserve_50 (by decide) ?_
      exact wX7_reserve_j51 F u y1 y2 (0 : Int32) _ _ _ h hI (lv_sub hl [1, 2, 3] rfl)
    · have h := x_iff h c9
      refine lv_iconst (v := 2) hx hb dX7_reserve_46 (by decide) ?_
      refine lv_goto (tgt := 51) hx hb dX7_reserve_47 (by decide) ?_
      exact wX7_reserve_j51 F u y1 y2 (2 : Int32) _ _ _ h hI (lv_sub hl [1, 2, 3] rfl)
  · have h := x_ift h c7
    refine lv_iconst (v := 1) hx hb dX7_reserve_25 (by decide) ?_
    refine lv_goto (tgt := 51) hx hb dX7_reserve_26 (by decide) ?_
    exact wX7_reserve_j51 F u y1 y2 (1 : Int32) _ _ _ h hI (lv_sub hl [1, 2, 3] rfl)
def fX7_reserve_j18 (u : x_H) (y1 : Int32) (y2 : Int32) : Option x_H := fX7_reserve_j19 u y1 y2 (0 : Int32)
set_option maxHeartbeats 4000000 in
set_option maxRecDepth 100000 in
theorem wX7_reserve_j18 {p : Program} {l : Launch} {e : Env} {s : State} {m : MethodId} {args : Array Value} {below : List Frame} {meth : Method} {c : Code} {X : x_T} {σ : x_S} {r : x_H} (F : x_F p s m args meth c cX7_reserve 5 RX7 none) (u : x_H) (y1 : Int32) (y2 : Int32) (H : Heap) (locs : List Loc) (ls : Array Slot) (h : fX7_reserve_j18 u y1 y2 = some r) (hI : x_I X (x_sh σ 11 u) s H locs) (hl : lv_has ls 5 [(0, .ref (X.2.2 11 40)), (1, .int y1), (2, .int y2)]) : W p l e rm_X7_reserve s m args below meth c H locs 0 0 (MQ below (x_Qv X (x_sh σ 11 r) s.heap.size) args s 0 0 (x_A X s.heap.size)) (F0 m 18 ls []) := by
  have hx := F.1
  have hb := F.2.1
  have hml := F.2.2.1
  have hown := F.2.2.2.1
  have hts := F.2.2.2.2.1
  unfold fX7_reserve_j18 at h
  refine lv_iconst (v := 0) hx hb dX7_reserve_18 (by decide) ?_
  exact wX7_reserve_j19 F u y1 y2 (0 : Int32) _ _ _ h hI (lv_sub hl [0, 1, 2] rfl)
def fX7_reserve (u : x_H) (a1 : Int32) (a2 : Int32) : Option x_H := (Option.bind (fX7_isGuest a1) fun r1 => (if r1 = 0 then fX7_reserve_j18 u a1 a2 else (Option.bind (fX7_isRoom a2) fun r4 => (if r4 = 0 then fX7_reserve_j18 u a1 a2 else fX7_reserve_j19 u a1 a2 (1 : Int32)))))
set_option maxHeartbeats 4000000 in
set_option maxRecDepth 100000 in
theorem mX7_reserve (l : Launch) (X : x_T) (σ : x_S) (sz : Nat) (u : x_H) (a1 : Int32) (a2 : Int32) (r : x_H) (h : fX7_reserve u a1 a2 = some r) : Met l yX7_reserve (x_ws yX7_reserve cX7_reserve 5 none) rm_X7_reserve (x_Pc X (x_sh σ 11 u) sz [.ref (X.2.2 11 40), .int a1, .int a2]) (x_Qv X (x_sh σ 11 r) sz) 0 0 (x_A X sz) := by
  refine Met.ofW (cc := cX7_reserve) (maxL := 5) (ret := none) (by decide) rfl ?_
  intro p e s m args below meth c s₁ B hml hv
  obtain ⟨F, hI, rfl, rfl⟩ := x_begin B hml hv
  replace F : x_F p s m _ meth c cX7_reserve 5 RX7 none := F
  have hx := F.1
  have hb := F.2.1
  have hml := F.2.2.1
  have hown := F.2.2.2.1
  have hts := F.2.2.2.2.1
  refine x_entry (vs := [.ref (X.2.2 11 40), .int a1, .int a2]) (n := 5) (Nat.le_of_ble_eq_true rfl) (fun ls hl => ?_)
  replace hl : lv_has ls 5 [(0, .ref (X.2.2 11 40)), (1, .int a1), (2, .int a2)] := hl
  unfold fX7_reserve at h
  refine lv_iload_n hx hb dX7_reserve_0 rfl (lv_at hl 1 rfl) ?_
  obtain ⟨r1, h2, h⟩ := x_bnd h
  refine x_aci hI (x_runS (rest := []) F hI (mX7_isGuest l X (x_sh σ 11 u) _ a1 r1 h2) g_X7_93 hd_X7_isGuest ⟨by decide, by decide⟩ ⟨rfl, rfl⟩ rfl hl.1 rfl (Nat.le_of_ble_eq_true rfl) dX7_reserve_1 ⟨Nat.zero_le _, Nat.zero_le _⟩) (fun H locs hI => ?_)
  refine lv_if_eq (tgt := 18) hx hb dX7_reserve_4 (by decide) (fun c3 => ?_) (fun c3 => ?_)
  · have h := x_ift h c3
    exact wX7_reserve_j18 F u a1 a2 _ _ _ h hI (lv_sub hl [0, 1, 2] rfl)
  · have h := x_iff h c3
    refine lv_iload_n hx hb dX7_reserve_7 rfl (lv_at hl 2 rfl) ?_
    obtain ⟨r4, h5, h⟩ := x_bnd h
    refine x_aci hI (x_runS (rest := []) F hI (mX7_isRoom l X (x_sh σ 11 u) _ a2 r4 h5) g_X7_100 hd_X7_isRoom ⟨by decide, by decide⟩ ⟨rfl, rfl⟩ rfl hl.1 rfl (Nat.le_of_ble_eq_true rfl) dX7_reserve_8 ⟨Nat.zero_le _, Nat.zero_le _⟩) (fun H locs hI => ?_)
    refine lv_if_eq (tgt := 18) hx hb dX7_reserve_11 (by decide) (fun c6 => ?_) (fun c6 => ?_)
    · have h := x_ift h c6
      exact wX7_reserve_j18 F u a1 a2 _ _ _ h hI (lv_sub hl [0, 1, 2] rfl)
    · have h := x_iff h c6
      refine lv_iconst (v := 1) hx hb dX7_reserve_14 (by decide) ?_
      refine lv_goto (tgt := 19) hx hb dX7_reserve_15 (by decide) ?_
      exact wX7_reserve_j19 F u a1 a2 (1 : Int32) _ _ _ h hI (lv_sub hl [0, 1, 2] rfl)
abbrev rm_X7_unreserve : Room := { frames := 2, cells := 0, slots := 0, locals := 45 }
def fX7_unreserve_j28 (u : x_H) (y1 : Int32) (z0 : Int32) : Option (Int32 × x_H) := (Option.bind (fX7_refused u z0) fun r7 => (if r7.1 = 0 then (Option.bind (fX7_save r7.2 ) fun r10 => (Option.bind (fX7_keptFor r10 y1) fun r12 => (if x_in (((96 : Int32) + ((6 : Int32) * r12)) + (4 : Int32)) 570 then x_let (x_hu r10 41 (Int32.toNatClampNeg (((96 : Int32) + ((6 : Int32) * r12)) + (4 : Int32))) (0 : Int32)) fun u14 => some (r12, u14) else none))) else some ((0 : Int32), r7.2)))
set_option maxHeartbeats 4000000 in
set_option maxRecDepth 100000 in
theorem wX7_unreserve_j28 {p : Program} {l : Launch} {e : Env} {s : State} {m : MethodId} {args : Array Value} {below : List Frame} {meth : Method} {c : Code} {X : x_T} {σ : x_S} {r : (Int32 × x_H)} (F : x_F p s m args meth c cX7_unreserve 4 RX7 (some .int)) (u : x_H) (y1 : Int32) (z0 : Int32) (H : Heap) (locs : List Loc) (ls : Array Slot) (h : fX7_unreserve_j28 u y1 z0 = some r) (hI : x_I X (x_sh σ 11 u) s H locs) (hl : lv_has ls 4 [(0, .ref (X.2.2 11 40)), (1, .int y1)]) : W p l e rm_X7_unreserve s m args below meth c H locs 0 0 (MQ below (x_Qi X r.1 (x_sh σ 11 r.2) s.heap.size) args s 0 0 (x_A X s.heap.size)) (F0 m 28 ls [.int z0, .ref (X.2.2 11 40)]) := by
  have hx := F.1
  have hb := F.2.1
  have hml := F.2.2.1
  have hown := F.2.2.2.1
  have hts := F.2.2.2.2.1
  unfold fX7_unreserve_j28 at h
  obtain ⟨r7, h8, h⟩ := x_bnd h
  refine x_aci hI (x_runV (rest := []) F hI (mX7_refused l X σ _ u z0 r7 h8) g_X7_97 ⟨rfl, hd_X7_refused⟩ ⟨by decide, by decide⟩ ⟨rfl, rfl⟩ (x_inO (by decide)) rfl rfl rfl rfl hl.1 rfl (Nat.le_of_ble_eq_true rfl) dX7_unreserve_28 ⟨Nat.zero_le _, Nat.zero_le _⟩) (fun H locs hI => ?_)
  refine lv_if_eq (tgt := 36) hx hb dX7_unreserve_31 (by decide) (fun c9 => ?_) (fun c9 => ?_)
  · have h := x_ift h c9
    refine lv_aload_n hx hb dX7_unreserve_36 rfl (lv_at hl 0 rfl) ?_
    obtain ⟨r10, h11, h⟩ := x_bnd h
    refine x_acv hI (x_runV (rest := []) F hI (mX7_save l X σ _ r7.2  r10 h11) g_X7_103 ⟨rfl, hd_X7_save⟩ ⟨by decide, by decide⟩ ⟨rfl, rfl⟩ (x_inO (by decide)) rfl rfl rfl rfl hl.1 rfl (Nat.le_of_ble_eq_true rfl) dX7_unreserve_37 ⟨Nat.zero_le _, Nat.zero_le _⟩) (fun H locs hI => ?_)
    refine lv_aload_n hx hb dX7_unreserve_40 rfl (lv_at hl 0 rfl) ?_
    refine lv_iload_n hx hb dX7_unreserve_41 rfl (lv_at hl 1 rfl) ?_
    obtain ⟨r12, h13, h⟩ := x_bnd h
    refine x_aci hI (x_runV (rest := []) F hI (mX7_keptFor l X σ _ r10 y1 r12 h13) g_X7_117 ⟨rfl, hd_X7_keptFor⟩ ⟨by decide, by decide⟩ ⟨rfl, rfl⟩ (x_inO (by decide)) rfl rfl rfl rfl hl.1 rfl (Nat.le_of_ble_eq_true rfl) dX7_unreserve_42 ⟨Nat.zero_le _, Nat.zero_le _⟩) (fun H locs hI => ?_)
    refine lv_istore_n (lv' := [(3, .int r12), (0, .ref (X.2.2 11 40)), (1, .int y1)]) hx hb dX7_unreserve_45 rfl hl (by decide) rfl (fun ls hl => ?_)
    refine lv_aload_n hx hb dX7_unreserve_46 rfl (lv_at hl 1 rfl) ?_
    refine xg_7_1 F hI (x_inO (by decide)) u_fl_X7_7 dX7_unreserve_47 ?_
    refine lv_bipush (v := 96) hx hb dX7_unreserve_50 (by decide) ?_
    refine lv_bipush (v := 6) hx hb dX7_unreserve_52 (by decide) ?_
    refine lv_iload_n hx hb dX7_unreserve_54 rfl (lv_at hl 0 rfl) ?_
    refine lv_imul hx hb dX7_unreserve_55 ?_
    refine lv_iadd hx hb dX7_unreserve_56 ?_
    refine lv_iconst (v := 4) hx hb dX7_unreserve_57 (by decide) ?_
    refine lv_iadd hx hb dX7_unreserve_58 ?_
    refine lv_iconst (v := 0) hx hb dX7_unreserve_59 (by decide) ?_
    obtain ⟨g16, h⟩ := x_chk h
    refine xh_iast (n := 570) F hI (x_inO (by decide)) (fun _ => rfl) g16 dX7_unreserve_60 (fun H locs u14 e15 hI => ?_)
    have h := x_let_at h e15
    refine lv_iload_n hx hb dX7_unreserve_61 rfl (lv_at hl 0 rfl) ?_
    rw [x_some h]
    exact x_iret F hI dX7_unreserve_62
  · have h := x_iff h c9
    refine lv_iconst (v := 0) hx hb dX7_unreserve_34 (by decide) ?_
    rw [x_some h]
    exact x_iret F hI dX7_unreserve_35
def fX7_unreserve (u : x_H) (a1 : Int32) : Option (Int32 × x_H) := (Option.bind (fX7_isGuest a1) fun r1 => (if r1 = 0 then fX7_unreserve_j28 u a1 (1 : Int32) else (Option.bind (fX7_keptFor u a1) fun r4 => (if r4 = (-1 : Int32) then fX7_unreserve_j28 u a1 (2 : Int32) else fX7_unreserve_j28 u a1 (0 : Int32)))))
set_option maxHeartbeats 4000000 in
set_option maxRecDepth 100000 in
theorem mX7_unreserve (l : Launch) (X : x_T) (σ : x_S) (sz : Nat) (u : x_H) (a1 : Int32) (r : (Int32 × x_H)) (h : fX7_unreserve u a1 = some r) : Met l yX7_unreserve (x_ws yX7_unreserve cX7_unreserve 4 (some .int)) rm_X7_unreserve (x_Pc X (x_sh σ 11 u) sz [.ref (X.2.2 11 40), .int a1]) (x_Qi X r.1 (x_sh σ 11 r.2) sz) 0 0 (x_A X sz) := by
  refine Met.ofW (cc := cX7_unreserve) (maxL := 4) (ret := (some .int)) (by decide) rfl ?_
  intro p e s m args below meth c s₁ B hml hv
  obtain ⟨F, hI, rfl, rfl⟩ := x_begin B hml hv
  replace F : x_F p s m _ meth c cX7_unreserve 4 RX7 (some .int) := F
  have hx := F.1
  have hb := F.2.1
  have hml := F.2.2.1
  have hown := F.2.2.2.1
  have hts := F.2.2.2.2.1
  refine x_entry (vs := [.ref (X.2.2 11 40), .int a1]) (n := 4) (Nat.le_of_ble_eq_true rfl) (fun ls hl => ?_)
  replace hl : lv_has ls 4 [(0, .ref (X.2.2 11 40)), (1, .int a1)] := hl
  unfold fX7_unreserve at h
  refine lv_iload_n hx hb dX7_unreserve_0 rfl (lv_at hl 1 rfl) ?_
  obtain ⟨r1, h2, h⟩ := x_bnd h
  refine x_aci hI (x_runS (rest := []) F hI (mX7_isGuest l X (x_sh σ 11 u) _ a1 r1 h2) g_X7_93 hd_X7_isGuest ⟨by decide, by decide⟩ ⟨rfl, rfl⟩ rfl hl.1 rfl (Nat.le_of_ble_eq_true rfl) dX7_unreserve_1 ⟨Nat.zero_le _, Nat.zero_le _⟩) (fun H locs hI => ?_)
  refine lv_istore_n (lv' := [(2, .int r1), (0, .ref (X.2.2 11 40)), (1, .int a1)]) hx hb dX7_unreserve_4 rfl hl (by decide) rfl (fun ls hl => ?_)
  refine lv_aload_n hx hb dX7_unreserve_5 rfl (lv_at hl 1 rfl) ?_
  refine lv_iload_n hx hb dX7_unreserve_6 rfl (lv_at hl 0 rfl) ?_
  refine lv_if_ne (tgt := 14) hx hb dX7_unreserve_7 (by decide) (fun c3 => ?_) (fun c3 => ?_)
  · have h := x_iff h c3
    refine lv_aload_n hx hb dX7_unreserve_14 rfl (lv_at hl 1 rfl) ?_
    refine lv_iload_n hx hb dX7_unreserve_15 rfl (lv_at hl 2 rfl) ?_
    obtain ⟨r4, h5, h⟩ := x_bnd h
    refine x_aci hI (x_runV (rest := [.ref (X.2.2 11 40)]) F hI (mX7_keptFor l X σ _ u a1 r4 h5) g_X7_117 ⟨rfl, hd_X7_keptFor⟩ ⟨by decide, by decide⟩ ⟨rfl, rfl⟩ (x_inO (by decide)) rfl rfl rfl rfl hl.1 rfl (Nat.le_of_ble_eq_true rfl) dX7_unreserve_16 ⟨Nat.zero_le _, Nat.zero_le _⟩) (fun H locs hI => ?_)
    refine lv_iconst (v := (-1)) hx hb dX7_unreserve_19 (by decide) ?_
    refine lv_icmp_ne (tgt := 27) hx hb dX7_unreserve_20 (by decide) (fun c6 => ?_) (fun c6 => ?_)
    · have h := x_iff h c6
      refine lv_iconst (v := 0) hx hb dX7_unreserve_27 (by decide) ?_
      exact wX7_unreserve_j28 F u a1 (0 : Int32) _ _ _ h hI (lv_sub hl [1, 2] rfl)
    · have h := x_ift h c6
      refine lv_iconst (v := 2) hx hb dX7_unreserve_23 (by decide) ?_
      refine lv_goto (tgt := 28) hx hb dX7_unreserve_24 (by decide) ?_
      exact wX7_unreserve_j28 F u a1 (2 : Int32) _ _ _ h hI (lv_sub hl [1, 2] rfl)
  · have h := x_ift h c3
    refine lv_iconst (v := 1) hx hb dX7_unreserve_10 (by decide) ?_
    refine lv_goto (tgt := 28) hx hb dX7_unreserve_11 (by decide) ?_
    exact wX7_unreserve_j28 F u a1 (1 : Int32) _ _ _ h hI (lv_sub hl [1, 2] rfl)
abbrev rm_X7_turnGhost : Room := { frames := 3, cells := 0, slots := 0, locals := 66 }
def fX7_turnGhost (u : x_H) (a1 : Int32) : Option (Int32 × x_H) := (Option.bind (fX7_noRoom u a1) fun r1 => (if r1.1 = 0 then (Option.bind (fX7_save r1.2 ) fun r4 => (if x_in (((96 : Int32) + ((6 : Int32) * a1)) + (5 : Int32)) 570 then x_let (x_hu r4 41 (Int32.toNatClampNeg (((96 : Int32) + ((6 : Int32) * a1)) + (5 : Int32))) ((1 : Int32) - (r4 41 (Int32.toNatClampNeg (((96 : Int32) + ((6 : Int32) * a1)) + (5 : Int32)))))) fun u7 => (if (u7 41 (Int32.toNatClampNeg (((96 : Int32) + ((6 : Int32) * a1)) + (5 : Int32)))) = (1 : Int32) then some ((1 : Int32), u7) else some ((0 : Int32), u7)) else none)) else some ((0 : Int32), r1.2)))
set_option maxHeartbeats 4000000 in
set_option maxRecDepth 100000 in
theorem mX7_turnGhost (l : Launch) (X : x_T) (σ : x_S) (sz : Nat) (u : x_H) (a1 : Int32) (r : (Int32 × x_H)) (h : fX7_turnGhost u a1 = some r) : Met l yX7_turnGhost (x_ws yX7_turnGhost cX7_turnGhost 2 (some .boolean)) rm_X7_turnGhost (x_Pc X (x_sh σ 11 u) sz [.ref (X.2.2 11 40), .int a1]) (x_Qi X r.1 (x_sh σ 11 r.2) sz) 0 0 (x_A X sz) := by
  refine Met.ofW (cc := cX7_turnGhost) (maxL := 2) (ret := (some .boolean)) (by decide) rfl ?_
  intro p e s m args below meth c s₁ B hml hv
  obtain ⟨F, hI, rfl, rfl⟩ := x_begin B hml hv
  replace F : x_F p s m _ meth c cX7_turnGhost 2 RX7 (some .boolean) := F
  have hx := F.1
  have hb := F.2.1
  have hml := F.2.2.1
  have hown := F.2.2.2.1
  have hts := F.2.2.2.2.1
  refine x_entry (vs := [.ref (X.2.2 11 40), .int a1]) (n := 2) (Nat.le_of_ble_eq_true rfl) (fun ls hl => ?_)
  replace hl : lv_has ls 2 [(0, .ref (X.2.2 11 40)), (1, .int a1)] := hl
  unfold fX7_turnGhost at h
  refine lv_aload_n hx hb dX7_turnGhost_0 rfl (lv_at hl 0 rfl) ?_
  refine lv_iload_n hx hb dX7_turnGhost_1 rfl (lv_at hl 1 rfl) ?_
  obtain ⟨r1, h2, h⟩ := x_bnd h
  refine x_aci hI (x_runV (rest := []) F hI (mX7_noRoom l X σ _ u a1 r1 h2) g_X7_121 ⟨rfl, hd_X7_noRoom⟩ ⟨by decide, by decide⟩ ⟨rfl, rfl⟩ (x_inO (by decide)) rfl rfl rfl rfl hl.1 rfl (Nat.le_of_ble_eq_true rfl) dX7_turnGhost_2 ⟨Nat.zero_le _, Nat.zero_le _⟩) (fun H locs hI => ?_)
  refine lv_if_eq (tgt := 10) hx hb dX7_turnGhost_5 (by decide) (fun c3 => ?_) (fun c3 => ?_)
  · have h := x_ift h c3
    refine lv_aload_n hx hb dX7_turnGhost_10 rfl (lv_at hl 0 rfl) ?_
    obtain ⟨r4, h5, h⟩ := x_bnd h
    refine x_acv hI (x_runV (rest := []) F hI (mX7_save l X σ _ r1.2  r4 h5) g_X7_103 ⟨rfl, hd_X7_save⟩ ⟨by decide, by decide⟩ ⟨rfl, rfl⟩ (x_inO (by decide)) rfl rfl rfl rfl hl.1 rfl (Nat.le_of_ble_eq_true rfl) dX7_turnGhost_11 ⟨Nat.zero_le _, Nat.zero_le _⟩) (fun H locs hI => ?_)
    refine lv_aload_n hx hb dX7_turnGhost_14 rfl (lv_at hl 0 rfl) ?_
    refine xg_7_1 F hI (x_inO (by decide)) u_fl_X7_7 dX7_turnGhost_15 ?_
    refine lv_bipush (v := 96) hx hb dX7_turnGhost_18 (by decide) ?_
    refine lv_bipush (v := 6) hx hb dX7_turnGhost_20 (by decide) ?_
    refine lv_iload_n hx hb dX7_turnGhost_22 rfl (lv_at hl 1 rfl) ?_
    refine lv_imul hx hb dX7_turnGhost_23 ?_
    refine lv_iadd hx hb dX7_turnGhost_24 ?_
    refine lv_iconst (v := 5) hx hb dX7_turnGhost_25 (by decide) ?_
    refine lv_iadd hx hb dX7_turnGhost_26 ?_
    refine lv_iconst (v := 1) hx hb dX7_turnGhost_27 (by decide) ?_
    refine lv_aload_n hx hb dX7_turnGhost_28 rfl (lv_at hl 0 rfl) ?_
    refine xg_7_1 F hI (x_inO (by decide)) u_fl_X7_7 dX7_turnGhost_29 ?_
    refine lv_bipush (v := 96) hx hb dX7_turnGhost_32 (by decide) ?_
    refine lv_bipush (v := 6) hx hb dX7_turnGhost_34 (by decide) ?_
    refine lv_iload_n hx hb dX7_turnGhost_36 rfl (lv_at hl 1 rfl) ?_
    refine lv_imul hx hb dX7_turnGhost_37 ?_
    refine lv_iadd hx hb dX7_turnGhost_38 ?_
    refine lv_iconst (v := 5) hx hb dX7_turnGhost_39 (by decide) ?_
    refine lv_iadd hx hb dX7_turnGhost_40 ?_
    obtain ⟨g6, h⟩ := x_chk h
    refine xh_iald (n := 570) F hI (x_inO (by decide)) (fun _ => rfl) g6 dX7_turnGhost_41 ?_
    refine lv_isub hx hb dX7_turnGhost_42 ?_
    refine xh_iast (n := 570) F hI (x_inO (by decide)) (fun _ => rfl) g6 dX7_turnGhost_43 (fun H locs u7 e8 hI => ?_)
    have h := x_let_at h e8
    refine lv_aload_n hx hb dX7_turnGhost_44 rfl (lv_at hl 0 rfl) ?_
    refine xg_7_1 F hI (x_inO (by decide)) u_fl_X7_7 dX7_turnGhost_45 ?_
    refine lv_bipush (v := 96) hx hb dX7_turnGhost_48 (by decide) ?_
    refine lv_bipush (v := 6) hx hb dX7_turnGhost_50 (by decide) ?_
    refine lv_iload_n hx hb dX7_turnGhost_52 rfl (lv_at hl 1 rfl) ?_
    refine lv_imul hx hb dX7_turnGhost_53 ?_
    refine lv_iadd hx hb dX7_turnGhost_54 ?_
    refine lv_iconst (v := 5) hx hb dX7_turnGhost_55 (by decide) ?_
    refine lv_iadd hx hb dX7_turnGhost_56 ?_
    refine xh_iald (n := 570) F hI (x_inO (by decide)) (fun _ => rfl) g6 dX7_turnGhost_57 ?_
    refine lv_iconst (v := 1) hx hb dX7_turnGhost_58 (by decide) ?_
    refine lv_icmp_ne (tgt := 66) hx hb dX7_turnGhost_59 (by decide) (fun c9 => ?_) (fun c9 => ?_)
    · have h := x_iff h c9
      refine lv_iconst (v := 0) hx hb dX7_turnGhost_66 (by decide) ?_
      rw [x_some h]
      exact x_zret (v := 0) F hI (by decide) dX7_turnGhost_67
    · have h := x_ift h c9
      refine lv_iconst (v := 1) hx hb dX7_turnGhost_62 (by decide) ?_
      refine lv_goto (tgt := 67) hx hb dX7_turnGhost_63 (by decide) ?_
      rw [x_some h]
      exact x_zret (v := 1) F hI (by decide) dX7_turnGhost_67
  · have h := x_iff h c3
    refine lv_iconst (v := 0) hx hb dX7_turnGhost_8 (by decide) ?_
    rw [x_some h]
    exact x_zret (v := 0) F hI (by decide) dX7_turnGhost_9
abbrev rm_X7_change : Room := { frames := 1, cells := 0, slots := 0, locals := 25 }
def fX7_change_j19 (u : x_H) (y1 : Int32) (y2 : Int32) (z0 : Int32) : Option (Int32 × x_H) := (Option.bind (fX7_refused u z0) fun r4 => (if r4.1 = 0 then (Option.bind (fX7_save r4.2 ) fun r7 => (if x_in y1 570 then x_let (r7 41 (Int32.toNatClampNeg y1)) fun x10 => x_let (x_hu r7 41 (Int32.toNatClampNeg y1) y2) fun u12 => some (x10, u12) else none)) else some ((0 : Int32), r4.2)))
set_option maxHeartbeats 4000000 in
set_option maxRecDepth 100000 in
theorem wX7_change_j19 {p : Program} {l : Launch} {e : Env} {s : State} {m : MethodId} {args : Array Value} {below : List Frame} {meth : Method} {c : Code} {X : x_T} {σ : x_S} {r : (Int32 × x_H)} (F : x_F p s m args meth c cX7_change 6 RX7 (some .int)) (u : x_H) (y1 : Int32) (y2 : Int32) (z0 : Int32) (H : Heap) (locs : List Loc) (ls : Array Slot) (h : fX7_change_j19 u y1 y2 z0 = some r) (hI : x_I X (x_sh σ 11 u) s H locs) (hl : lv_has ls 6 [(0, .ref (X.2.2 11 40)), (1, .int y1), (2, .int y2)]) : W p l e rm_X7_change s m args below meth c H locs 0 0 (MQ below (x_Qi X r.1 (x_sh σ 11 r.2) s.heap.size) args s 0 0 (x_A X s.heap.size)) (F0 m 19 ls [.int z0, .ref (X.2.2 11 40)]) := by
  have hx := F.1
  have hb := F.2.1
  have hml := F.2.2.1
  have hown := F.2.2.2.1
  have hts := F.2.2.2.2.1
  unfold fX7_change_j19 at h
  obtain ⟨r4, h5, h⟩ := x_bnd h
  refine x_aci hI (x_runV (rest := []) F hI (mX7_refused l X σ _ u z0 r4 h5) g_X7_97 ⟨rfl, hd_X7_refused⟩ ⟨by decide, by decide⟩ ⟨rfl, rfl⟩ (x_inO (by decide)) rfl rfl rfl rfl hl.1 rfl (Nat.le_of_ble_eq_true rfl) dX7_change_19 ⟨Nat.zero_le _, Nat.zero_le _⟩) (fun H locs hI => ?_)
  refine lv_if_eq (tgt := 27) hx hb dX7_change_22 (by decide) (fun c6 => ?_) (fun c6 => ?_)
  · have h := x_ift h c6
    refine lv_aload_n hx hb dX7_change_27 rfl (lv_at hl 0 rfl) ?_
    obtain ⟨r7, h8, h⟩ := x_bnd h
    refine x_acv hI (x_runV (rest := []) F hI (mX7_save l X σ _ r4.2  r7 h8) g_X7_103 ⟨rfl, hd_X7_save⟩ ⟨by decide, by decide⟩ ⟨rfl, rfl⟩ (x_inO (by decide)) rfl rfl rfl rfl hl.1 rfl (Nat.le_of_ble_eq_true rfl) dX7_change_28 ⟨Nat.zero_le _, Nat.zero_le _⟩) (fun H locs hI => ?_)
    refine lv_aload_n hx hb dX7_change_31 rfl (lv_at hl 0 rfl) ?_
    refine xg_7_1 F hI (x_inO (by decide)) u_fl_X7_7 dX7_change_32 ?_
    refine lv_iload_n hx hb dX7_change_35 rfl (lv_at hl 1 rfl) ?_
    obtain ⟨g9, h⟩ := x_chk h
    refine xh_iald (n := 570) F hI (x_inO (by decide)) (fun _ => rfl) g9 dX7_change_36 ?_
    refine lv_topi (fun x10 e11 => ?_)
    have h := x_let_at h e11
    refine lv_istore (lv' := [(5, .int x10), (0, .ref (X.2.2 11 40)), (1, .int y1), (2, .int y2)]) hx hb dX7_change_37 hl (by decide) rfl (fun ls hl => ?_)
    refine lv_aload_n hx hb dX7_change_39 rfl (lv_at hl 1 rfl) ?_
    refine xg_7_1 F hI (x_inO (by decide)) u_fl_X7_7 dX7_change_40 ?_
    refine lv_iload_n hx hb dX7_change_43 rfl (lv_at hl 2 rfl) ?_
    refine lv_iload_n hx hb dX7_change_44 rfl (lv_at hl 3 rfl) ?_
    refine xh_iast (n := 570) F hI (x_inO (by decide)) (fun _ => rfl) g9 dX7_change_45 (fun H locs u12 e13 hI => ?_)
    have h := x_let_at h e13
    refine lv_iload hx hb dX7_change_46 (lv_at hl 0 rfl) ?_
    rw [x_some h]
    exact x_iret F hI dX7_change_48
  · have h := x_iff h c6
    refine lv_iconst (v := 0) hx hb dX7_change_25 (by decide) ?_
    rw [x_some h]
    exact x_iret F hI dX7_change_26
def fX7_change (u : x_H) (a1 : Int32) (a2 : Int32) (a3 : Int32) (a4 : Int32) : Option (Int32 × x_H) := (Option.bind (fX7_in a2.toInt64 a3.toInt64 a4.toInt64) fun r1 => (if r1 = 0 then fX7_change_j19 u a1 a2 (1 : Int32) else fX7_change_j19 u a1 a2 (0 : Int32)))
set_option maxHeartbeats 4000000 in
set_option maxRecDepth 100000 in
theorem mX7_change (l : Launch) (X : x_T) (σ : x_S) (sz : Nat) (u : x_H) (a1 : Int32) (a2 : Int32) (a3 : Int32) (a4 : Int32) (r : (Int32 × x_H)) (h : fX7_change u a1 a2 a3 a4 = some r) : Met l yX7_change (x_ws yX7_change cX7_change 6 (some .int)) rm_X7_change (x_Pc X (x_sh σ 11 u) sz [.ref (X.2.2 11 40), .int a1, .int a2, .int a3, .int a4]) (x_Qi X r.1 (x_sh σ 11 r.2) sz) 0 0 (x_A X sz) := by
  refine Met.ofW (cc := cX7_change) (maxL := 6) (ret := (some .int)) (by decide) rfl ?_
  intro p e s m args below meth c s₁ B hml hv
  obtain ⟨F, hI, rfl, rfl⟩ := x_begin B hml hv
  replace F : x_F p s m _ meth c cX7_change 6 RX7 (some .int) := F
  have hx := F.1
  have hb := F.2.1
  have hml := F.2.2.1
  have hown := F.2.2.2.1
  have hts := F.2.2.2.2.1
  refine x_entry (vs := [.ref (X.2.2 11 40), .int a1, .int a2, .int a3, .int a4]) (n := 6) (Nat.le_of_ble_eq_true rfl) (fun ls hl => ?_)
  replace hl : lv_has ls 6 [(0, .ref (X.2.2 11 40)), (1, .int a1), (2, .int a2), (3, .int a3), (4, .int a4)] := hl
  unfold fX7_change at h
  refine lv_aload_n hx hb dX7_change_0 rfl (lv_at hl 0 rfl) ?_
  refine lv_iload_n hx hb dX7_change_1 rfl (lv_at hl 2 rfl) ?_
  refine lv_i2l hx hb dX7_change_2 rfl ?_
  refine lv_iload_n hx hb dX7_change_3 rfl (lv_at hl 3 rfl) ?_
  refine lv_i2l hx hb dX7_change_4 rfl ?_
  refine lv_iload hx hb dX7_change_5 (lv_at hl 4 rfl) ?_
  refine lv_i2l hx hb dX7_change_7 rfl ?_
  obtain ⟨r1, h2, h⟩ := x_bnd h
  refine x_aci hI (x_runS (rest := [.ref (X.2.2 11 40)]) F hI (mX7_in l X (x_sh σ 11 u) _ a2.toInt64 a3.toInt64 a4.toInt64 r1 h2) g_X7_35 hd_X7_in ⟨by decide, by decide⟩ ⟨rfl, rfl⟩ rfl hl.1 rfl (Nat.le_of_ble_eq_true rfl) dX7_change_8 ⟨Nat.zero_le _, Nat.zero_le _⟩) (fun H locs hI => ?_)
  refine lv_if_eq (tgt := 18) hx hb dX7_change_11 (by decide) (fun c3 => ?_) (fun c3 => ?_)
  · have h := x_ift h c3
    refine lv_iconst (v := 1) hx hb dX7_change_18 (by decide) ?_
    exact wX7_change_j19 F u a1 a2 (1 : Int32) _ _ _ h hI (lv_sub hl [0, 1, 2] rfl)
  · have h := x_iff h c3
    refine lv_iconst (v := 0) hx hb dX7_change_14 (by decide) ?_
    refine lv_goto (tgt := 19) hx hb dX7_change_15 (by decide) ?_
    exact wX7_change_j19 F u a1 a2 (0 : Int32) _ _ _ h hI (lv_sub hl [0, 1, 2] rfl)
abbrev rm_X7_changeLease : Room := { frames := 2, cells := 0, slots := 0, locals := 50 }
def fX7_changeLease (u : x_H) (a1 : Int32) : Option (Int32 × x_H) := (Option.bind (fX7_change u (555 : Int32) a1 (8 : Int32) (200 : Int32)) fun r1 => some (r1.1, r1.2))
set_option maxHeartbeats 4000000 in
set_option maxRecDepth 100000 in
theorem mX7_changeLease (l : Launch) (X : x_T) (σ : x_S) (sz : Nat) (u : x_H) (a1 : Int32) (r : (Int32 × x_H)) (h : fX7_changeLease u a1 = some r) : Met l yX7_changeLease (x_ws yX7_changeLease cX7_changeLease 2 (some .int)) rm_X7_changeLease (x_Pc X (x_sh σ 11 u) sz [.ref (X.2.2 11 40), .int a1]) (x_Qi X r.1 (x_sh σ 11 r.2) sz) 0 0 (x_A X sz) := by
  refine Met.ofW (cc := cX7_changeLease) (maxL := 2) (ret := (some .int)) (by decide) rfl ?_
  intro p e s m args below meth c s₁ B hml hv
  obtain ⟨F, hI, rfl, rfl⟩ := x_begin B hml hv
  replace F : x_F p s m _ meth c cX7_changeLease 2 RX7 (some .int) := F
  have hx := F.1
  have hb := F.2.1
  have hml := F.2.2.1
  have hown := F.2.2.2.1
  have hts := F.2.2.2.2.1
  refine x_entry (vs := [.ref (X.2.2 11 40), .int a1]) (n := 2) (Nat.le_of_ble_eq_true rfl) (fun ls hl => ?_)
  replace hl : lv_has ls 2 [(0, .ref (X.2.2 11 40)), (1, .int a1)] := hl
  unfold fX7_changeLease at h
  refine lv_aload_n hx hb dX7_changeLease_0 rfl (lv_at hl 0 rfl) ?_
  refine lv_sipush (v := 555) hx hb dX7_changeLease_1 (by decide) ?_
  refine lv_iload_n hx hb dX7_changeLease_4 rfl (lv_at hl 1 rfl) ?_
  refine lv_bipush (v := 8) hx hb dX7_changeLease_5 (by decide) ?_
  refine lv_sipush (v := 200) hx hb dX7_changeLease_7 (by decide) ?_
  obtain ⟨r1, h2, h⟩ := x_bnd h
  refine x_aci hI (x_runV (rest := []) F hI (mX7_change l X σ _ u (555 : Int32) a1 (8 : Int32) (200 : Int32) r1 h2) g_X7_124 ⟨rfl, hd_X7_change⟩ ⟨by decide, by decide⟩ ⟨rfl, rfl⟩ (x_inO (by decide)) rfl rfl rfl rfl hl.1 rfl (Nat.le_of_ble_eq_true rfl) dX7_changeLease_10 ⟨Nat.zero_le _, Nat.zero_le _⟩) (fun H locs hI => ?_)
  rw [x_some h]
  exact x_iret F hI dX7_changeLease_13
abbrev rm_X7_changeHold : Room := { frames := 2, cells := 0, slots := 0, locals := 50 }
def fX7_changeHold (u : x_H) (a1 : Int32) : Option (Int32 × x_H) := (Option.bind (fX7_change u (556 : Int32) a1 (1 : Int32) (50 : Int32)) fun r1 => some (r1.1, r1.2))
set_option maxHeartbeats 4000000 in
set_option maxRecDepth 100000 in
theorem mX7_changeHold (l : Launch) (X : x_T) (σ : x_S) (sz : Nat) (u : x_H) (a1 : Int32) (r : (Int32 × x_H)) (h : fX7_changeHold u a1 = some r) : Met l yX7_changeHold (x_ws yX7_changeHold cX7_changeHold 2 (some .int)) rm_X7_changeHold (x_Pc X (x_sh σ 11 u) sz [.ref (X.2.2 11 40), .int a1]) (x_Qi X r.1 (x_sh σ 11 r.2) sz) 0 0 (x_A X sz) := by
  refine Met.ofW (cc := cX7_changeHold) (maxL := 2) (ret := (some .int)) (by decide) rfl ?_
  intro p e s m args below meth c s₁ B hml hv
  obtain ⟨F, hI, rfl, rfl⟩ := x_begin B hml hv
  replace F : x_F p s m _ meth c cX7_changeHold 2 RX7 (some .int) := F
  have hx := F.1
  have hb := F.2.1
  have hml := F.2.2.1
  have hown := F.2.2.2.1
  have hts := F.2.2.2.2.1
  refine x_entry (vs := [.ref (X.2.2 11 40), .int a1]) (n := 2) (Nat.le_of_ble_eq_true rfl) (fun ls hl => ?_)
  replace hl : lv_has ls 2 [(0, .ref (X.2.2 11 40)), (1, .int a1)] := hl
  unfold fX7_changeHold at h
  refine lv_aload_n hx hb dX7_changeHold_0 rfl (lv_at hl 0 rfl) ?_
  refine lv_sipush (v := 556) hx hb dX7_changeHold_1 (by decide) ?_
  refine lv_iload_n hx hb dX7_changeHold_4 rfl (lv_at hl 1 rfl) ?_
  refine lv_iconst (v := 1) hx hb dX7_changeHold_5 (by decide) ?_
  refine lv_bipush (v := 50) hx hb dX7_changeHold_6 (by decide) ?_
  obtain ⟨r1, h2, h⟩ := x_bnd h
  refine x_aci hI (x_runV (rest := []) F hI (mX7_change l X σ _ u (556 : Int32) a1 (1 : Int32) (50 : Int32) r1 h2) g_X7_124 ⟨rfl, hd_X7_change⟩ ⟨by decide, by decide⟩ ⟨rfl, rfl⟩ (x_inO (by decide)) rfl rfl rfl rfl hl.1 rfl (Nat.le_of_ble_eq_true rfl) dX7_changeHold_8 ⟨Nat.zero_le _, Nat.zero_le _⟩) (fun H locs hI => ?_)
  rw [x_some h]
  exact x_iret F hI dX7_changeHold_11
abbrev rm_X7_changeShut : Room := { frames := 2, cells := 0, slots := 0, locals := 50 }
def fX7_changeShut (u : x_H) (a1 : Int32) : Option (Int32 × x_H) := (Option.bind (fX7_change u (557 : Int32) a1 (1 : Int32) (200 : Int32)) fun r1 => some (r1.1, r1.2))
set_option maxHeartbeats 4000000 in
set_option maxRecDepth 100000 in
theorem mX7_changeShut (l : Launch) (X : x_T) (σ : x_S) (sz : Nat) (u : x_H) (a1 : Int32) (r : (Int32 × x_H)) (h : fX7_changeShut u a1 = some r) : Met l yX7_changeShut (x_ws yX7_changeShut cX7_changeShut 2 (some .int)) rm_X7_changeShut (x_Pc X (x_sh σ 11 u) sz [.ref (X.2.2 11 40), .int a1]) (x_Qi X r.1 (x_sh σ 11 r.2) sz) 0 0 (x_A X sz) := by
  refine Met.ofW (cc := cX7_changeShut) (maxL := 2) (ret := (some .int)) (by decide) rfl ?_
  intro p e s m args below meth c s₁ B hml hv
  obtain ⟨F, hI, rfl, rfl⟩ := x_begin B hml hv
  replace F : x_F p s m _ meth c cX7_changeShut 2 RX7 (some .int) := F
  have hx := F.1
  have hb := F.2.1
  have hml := F.2.2.1
  have hown := F.2.2.2.1
  have hts := F.2.2.2.2.1
  refine x_entry (vs := [.ref (X.2.2 11 40), .int a1]) (n := 2) (Nat.le_of_ble_eq_true rfl) (fun ls hl => ?_)
  replace hl : lv_has ls 2 [(0, .ref (X.2.2 11 40)), (1, .int a1)] := hl
  unfold fX7_changeShut at h
  refine lv_aload_n hx hb dX7_changeShut_0 rfl (lv_at hl 0 rfl) ?_
  refine lv_sipush (v := 557) hx hb dX7_changeShut_1 (by decide) ?_
  refine lv_iload_n hx hb dX7_changeShut_4 rfl (lv_at hl 1 rfl) ?_
  refine lv_iconst (v := 1) hx hb dX7_changeShut_5 (by decide) ?_
  refine lv_sipush (v := 200) hx hb dX7_changeShut_6 (by decide) ?_
  obtain ⟨r1, h2, h⟩ := x_bnd h
  refine x_aci hI (x_runV (rest := []) F hI (mX7_change l X σ _ u (557 : Int32) a1 (1 : Int32) (200 : Int32) r1 h2) g_X7_124 ⟨rfl, hd_X7_change⟩ ⟨by decide, by decide⟩ ⟨rfl, rfl⟩ (x_inO (by decide)) rfl rfl rfl rfl hl.1 rfl (Nat.le_of_ble_eq_true rfl) dX7_changeShut_9 ⟨Nat.zero_le _, Nat.zero_le _⟩) (fun H locs hI => ?_)
  rw [x_some h]
  exact x_iret F hI dX7_changeShut_12
abbrev rm_X7_noPlace : Room := { frames := 1, cells := 0, slots := 0, locals := 25 }
def fX7_noPlace (u : x_H) (a1 : Int32) : Option (Int32 × x_H) := (Option.bind (fX7_in a1.toInt64 (0 : Int64) (((u 41 (Int32.toNatClampNeg (552 : Int32))) - (1 : Int32))).toInt64) fun r1 => (if r1 = 0 then (Option.bind (fX7_refused u (1 : Int32)) fun r4 => if vp_nar .boolean r4.1 = r4.1 then some (r4.1, r4.2) else none) else (Option.bind (fX7_refused u (0 : Int32)) fun r6 => if vp_nar .boolean r6.1 = r6.1 then some (r6.1, r6.2) else none)))
set_option maxHeartbeats 4000000 in
set_option maxRecDepth 100000 in
theorem mX7_noPlace (l : Launch) (X : x_T) (σ : x_S) (sz : Nat) (u : x_H) (a1 : Int32) (r : (Int32 × x_H)) (h : fX7_noPlace u a1 = some r) : Met l yX7_noPlace (x_ws yX7_noPlace cX7_noPlace 2 (some .boolean)) rm_X7_noPlace (x_Pc X (x_sh σ 11 u) sz [.ref (X.2.2 11 40), .int a1]) (x_Qi X r.1 (x_sh σ 11 r.2) sz) 0 0 (x_A X sz) := by
  refine Met.ofW (cc := cX7_noPlace) (maxL := 2) (ret := (some .boolean)) (by decide) rfl ?_
  intro p e s m args below meth c s₁ B hml hv
  obtain ⟨F, hI, rfl, rfl⟩ := x_begin B hml hv
  replace F : x_F p s m _ meth c cX7_noPlace 2 RX7 (some .boolean) := F
  have hx := F.1
  have hb := F.2.1
  have hml := F.2.2.1
  have hown := F.2.2.2.1
  have hts := F.2.2.2.2.1
  refine x_entry (vs := [.ref (X.2.2 11 40), .int a1]) (n := 2) (Nat.le_of_ble_eq_true rfl) (fun ls hl => ?_)
  replace hl : lv_has ls 2 [(0, .ref (X.2.2 11 40)), (1, .int a1)] := hl
  unfold fX7_noPlace at h
  refine lv_aload_n hx hb dX7_noPlace_0 rfl (lv_at hl 0 rfl) ?_
  refine lv_iload_n hx hb dX7_noPlace_1 rfl (lv_at hl 1 rfl) ?_
  refine lv_i2l hx hb dX7_noPlace_2 rfl ?_
  refine lv_lconst (v := 0) hx hb dX7_noPlace_3 (by decide) ?_
  refine lv_aload_n hx hb dX7_noPlace_4 rfl (lv_at hl 0 rfl) ?_
  refine xg_7_1 F hI (x_inO (by decide)) u_fl_X7_7 dX7_noPlace_5 ?_
  refine lv_sipush (v := 552) hx hb dX7_noPlace_8 (by decide) ?_
  refine xh_iald (n := 570) F hI (x_inO (by decide)) (fun _ => rfl) (by decide) dX7_noPlace_11 ?_
  refine lv_iconst (v := 1) hx hb dX7_noPlace_12 (by decide) ?_
  refine lv_isub hx hb dX7_noPlace_13 ?_
  refine lv_i2l hx hb dX7_noPlace_14 rfl ?_
  obtain ⟨r1, h2, h⟩ := x_bnd h
  refine x_aci hI (x_runS (rest := [.ref (X.2.2 11 40)]) F hI (mX7_in l X (x_sh σ 11 u) _ a1.toInt64 (0 : Int64) (((u 41 (Int32.toNatClampNeg (552 : Int32))) - (1 : Int32))).toInt64 r1 h2) g_X7_35 hd_X7_in ⟨by decide, by decide⟩ ⟨rfl, rfl⟩ rfl hl.1 rfl (Nat.le_of_ble_eq_true rfl) dX7_noPlace_15 ⟨Nat.zero_le _, Nat.zero_le _⟩) (fun H locs hI => ?_)
  refine lv_if_eq (tgt := 25) hx hb dX7_noPlace_18 (by decide) (fun c3 => ?_) (fun c3 => ?_)
  · have h := x_ift h c3
    refine lv_iconst (v := 1) hx hb dX7_noPlace_25 (by decide) ?_
    obtain ⟨r4, h5, h⟩ := x_bnd h
    refine x_aci hI (x_runV (rest := []) F hI (mX7_refused l X σ _ u (1 : Int32) r4 h5) g_X7_97 ⟨rfl, hd_X7_refused⟩ ⟨by decide, by decide⟩ ⟨rfl, rfl⟩ (x_inO (by decide)) rfl rfl rfl rfl hl.1 rfl (Nat.le_of_ble_eq_true rfl) dX7_noPlace_26 ⟨Nat.zero_le _, Nat.zero_le _⟩) (fun H locs hI => ?_)
    obtain ⟨g, h⟩ := x_chk h
    rw [x_some h]
    exact x_zret (v := r4.1) F hI g dX7_noPlace_29
  · have h := x_iff h c3
    refine lv_iconst (v := 0) hx hb dX7_noPlace_21 (by decide) ?_
    refine lv_goto (tgt := 26) hx hb dX7_noPlace_22 (by decide) ?_
    obtain ⟨r6, h7, h⟩ := x_bnd h
    refine x_aci hI (x_runV (rest := []) F hI (mX7_refused l X σ _ u (0 : Int32) r6 h7) g_X7_97 ⟨rfl, hd_X7_refused⟩ ⟨by decide, by decide⟩ ⟨rfl, rfl⟩ (x_inO (by decide)) rfl rfl rfl rfl hl.1 rfl (Nat.le_of_ble_eq_true rfl) dX7_noPlace_26 ⟨Nat.zero_le _, Nat.zero_le _⟩) (fun H locs hI => ?_)
    obtain ⟨g, h⟩ := x_chk h
    rw [x_some h]
    exact x_zret (v := r6.1) F hI g dX7_noPlace_29
abbrev rm_X7_deliver : Room := { frames := 5, cells := 0, slots := 0, locals := 122 }
def fX7_deliver (u : x_H) (a1 : Int32) : Option (Int32 × x_H) := (Option.bind (fX7_noPlace u a1) fun r1 => (if r1.1 = 0 then (Option.bind (fX7_save r1.2 ) fun r4 => (Option.bind (fX7_handle (r4 41) a1) fun r6 => x_let (x_hs r4 41 r6.2) fun u8 => some (r6.1, u8))) else some ((0 : Int32), r1.2)))
set_option maxHeartbeats 4000000 in
set_option maxRecDepth 100000 in
theorem mX7_deliver (l : Launch) (X : x_T) (σ : x_S) (sz : Nat) (u : x_H) (a1 : Int32) (r : (Int32 × x_H)) (h : fX7_deliver u a1 = some r) : Met l yX7_deliver (x_ws yX7_deliver cX7_deliver 2 (some .int)) rm_X7_deliver (x_Pc X (x_sh σ 11 u) sz [.ref (X.2.2 11 40), .int a1]) (x_Qi X r.1 (x_sh σ 11 r.2) sz) 0 0 (x_A X sz) := by
  refine Met.ofW (cc := cX7_deliver) (maxL := 2) (ret := (some .int)) (by decide) rfl ?_
  intro p e s m args below meth c s₁ B hml hv
  obtain ⟨F, hI, rfl, rfl⟩ := x_begin B hml hv
  replace F : x_F p s m _ meth c cX7_deliver 2 RX7 (some .int) := F
  have hx := F.1
  have hb := F.2.1
  have hml := F.2.2.1
  have hown := F.2.2.2.1
  have hts := F.2.2.2.2.1
  refine x_entry (vs := [.ref (X.2.2 11 40), .int a1]) (n := 2) (Nat.le_of_ble_eq_true rfl) (fun ls hl => ?_)
  replace hl : lv_has ls 2 [(0, .ref (X.2.2 11 40)), (1, .int a1)] := hl
  unfold fX7_deliver at h
  refine lv_aload_n hx hb dX7_deliver_0 rfl (lv_at hl 0 rfl) ?_
  refine lv_iload_n hx hb dX7_deliver_1 rfl (lv_at hl 1 rfl) ?_
  obtain ⟨r1, h2, h⟩ := x_bnd h
  refine x_aci hI (x_runV (rest := []) F hI (mX7_noPlace l X σ _ u a1 r1 h2) g_X7_128 ⟨rfl, hd_X7_noPlace⟩ ⟨by decide, by decide⟩ ⟨rfl, rfl⟩ (x_inO (by decide)) rfl rfl rfl rfl hl.1 rfl (Nat.le_of_ble_eq_true rfl) dX7_deliver_2 ⟨Nat.zero_le _, Nat.zero_le _⟩) (fun H locs hI => ?_)
  refine lv_if_eq (tgt := 10) hx hb dX7_deliver_5 (by decide) (fun c3 => ?_) (fun c3 => ?_)
  · have h := x_ift h c3
    refine lv_aload_n hx hb dX7_deliver_10 rfl (lv_at hl 0 rfl) ?_
    obtain ⟨r4, h5, h⟩ := x_bnd h
    refine x_acv hI (x_runV (rest := []) F hI (mX7_save l X σ _ r1.2  r4 h5) g_X7_103 ⟨rfl, hd_X7_save⟩ ⟨by decide, by decide⟩ ⟨rfl, rfl⟩ (x_inO (by decide)) rfl rfl rfl rfl hl.1 rfl (Nat.le_of_ble_eq_true rfl) dX7_deliver_11 ⟨Nat.zero_le _, Nat.zero_le _⟩) (fun H locs hI => ?_)
    refine lv_aload_n hx hb dX7_deliver_14 rfl (lv_at hl 0 rfl) ?_
    refine xg_7_1 F hI (x_inO (by decide)) u_fl_X7_7 dX7_deliver_15 ?_
    refine lv_iload_n hx hb dX7_deliver_18 rfl (lv_at hl 1 rfl) ?_
    obtain ⟨r6, h7, h⟩ := x_bnd h
    have hI := x_toV 41 hI
    refine x_aci hI (x_runS (rest := []) F hI (mX7_handle l X σ r4 41 (x_inO (by decide)) (fun _ => rfl) _ (r4 41) a1 r6 h7) g_X7_83 hd_X7_handle ⟨by decide, by decide⟩ ⟨rfl, rfl⟩ rfl hl.1 rfl (Nat.le_of_ble_eq_true rfl) dX7_deliver_19 ⟨Nat.zero_le _, Nat.zero_le _⟩) (fun H locs hI => ?_)
    obtain ⟨u8, e9⟩ : ∃ z : x_H, z = x_hs r4 41 r6.2 := ⟨_, rfl⟩
    rw [← e9] at hI
    have h := x_let_at h e9
    rw [x_some h]
    exact x_iret F hI dX7_deliver_22
  · have h := x_iff h c3
    refine lv_iconst (v := 0) hx hb dX7_deliver_8 (by decide) ?_
    rw [x_some h]
    exact x_iret F hI dX7_deliver_9
abbrev rm_X7_lose : Room := { frames := 2, cells := 0, slots := 0, locals := 46 }
def fX7_lose (u : x_H) (a1 : Int32) : Option (Int32 × x_H) := (Option.bind (fX7_noPlace u a1) fun r1 => (if r1.1 = 0 then (Option.bind (fX7_save r1.2 ) fun r4 => x_let (x_hu r4 41 (Int32.toNatClampNeg (558 : Int32)) ((r4 41 (Int32.toNatClampNeg (558 : Int32))) + (1 : Int32))) fun u6 => (Option.bind (fX7_take (u6 41) a1) fun r8 => x_let (x_hs u6 41 r8.2) fun u10 => some (r8.1, u10))) else some ((0 : Int32), r1.2)))
set_option maxHeartbeats 4000000 in
set_option maxRecDepth 100000 in
theorem mX7_lose (l : Launch) (X : x_T) (σ : x_S) (sz : Nat) (u : x_H) (a1 : Int32) (r : (Int32 × x_H)) (h : fX7_lose u a1 = some r) : Met l yX7_lose (x_ws yX7_lose cX7_lose 2 (some .int)) rm_X7_lose (x_Pc X (x_sh σ 11 u) sz [.ref (X.2.2 11 40), .int a1]) (x_Qi X r.1 (x_sh σ 11 r.2) sz) 0 0 (x_A X sz) := by
  refine Met.ofW (cc := cX7_lose) (maxL := 2) (ret := (some .int)) (by decide) rfl ?_
  intro p e s m args below meth c s₁ B hml hv
  obtain ⟨F, hI, rfl, rfl⟩ := x_begin B hml hv
  replace F : x_F p s m _ meth c cX7_lose 2 RX7 (some .int) := F
  have hx := F.1
  have hb := F.2.1
  have hml := F.2.2.1
  have hown := F.2.2.2.1
  have hts := F.2.2.2.2.1
  refine x_entry (vs := [.ref (X.2.2 11 40), .int a1]) (n := 2) (Nat.le_of_ble_eq_true rfl) (fun ls hl => ?_)
  replace hl : lv_has ls 2 [(0, .ref (X.2.2 11 40)), (1, .int a1)] := hl
  unfold fX7_lose at h
  refine lv_aload_n hx hb dX7_lose_0 rfl (lv_at hl 0 rfl) ?_
  refine lv_iload_n hx hb dX7_lose_1 rfl (lv_at hl 1 rfl) ?_
  obtain ⟨r1, h2, h⟩ := x_bnd h
  refine x_aci hI (x_runV (rest := []) F hI (mX7_noPlace l X σ _ u a1 r1 h2) g_X7_128 ⟨rfl, hd_X7_noPlace⟩ ⟨by decide, by decide⟩ ⟨rfl, rfl⟩ (x_inO (by decide)) rfl rfl rfl rfl hl.1 rfl (Nat.le_of_ble_eq_true rfl) dX7_lose_2 ⟨Nat.zero_le _, Nat.zero_le _⟩) (fun H locs hI => ?_)
  refine lv_if_eq (tgt := 10) hx hb dX7_lose_5 (by decide) (fun c3 => ?_) (fun c3 => ?_)
  · have h := x_ift h c3
    refine lv_aload_n hx hb dX7_lose_10 rfl (lv_at hl 0 rfl) ?_
    obtain ⟨r4, h5, h⟩ := x_bnd h
    refine x_acv hI (x_runV (rest := []) F hI (mX7_save l X σ _ r1.2  r4 h5) g_X7_103 ⟨rfl, hd_X7_save⟩ ⟨by decide, by decide⟩ ⟨rfl, rfl⟩ (x_inO (by decide)) rfl rfl rfl rfl hl.1 rfl (Nat.le_of_ble_eq_true rfl) dX7_lose_11 ⟨Nat.zero_le _, Nat.zero_le _⟩) (fun H locs hI => ?_)
    refine lv_aload_n hx hb dX7_lose_14 rfl (lv_at hl 0 rfl) ?_
    refine xg_7_1 F hI (x_inO (by decide)) u_fl_X7_7 dX7_lose_15 ?_
    refine lv_sipush (v := 558) hx hb dX7_lose_18 (by decide) ?_
    refine lv_dup2_11 hx hb dX7_lose_21 rfl rfl ?_
    refine xh_iald (n := 570) F hI (x_inO (by decide)) (fun _ => rfl) (by decide) dX7_lose_22 ?_
    refine lv_iconst (v := 1) hx hb dX7_lose_23 (by decide) ?_
    refine lv_iadd hx hb dX7_lose_24 ?_
    refine xh_iast (n := 570) F hI (x_inO (by decide)) (fun _ => rfl) (by decide) dX7_lose_25 (fun H locs u6 e7 hI => ?_)
    have h := x_let_at h e7
    refine lv_aload_n hx hb dX7_lose_26 rfl (lv_at hl 0 rfl) ?_
    refine xg_7_1 F hI (x_inO (by decide)) u_fl_X7_7 dX7_lose_27 ?_
    refine lv_iload_n hx hb dX7_lose_30 rfl (lv_at hl 1 rfl) ?_
    obtain ⟨r8, h9, h⟩ := x_bnd h
    have hI := x_toV 41 hI
    refine x_aci hI (x_runS (rest := []) F hI (mX7_take l X σ u6 41 (x_inO (by decide)) (fun _ => rfl) _ (u6 41) a1 r8 h9) g_X7_63 hd_X7_take ⟨by decide, by decide⟩ ⟨rfl, rfl⟩ rfl hl.1 rfl (Nat.le_of_ble_eq_true rfl) dX7_lose_31 ⟨Nat.zero_le _, Nat.zero_le _⟩) (fun H locs hI => ?_)
    obtain ⟨u10, e11⟩ : ∃ z : x_H, z = x_hs u6 41 r8.2 := ⟨_, rfl⟩
    rw [← e11] at hI
    have h := x_let_at h e11
    rw [x_some h]
    exact x_iret F hI dX7_lose_34
  · have h := x_iff h c3
    refine lv_iconst (v := 0) hx hb dX7_lose_8 (by decide) ?_
    rw [x_some h]
    exact x_iret F hI dX7_lose_9
abbrev rm_X7_deliverAll : Room := { frames := 6, cells := 0, slots := 0, locals := 144 }
def fX7_deliverAll (u : x_H) : Option (Int32 × x_H) := x_let (x_hu u 40 0 (0 : Int32)) fun u1 => (Option.bind (fX7_save u1 ) fun r3 => (Option.bind (fX7_handleAll (r3 41) ) fun r5 => x_let (x_hs r3 41 r5.2) fun u7 => some (r5.1, u7)))
set_option maxHeartbeats 4000000 in
set_option maxRecDepth 100000 in
theorem mX7_deliverAll (l : Launch) (X : x_T) (σ : x_S) (sz : Nat) (u : x_H) (r : (Int32 × x_H)) (h : fX7_deliverAll u  = some r) : Met l yX7_deliverAll (x_ws yX7_deliverAll cX7_deliverAll 1 (some .int)) rm_X7_deliverAll (x_Pc X (x_sh σ 11 u) sz [.ref (X.2.2 11 40)]) (x_Qi X r.1 (x_sh σ 11 r.2) sz) 0 0 (x_A X sz) := by
  refine Met.ofW (cc := cX7_deliverAll) (maxL := 1) (ret := (some .int)) (by decide) rfl ?_
  intro p e s m args below meth c s₁ B hml hv
  obtain ⟨F, hI, rfl, rfl⟩ := x_begin B hml hv
  replace F : x_F p s m _ meth c cX7_deliverAll 1 RX7 (some .int) := F
  have hx := F.1
  have hb := F.2.1
  have hml := F.2.2.1
  have hown := F.2.2.2.1
  have hts := F.2.2.2.2.1
  refine x_entry (vs := [.ref (X.2.2 11 40)]) (n := 1) (Nat.le_of_ble_eq_true rfl) (fun ls hl => ?_)
  replace hl : lv_has ls 1 [(0, .ref (X.2.2 11 40))] := hl
  unfold fX7_deliverAll at h
  refine lv_aload_n hx hb dX7_deliverAll_0 rfl (lv_at hl 0 rfl) ?_
  refine lv_iconst (v := 0) hx hb dX7_deliverAll_1 (by decide) ?_
  refine xp_7_0 F hI (x_inO (by decide)) u_fl_X7_29 dX7_deliverAll_2 (fun H locs u1 e2 hI => ?_)
  have h := x_let_at h e2
  refine lv_aload_n hx hb dX7_deliverAll_5 rfl (lv_at hl 0 rfl) ?_
  obtain ⟨r3, h4, h⟩ := x_bnd h
  refine x_acv hI (x_runV (rest := []) F hI (mX7_save l X σ _ u1  r3 h4) g_X7_103 ⟨rfl, hd_X7_save⟩ ⟨by decide, by decide⟩ ⟨rfl, rfl⟩ (x_inO (by decide)) rfl rfl rfl rfl hl.1 rfl (Nat.le_of_ble_eq_true rfl) dX7_deliverAll_6 ⟨Nat.zero_le _, Nat.zero_le _⟩) (fun H locs hI => ?_)
  refine lv_aload_n hx hb dX7_deliverAll_9 rfl (lv_at hl 0 rfl) ?_
  refine xg_7_1 F hI (x_inO (by decide)) u_fl_X7_7 dX7_deliverAll_10 ?_
  obtain ⟨r5, h6, h⟩ := x_bnd h
  have hI := x_toV 41 hI
  refine x_aci hI (x_runS (rest := []) F hI (mX7_handleAll l X σ r3 41 (x_inO (by decide)) (fun _ => rfl) _ (r3 41)  r5 h6) g_X7_131 hd_X7_handleAll ⟨by decide, by decide⟩ ⟨rfl, rfl⟩ rfl hl.1 rfl (Nat.le_of_ble_eq_true rfl) dX7_deliverAll_13 ⟨Nat.zero_le _, Nat.zero_le _⟩) (fun H locs hI => ?_)
  obtain ⟨u7, e8⟩ : ∃ z : x_H, z = x_hs r3 41 r5.2 := ⟨_, rfl⟩
  rw [← e8] at hI
  have h := x_let_at h e8
  rw [x_some h]
  exact x_iret F hI dX7_deliverAll_16
abbrev rm_X7_tick : Room := { frames := 4, cells := 0, slots := 0, locals := 94 }
def fX7_tick (u : x_H) (a1 : Int32) : Option (Int32 × x_H) := (Option.bind (fX7_in a1.toInt64 (1 : Int64) (100 : Int64)) fun r1 => (if r1 = 0 then (Option.bind (fX7_refused u (1 : Int32)) fun r4 => (if r4.1 = 0 then (Option.bind (fX7_save r4.2 ) fun r7 => (Option.bind (fX7_goTicks (r7 41) a1) fun r9 => x_let (x_hs r7 41 r9.2) fun u11 => some (r9.1, u11))) else some ((0 : Int32), r4.2))) else (Option.bind (fX7_refused u (0 : Int32)) fun r13 => (if r13.1 = 0 then (Option.bind (fX7_save r13.2 ) fun r16 => (Option.bind (fX7_goTicks (r16 41) a1) fun r18 => x_let (x_hs r16 41 r18.2) fun u20 => some (r18.1, u20))) else some ((0 : Int32), r13.2)))))
set_option maxHeartbeats 4000000 in
set_option maxRecDepth 100000 in
theorem mX7_tick (l : Launch) (X : x_T) (σ : x_S) (sz : Nat) (u : x_H) (a1 : Int32) (r : (Int32 × x_H)) (h : fX7_tick u a1 = some r) : Met l yX7_tick (x_ws yX7_tick cX7_tick 2 (some .int)) rm_X7_tick (x_Pc X (x_sh σ 11 u) sz [.ref (X.2.2 11 40), .int a1]) (x_Qi X r.1 (x_sh σ 11 r.2) sz) 0 0 (x_A X sz) := by
  refine Met.ofW (cc := cX7_tick) (maxL := 2) (ret := (some .int)) (by decide) rfl ?_
  intro p e s m args below meth c s₁ B hml hv
  obtain ⟨F, hI, rfl, rfl⟩ := x_begin B hml hv
  replace F : x_F p s m _ meth c cX7_tick 2 RX7 (some .int) := F
  have hx := F.1
  have hb := F.2.1
  have hml := F.2.2.1
  have hown := F.2.2.2.1
  have hts := F.2.2.2.2.1
  refine x_entry (vs := [.ref (X.2.2 11 40), .int a1]) (n := 2) (Nat.le_of_ble_eq_true rfl) (fun ls hl => ?_)
  replace hl : lv_has ls 2 [(0, .ref (X.2.2 11 40)), (1, .int a1)] := hl
  unfold fX7_tick at h
  refine lv_aload_n hx hb dX7_tick_0 rfl (lv_at hl 0 rfl) ?_
  refine lv_iload_n hx hb dX7_tick_1 rfl (lv_at hl 1 rfl) ?_
  refine lv_i2l hx hb dX7_tick_2 rfl ?_
  refine lv_lconst (v := 1) hx hb dX7_tick_3 (by decide) ?_
  refine lv_ldc2 (v := 100) hx hb hown (hts _ u_cl_X7_134) dX7_tick_4 ?_
  obtain ⟨r1, h2, h⟩ := x_bnd h
  refine x_aci hI (x_runS (rest := [.ref (X.2.2 11 40)]) F hI (mX7_in l X (x_sh σ 11 u) _ a1.toInt64 (1 : Int64) (100 : Int64) r1 h2) g_X7_35 hd_X7_in ⟨by decide, by decide⟩ ⟨rfl, rfl⟩ rfl hl.1 rfl (Nat.le_of_ble_eq_true rfl) dX7_tick_7 ⟨Nat.zero_le _, Nat.zero_le _⟩) (fun H locs hI => ?_)
  refine lv_if_eq (tgt := 17) hx hb dX7_tick_10 (by decide) (fun c3 => ?_) (fun c3 => ?_)
  · have h := x_ift h c3
    refine lv_iconst (v := 1) hx hb dX7_tick_17 (by decide) ?_
    obtain ⟨r4, h5, h⟩ := x_bnd h
    refine x_aci hI (x_runV (rest := []) F hI (mX7_refused l X σ _ u (1 : Int32) r4 h5) g_X7_97 ⟨rfl, hd_X7_refused⟩ ⟨by decide, by decide⟩ ⟨rfl, rfl⟩ (x_inO (by decide)) rfl rfl rfl rfl hl.1 rfl (Nat.le_of_ble_eq_true rfl) dX7_tick_18 ⟨Nat.zero_le _, Nat.zero_le _⟩) (fun H locs hI => ?_)
    refine lv_if_eq (tgt := 26) hx hb dX7_tick_21 (by decide) (fun c6 => ?_) (fun c6 => ?_)
    · have h := x_ift h c6
      refine lv_aload_n hx hb dX7_tick_26 rfl (lv_at hl 0 rfl) ?_
      obtain ⟨r7, h8, h⟩ := x_bnd h
      refine x_acv hI (x_runV (rest := []) F hI (mX7_save l X σ _ r4.2  r7 h8) g_X7_103 ⟨rfl, hd_X7_save⟩ ⟨by decide, by decide⟩ ⟨rfl, rfl⟩ (x_inO (by decide)) rfl rfl rfl rfl hl.1 rfl (Nat.le_of_ble_eq_true rfl) dX7_tick_27 ⟨Nat.zero_le _, Nat.zero_le _⟩) (fun H locs hI => ?_)
      refine lv_aload_n hx hb dX7_tick_30 rfl (lv_at hl 0 rfl) ?_
      refine xg_7_1 F hI (x_inO (by decide)) u_fl_X7_7 dX7_tick_31 ?_
      refine lv_iload_n hx hb dX7_tick_34 rfl (lv_at hl 1 rfl) ?_
      obtain ⟨r9, h10, h⟩ := x_bnd h
      have hI := x_toV 41 hI
      refine x_aci hI (x_runS (rest := []) F hI (mX7_goTicks l X σ r7 41 (x_inO (by decide)) (fun _ => rfl) _ (r7 41) a1 r9 h10) g_X7_136 hd_X7_goTicks ⟨by decide, by decide⟩ ⟨rfl, rfl⟩ rfl hl.1 rfl (Nat.le_of_ble_eq_true rfl) dX7_tick_35 ⟨Nat.zero_le _, Nat.zero_le _⟩) (fun H locs hI => ?_)
      obtain ⟨u11, e12⟩ : ∃ z : x_H, z = x_hs r7 41 r9.2 := ⟨_, rfl⟩
      rw [← e12] at hI
      have h := x_let_at h e12
      rw [x_some h]
      exact x_iret F hI dX7_tick_38
    · have h := x_iff h c6
      refine lv_iconst (v := 0) hx hb dX7_tick_24 (by decide) ?_
      rw [x_some h]
      exact x_iret F hI dX7_tick_25
  · have h := x_iff h c3
    refine lv_iconst (v := 0) hx hb dX7_tick_13 (by decide) ?_
    refine lv_goto (tgt := 18) hx hb dX7_tick_14 (by decide) ?_
    obtain ⟨r13, h14, h⟩ := x_bnd h
    refine x_aci hI (x_runV (rest := []) F hI (mX7_refused l X σ _ u (0 : Int32) r13 h14) g_X7_97 ⟨rfl, hd_X7_refused⟩ ⟨by decide, by decide⟩ ⟨rfl, rfl⟩ (x_inO (by decide)) rfl rfl rfl rfl hl.1 rfl (Nat.le_of_ble_eq_true rfl) dX7_tick_18 ⟨Nat.zero_le _, Nat.zero_le _⟩) (fun H locs hI => ?_)
    refine lv_if_eq (tgt := 26) hx hb dX7_tick_21 (by decide) (fun c15 => ?_) (fun c15 => ?_)
    · have h := x_ift h c15
      refine lv_aload_n hx hb dX7_tick_26 rfl (lv_at hl 0 rfl) ?_
      obtain ⟨r16, h17, h⟩ := x_bnd h
      refine x_acv hI (x_runV (rest := []) F hI (mX7_save l X σ _ r13.2  r16 h17) g_X7_103 ⟨rfl, hd_X7_save⟩ ⟨by decide, by decide⟩ ⟨rfl, rfl⟩ (x_inO (by decide)) rfl rfl rfl rfl hl.1 rfl (Nat.le_of_ble_eq_true rfl) dX7_tick_27 ⟨Nat.zero_le _, Nat.zero_le _⟩) (fun H locs hI => ?_)
      refine lv_aload_n hx hb dX7_tick_30 rfl (lv_at hl 0 rfl) ?_
      refine xg_7_1 F hI (x_inO (by decide)) u_fl_X7_7 dX7_tick_31 ?_
      refine lv_iload_n hx hb dX7_tick_34 rfl (lv_at hl 1 rfl) ?_
      obtain ⟨r18, h19, h⟩ := x_bnd h
      have hI := x_toV 41 hI
      refine x_aci hI (x_runS (rest := []) F hI (mX7_goTicks l X σ r16 41 (x_inO (by decide)) (fun _ => rfl) _ (r16 41) a1 r18 h19) g_X7_136 hd_X7_goTicks ⟨by decide, by decide⟩ ⟨rfl, rfl⟩ rfl hl.1 rfl (Nat.le_of_ble_eq_true rfl) dX7_tick_35 ⟨Nat.zero_le _, Nat.zero_le _⟩) (fun H locs hI => ?_)
      obtain ⟨u20, e21⟩ : ∃ z : x_H, z = x_hs r16 41 r18.2 := ⟨_, rfl⟩
      rw [← e21] at hI
      have h := x_let_at h e21
      rw [x_some h]
      exact x_iret F hI dX7_tick_38
    · have h := x_iff h c15
      refine lv_iconst (v := 0) hx hb dX7_tick_24 (by decide) ?_
      rw [x_some h]
      exact x_iret F hI dX7_tick_25
abbrev rm_X7_append : Room := { frames := 1, cells := 0, slots := 0, locals := 25 }
def fX7_append_j33 (u : x_H) (y1 : Int32) (z0 : Int32) : Option (Int32 × x_H) := (Option.bind (fX7_refused u z0) fun r5 => (if r5.1 = 0 then (if x_in (r5.2 40 2) 60 then x_let (x_hu r5.2 46 (Int32.toNatClampNeg (r5.2 40 2)) y1) fun u8 => x_let (x_hu u8 40 2 ((u8 40 2) + (1 : Int32))) fun u11 => some ((u11 40 2), u11) else none) else some ((0 : Int32), r5.2)))
set_option maxHeartbeats 4000000 in
set_option maxRecDepth 100000 in
theorem wX7_append_j33 {p : Program} {l : Launch} {e : Env} {s : State} {m : MethodId} {args : Array Value} {below : List Frame} {meth : Method} {c : Code} {X : x_T} {σ : x_S} {r : (Int32 × x_H)} (F : x_F p s m args meth c cX7_append 2 RX7 (some .int)) (u : x_H) (y1 : Int32) (z0 : Int32) (H : Heap) (locs : List Loc) (ls : Array Slot) (h : fX7_append_j33 u y1 z0 = some r) (hI : x_I X (x_sh σ 11 u) s H locs) (hl : lv_has ls 2 [(0, .ref (X.2.2 11 40)), (1, .int y1)]) : W p l e rm_X7_append s m args below meth c H locs 0 0 (MQ below (x_Qi X r.1 (x_sh σ 11 r.2) s.heap.size) args s 0 0 (x_A X s.heap.size)) (F0 m 33 ls [.int z0, .ref (X.2.2 11 40)]) := by
  have hx := F.1
  have hb := F.2.1
  have hml := F.2.2.1
  have hown := F.2.2.2.1
  have hts := F.2.2.2.2.1
  unfold fX7_append_j33 at h
  obtain ⟨r5, h6, h⟩ := x_bnd h
  refine x_aci hI (x_runV (rest := []) F hI (mX7_refused l X σ _ u z0 r5 h6) g_X7_97 ⟨rfl, hd_X7_refused⟩ ⟨by decide, by decide⟩ ⟨rfl, rfl⟩ (x_inO (by decide)) rfl rfl rfl rfl hl.1 rfl (Nat.le_of_ble_eq_true rfl) dX7_append_33 ⟨Nat.zero_le _, Nat.zero_le _⟩) (fun H locs hI => ?_)
  refine lv_if_eq (tgt := 41) hx hb dX7_append_36 (by decide) (fun c7 => ?_) (fun c7 => ?_)
  · have h := x_ift h c7
    refine lv_aload_n hx hb dX7_append_41 rfl (lv_at hl 0 rfl) ?_
    refine xg_7_7 F hI (x_inO (by decide)) u_fl_X7_26 dX7_append_42 ?_
    refine lv_aload_n hx hb dX7_append_45 rfl (lv_at hl 0 rfl) ?_
    refine xg_7_8 F hI (x_inO (by decide)) u_fl_X7_143 dX7_append_46 ?_
    refine lv_iload_n hx hb dX7_append_49 rfl (lv_at hl 1 rfl) ?_
    obtain ⟨g10, h⟩ := x_chk h
    refine xh_iast (n := 60) F hI (x_inO (by decide)) (fun _ => rfl) g10 dX7_append_50 (fun H locs u8 e9 hI => ?_)
    have h := x_let_at h e9
    refine lv_aload_n hx hb dX7_append_51 rfl (lv_at hl 0 rfl) ?_
    refine lv_dup hx hb dX7_append_52 rfl ?_
    refine xg_7_8 F hI (x_inO (by decide)) u_fl_X7_143 dX7_append_53 ?_
    refine lv_iconst (v := 1) hx hb dX7_append_56 (by decide) ?_
    refine lv_iadd hx hb dX7_append_57 ?_
    refine xp_7_8 F hI (x_inO (by decide)) u_fl_X7_143 dX7_append_58 (fun H locs u11 e12 hI => ?_)
    have h := x_let_at h e12
    refine lv_aload_n hx hb dX7_append_61 rfl (lv_at hl 0 rfl) ?_
    refine xg_7_8 F hI (x_inO (by decide)) u_fl_X7_143 dX7_append_62 ?_
    rw [x_some h]
    exact x_iret F hI dX7_append_65
  · have h := x_iff h c7
    refine lv_iconst (v := 0) hx hb dX7_append_39 (by decide) ?_
    rw [x_some h]
    exact x_iret F hI dX7_append_40
def fX7_append (u : x_H) (a1 : Int32) : Option (Int32 × x_H) := (Option.bind (fX7_in a1.toInt64 (33 : Int64) (126 : Int64)) fun r1 => (if r1 = 0 then fX7_append_j33 u a1 (1 : Int32) else (if (u 40 2) = (60 : Int32) then fX7_append_j33 u a1 (2 : Int32) else fX7_append_j33 u a1 (0 : Int32))))
set_option maxHeartbeats 4000000 in
set_option maxRecDepth 100000 in
theorem mX7_append (l : Launch) (X : x_T) (σ : x_S) (sz : Nat) (u : x_H) (a1 : Int32) (r : (Int32 × x_H)) (h : fX7_append u a1 = some r) : Met l yX7_append (x_ws yX7_append cX7_append 2 (some .int)) rm_X7_append (x_Pc X (x_sh σ 11 u) sz [.ref (X.2.2 11 40), .int a1]) (x_Qi X r.1 (x_sh σ 11 r.2) sz) 0 0 (x_A X sz) := by
  refine Met.ofW (cc := cX7_append) (maxL := 2) (ret := (some .int)) (by decide) rfl ?_
  intro p e s m args below meth c s₁ B hml hv
  obtain ⟨F, hI, rfl, rfl⟩ := x_begin B hml hv
  replace F : x_F p s m _ meth c cX7_append 2 RX7 (some .int) := F
  have hx := F.1
  have hb := F.2.1
  have hml := F.2.2.1
  have hown := F.2.2.2.1
  have hts := F.2.2.2.2.1
  refine x_entry (vs := [.ref (X.2.2 11 40), .int a1]) (n := 2) (Nat.le_of_ble_eq_true rfl) (fun ls hl => ?_)
  replace hl : lv_has ls 2 [(0, .ref (X.2.2 11 40)), (1, .int a1)] := hl
  unfold fX7_append at h
  refine lv_aload_n hx hb dX7_append_0 rfl (lv_at hl 0 rfl) ?_
  refine lv_iload_n hx hb dX7_append_1 rfl (lv_at hl 1 rfl) ?_
  refine lv_i2l hx hb dX7_append_2 rfl ?_
  refine lv_ldc2 (v := 33) hx hb hown (hts _ u_cl_X7_139) dX7_append_3 ?_
  refine lv_ldc2 (v := 126) hx hb hown (hts _ u_cl_X7_141) dX7_append_6 ?_
  obtain ⟨r1, h2, h⟩ := x_bnd h
  refine x_aci hI (x_runS (rest := [.ref (X.2.2 11 40)]) F hI (mX7_in l X (x_sh σ 11 u) _ a1.toInt64 (33 : Int64) (126 : Int64) r1 h2) g_X7_35 hd_X7_in ⟨by decide, by decide⟩ ⟨rfl, rfl⟩ rfl hl.1 rfl (Nat.le_of_ble_eq_true rfl) dX7_append_9 ⟨Nat.zero_le _, Nat.zero_le _⟩) (fun H locs hI => ?_)
  refine lv_if_ne (tgt := 19) hx hb dX7_append_12 (by decide) (fun c3 => ?_) (fun c3 => ?_)
  · have h := x_iff h c3
    refine lv_aload_n hx hb dX7_append_19 rfl (lv_at hl 0 rfl) ?_
    refine xg_7_8 F hI (x_inO (by decide)) u_fl_X7_143 dX7_append_20 ?_
    refine lv_bipush (v := 60) hx hb dX7_append_23 (by decide) ?_
    refine lv_icmp_ne (tgt := 32) hx hb dX7_append_25 (by decide) (fun c4 => ?_) (fun c4 => ?_)
    · have h := x_iff h c4
      refine lv_iconst (v := 0) hx hb dX7_append_32 (by decide) ?_
      exact wX7_append_j33 F u a1 (0 : Int32) _ _ _ h hI (lv_sub hl [0, 1] rfl)
    · have h := x_ift h c4
      refine lv_iconst (v := 2) hx hb dX7_append_28 (by decide) ?_
      refine lv_goto (tgt := 33) hx hb dX7_append_29 (by decide) ?_
      exact wX7_append_j33 F u a1 (2 : Int32) _ _ _ h hI (lv_sub hl [0, 1] rfl)
  · have h := x_ift h c3
    refine lv_iconst (v := 1) hx hb dX7_append_15 (by decide) ?_
    refine lv_goto (tgt := 33) hx hb dX7_append_16 (by decide) ?_
    exact wX7_append_j33 F u a1 (1 : Int32) _ _ _ h hI (lv_sub hl [0, 1] rfl)
abbrev rm_X7_clearBuffer : Room := { frames := 0, cells := 0, slots := 0, locals := 0 }
def fX7_clearBuffer (u : x_H) : Option (Int32 × x_H) := x_let (x_hu u 40 0 (0 : Int32)) fun u1 => x_let (u1 40 2) fun x3 => x_let (x_hu u1 40 2 (0 : Int32)) fun u5 => some (x3, u5)
set_option maxHeartbeats 4000000 in
set_option maxRecDepth 100000 in
theorem mX7_clearBuffer (l : Launch) (X : x_T) (σ : x_S) (sz : Nat) (u : x_H) (r : (Int32 × x_H)) (h : fX7_clearBuffer u  = some r) : Met l yX7_clearBuffer (x_ws yX7_clearBuffer cX7_clearBuffer 2 (some .int)) rm_X7_clearBuffer (x_Pc X (x_sh σ 11 u) sz [.ref (X.2.2 11 40)]) (x_Qi X r.1 (x_sh σ 11 r.2) sz) 0 0 (x_A X sz) := by
  refine Met.ofW (cc := cX7_clearBuffer) (maxL := 2) (ret := (some .int)) (by decide) rfl ?_
  intro p e s m args below meth c s₁ B hml hv
  obtain ⟨F, hI, rfl, rfl⟩ := x_begin B hml hv
  replace F : x_F p s m _ meth c cX7_clearBuffer 2 RX7 (some .int) := F
  have hx := F.1
  have hb := F.2.1
  have hml := F.2.2.1
  have hown := F.2.2.2.1
  have hts := F.2.2.2.2.1
  refine x_entry (vs := [.ref (X.2.2 11 40)]) (n := 2) (Nat.le_of_ble_eq_true rfl) (fun ls hl => ?_)
  replace hl : lv_has ls 2 [(0, .ref (X.2.2 11 40))] := hl
  unfold fX7_clearBuffer at h
  refine lv_aload_n hx hb dX7_clearBuffer_0 rfl (lv_at hl 0 rfl) ?_
  refine lv_iconst (v := 0) hx hb dX7_clearBuffer_1 (by decide) ?_
  refine xp_7_0 F hI (x_inO (by decide)) u_fl_X7_29 dX7_clearBuffer_2 (fun H locs u1 e2 hI => ?_)
  have h := x_let_at h e2
  refine lv_aload_n hx hb dX7_clearBuffer_5 rfl (lv_at hl 0 rfl) ?_
  refine xg_7_8 F hI (x_inO (by decide)) u_fl_X7_143 dX7_clearBuffer_6 ?_
  refine lv_topi (fun x3 e4 => ?_)
  have h := x_let_at h e4
  refine lv_istore_n (lv' := [(1, .int x3), (0, .ref (X.2.2 11 40))]) hx hb dX7_clearBuffer_9 rfl hl (by decide) rfl (fun ls hl => ?_)
  refine lv_aload_n hx hb dX7_clearBuffer_10 rfl (lv_at hl 1 rfl) ?_
  refine lv_iconst (v := 0) hx hb dX7_clearBuffer_11 (by decide) ?_
  refine xp_7_8 F hI (x_inO (by decide)) u_fl_X7_143 dX7_clearBuffer_12 (fun H locs u5 e6 hI => ?_)
  have h := x_let_at h e6
  refine lv_iload_n hx hb dX7_clearBuffer_15 rfl (lv_at hl 0 rfl) ?_
  rw [x_some h]
  exact x_iret F hI dX7_clearBuffer_16
abbrev rm_X7_here : Room := { frames := 0, cells := 0, slots := 0, locals := 0 }
def fX7_here (u : x_H) : Option Int32 := (if (u 40 2) ≤ (u 40 3) then some (-1 : Int32) else (if x_in (u 40 3) 60 then some (u 46 (Int32.toNatClampNeg (u 40 3))) else none))
set_option maxHeartbeats 4000000 in
set_option maxRecDepth 100000 in
theorem mX7_here (l : Launch) (X : x_T) (σ : x_S) (sz : Nat) (u : x_H) (r : Int32) (h : fX7_here u  = some r) : Met l yX7_here (x_ws yX7_here cX7_here 1 (some .int)) rm_X7_here (x_Pc X (x_sh σ 11 u) sz [.ref (X.2.2 11 40)]) (x_Qi X r (x_sh σ 11 u) sz) 0 0 (x_A X sz) := by
  refine Met.ofW (cc := cX7_here) (maxL := 1) (ret := (some .int)) (by decide) rfl ?_
  intro p e s m args below meth c s₁ B hml hv
  obtain ⟨F, hI, rfl, rfl⟩ := x_begin B hml hv
  replace F : x_F p s m _ meth c cX7_here 1 RX7 (some .int) := F
  have hx := F.1
  have hb := F.2.1
  have hml := F.2.2.1
  have hown := F.2.2.2.1
  have hts := F.2.2.2.2.1
  refine x_entry (vs := [.ref (X.2.2 11 40)]) (n := 1) (Nat.le_of_ble_eq_true rfl) (fun ls hl => ?_)
  replace hl : lv_has ls 1 [(0, .ref (X.2.2 11 40))] := hl
  unfold fX7_here at h
  refine lv_aload_n hx hb dX7_here_0 rfl (lv_at hl 0 rfl) ?_
  refine xg_7_9 F hI (x_inO (by decide)) u_fl_X7_146 dX7_here_1 ?_
  refine lv_aload_n hx hb dX7_here_4 rfl (lv_at hl 0 rfl) ?_
  refine xg_7_8 F hI (x_inO (by decide)) u_fl_X7_143 dX7_here_5 ?_
  refine lv_icmp_ge (tgt := 23) hx hb dX7_here_8 (by decide) (fun c1 => ?_) (fun c1 => ?_)
  · have h := x_ift h c1
    refine lv_iconst (v := (-1)) hx hb dX7_here_23 (by decide) ?_
    rw [x_some h]
    exact x_iret F hI dX7_here_24
  · have h := x_iff h c1
    refine lv_aload_n hx hb dX7_here_11 rfl (lv_at hl 0 rfl) ?_
    refine xg_7_7 F hI (x_inO (by decide)) u_fl_X7_26 dX7_here_12 ?_
    refine lv_aload_n hx hb dX7_here_15 rfl (lv_at hl 0 rfl) ?_
    refine xg_7_9 F hI (x_inO (by decide)) u_fl_X7_146 dX7_here_16 ?_
    obtain ⟨g2, h⟩ := x_chk h
    refine xh_iald (n := 60) F hI (x_inO (by decide)) (fun _ => rfl) g2 dX7_here_19 ?_
    refine lv_goto (tgt := 24) hx hb dX7_here_20 (by decide) ?_
    rw [x_some h]
    exact x_iret F hI dX7_here_24
abbrev rm_X7_pass : Room := { frames := 0, cells := 0, slots := 0, locals := 0 }
def fX7_pass_j17 (u : x_H) (z0 : Int32) : Option x_H := (if x_bo z0 then x_let (x_hu u 40 4 z0) fun u4 => (if (u4 40 4) = 0 then x_let (x_hu u4 40 3 ((u4 40 3) + (0 : Int32))) fun u7 => some (u7) else x_let (x_hu u4 40 3 ((u4 40 3) + (1 : Int32))) fun u9 => some (u9)) else none)
set_option maxHeartbeats 4000000 in
set_option maxRecDepth 100000 in
theorem wX7_pass_j17 {p : Program} {l : Launch} {e : Env} {s : State} {m : MethodId} {args : Array Value} {below : List Frame} {meth : Method} {c : Code} {X : x_T} {σ : x_S} {r : x_H} (F : x_F p s m args meth c cX7_pass 2 RX7 none) (u : x_H) (z0 : Int32) (H : Heap) (locs : List Loc) (ls : Array Slot) (h : fX7_pass_j17 u z0 = some r) (hI : x_I X (x_sh σ 11 u) s H locs) (hl : lv_has ls 2 [(0, .ref (X.2.2 11 40))]) : W p l e rm_X7_pass s m args below meth c H locs 0 0 (MQ below (x_Qv X (x_sh σ 11 r) s.heap.size) args s 0 0 (x_A X s.heap.size)) (F0 m 17 ls [.int z0, .ref (X.2.2 11 40)]) := by
  have hx := F.1
  have hb := F.2.1
  have hml := F.2.2.1
  have hown := F.2.2.2.1
  have hts := F.2.2.2.2.1
  unfold fX7_pass_j17 at h
  obtain ⟨g3, h⟩ := x_chk h
  refine xp_7_10 F hI (x_inO (by decide)) u_fl_X7_149 g3 dX7_pass_17 (fun H locs u4 e5 hI => ?_)
  have h := x_let_at h e5
  refine lv_aload_n hx hb dX7_pass_20 rfl (lv_at hl 0 rfl) ?_
  refine lv_dup hx hb dX7_pass_21 rfl ?_
  refine xg_7_9 F hI (x_inO (by decide)) u_fl_X7_146 dX7_pass_22 ?_
  refine lv_aload_n hx hb dX7_pass_25 rfl (lv_at hl 0 rfl) ?_
  refine xg_7_10 F hI (x_inO (by decide)) u_fl_X7_149 dX7_pass_26 ?_
  refine lv_if_eq (tgt := 36) hx hb dX7_pass_29 (by decide) (fun c6 => ?_) (fun c6 => ?_)
  · have h := x_ift h c6
    refine lv_iconst (v := 0) hx hb dX7_pass_36 (by decide) ?_
    refine lv_iadd hx hb dX7_pass_37 ?_
    refine xp_7_9 F hI (x_inO (by decide)) u_fl_X7_146 dX7_pass_38 (fun H locs u7 e8 hI => ?_)
    have h := x_let_at h e8
    rw [x_some h]
    exact x_vret F hI dX7_pass_41
  · have h := x_iff h c6
    refine lv_iconst (v := 1) hx hb dX7_pass_32 (by decide) ?_
    refine lv_goto (tgt := 37) hx hb dX7_pass_33 (by decide) ?_
    refine lv_iadd hx hb dX7_pass_37 ?_
    refine xp_7_9 F hI (x_inO (by decide)) u_fl_X7_146 dX7_pass_38 (fun H locs u9 e10 hI => ?_)
    have h := x_let_at h e10
    rw [x_some h]
    exact x_vret F hI dX7_pass_41
def fX7_pass_j16 (u : x_H) : Option x_H := fX7_pass_j17 u (0 : Int32)
set_option maxHeartbeats 4000000 in
set_option maxRecDepth 100000 in
theorem wX7_pass_j16 {p : Program} {l : Launch} {e : Env} {s : State} {m : MethodId} {args : Array Value} {below : List Frame} {meth : Method} {c : Code} {X : x_T} {σ : x_S} {r : x_H} (F : x_F p s m args meth c cX7_pass 2 RX7 none) (u : x_H) (H : Heap) (locs : List Loc) (ls : Array Slot) (h : fX7_pass_j16 u = some r) (hI : x_I X (x_sh σ 11 u) s H locs) (hl : lv_has ls 2 [(0, .ref (X.2.2 11 40))]) : W p l e rm_X7_pass s m args below meth c H locs 0 0 (MQ below (x_Qv X (x_sh σ 11 r) s.heap.size) args s 0 0 (x_A X s.heap.size)) (F0 m 16 ls [.ref (X.2.2 11 40)]) := by
  have hx := F.1
  have hb := F.2.1
  have hml := F.2.2.1
  have hown := F.2.2.2.1
  have hts := F.2.2.2.2.1
  unfold fX7_pass_j16 at h
  refine lv_iconst (v := 0) hx hb dX7_pass_16 (by decide) ?_
  exact wX7_pass_j17 F u (0 : Int32) _ _ _ h hI (lv_sub hl [0] rfl)
def fX7_pass (u : x_H) (a1 : Int32) : Option x_H := (if (u 40 4) = 0 then fX7_pass_j16 u else (if a1 = 0 then fX7_pass_j16 u else fX7_pass_j17 u (1 : Int32)))
set_option maxHeartbeats 4000000 in
set_option maxRecDepth 100000 in
theorem mX7_pass (l : Launch) (X : x_T) (σ : x_S) (sz : Nat) (u : x_H) (a1 : Int32) (r : x_H) (h : fX7_pass u a1 = some r) : Met l yX7_pass (x_ws yX7_pass cX7_pass 2 none) rm_X7_pass (x_Pc X (x_sh σ 11 u) sz [.ref (X.2.2 11 40), .int a1]) (x_Qv X (x_sh σ 11 r) sz) 0 0 (x_A X sz) := by
  refine Met.ofW (cc := cX7_pass) (maxL := 2) (ret := none) (by decide) rfl ?_
  intro p e s m args below meth c s₁ B hml hv
  obtain ⟨F, hI, rfl, rfl⟩ := x_begin B hml hv
  replace F : x_F p s m _ meth c cX7_pass 2 RX7 none := F
  have hx := F.1
  have hb := F.2.1
  have hml := F.2.2.1
  have hown := F.2.2.2.1
  have hts := F.2.2.2.2.1
  refine x_entry (vs := [.ref (X.2.2 11 40), .int a1]) (n := 2) (Nat.le_of_ble_eq_true rfl) (fun ls hl => ?_)
  replace hl : lv_has ls 2 [(0, .ref (X.2.2 11 40)), (1, .int a1)] := hl
  unfold fX7_pass at h
  refine lv_aload_n hx hb dX7_pass_0 rfl (lv_at hl 0 rfl) ?_
  refine lv_aload_n hx hb dX7_pass_1 rfl (lv_at hl 0 rfl) ?_
  refine xg_7_10 F hI (x_inO (by decide)) u_fl_X7_149 dX7_pass_2 ?_
  refine lv_if_eq (tgt := 16) hx hb dX7_pass_5 (by decide) (fun c1 => ?_) (fun c1 => ?_)
  · have h := x_ift h c1
    exact wX7_pass_j16 F u _ _ _ h hI (lv_sub hl [0] rfl)
  · have h := x_iff h c1
    refine lv_iload_n hx hb dX7_pass_8 rfl (lv_at hl 1 rfl) ?_
    refine lv_if_eq (tgt := 16) hx hb dX7_pass_9 (by decide) (fun c2 => ?_) (fun c2 => ?_)
    · have h := x_ift h c2
      exact wX7_pass_j16 F u _ _ _ h hI (lv_sub hl [0] rfl)
    · have h := x_iff h c2
      refine lv_iconst (v := 1) hx hb dX7_pass_12 (by decide) ?_
      refine lv_goto (tgt := 17) hx hb dX7_pass_13 (by decide) ?_
      exact wX7_pass_j17 F u (1 : Int32) _ _ _ h hI (lv_sub hl [0] rfl)
abbrev rm_X7_number : Room := { frames := 1, cells := 0, slots := 0, locals := 25 }
def fX7_number_b55 : Nat → x_H → Int32 → Int32 → Int32 → Option (Int32 × x_H)
  | 0, _, _, _, _ => none
  | n + 1, u, y2, y3, y4 => (if y4 = 0 then (if (u 40 4) = 0 then some ((0 : Int32), u) else some (y3, u)) else (Option.bind (fX7_here u ) fun r15 => x_let (r15 - (48 : Int32)) fun x17 => (Option.bind (fX7_in x17.toInt64 (0 : Int64) (9 : Int64)) fun r19 => (if r19 = 0 then x_let (x_hu u 40 3 ((u 40 3) + (0 : Int32))) fun u22 => fX7_number_b55 n u22 y2 y3 (0 : Int32) else (if y2 < (((10 : Int32) * y3) + x17) then x_let (x_hu u 40 3 ((u 40 3) + (0 : Int32))) fun u25 => fX7_number_b55 n u25 y2 y3 (0 : Int32) else x_let (((10 : Int32) * y3) + x17) fun x27 => x_let (x_hu u 40 3 ((u 40 3) + (1 : Int32))) fun u29 => fX7_number_b55 n u29 y2 x27 (1 : Int32))))))
set_option maxHeartbeats 4000000 in
set_option maxRecDepth 100000 in
theorem wX7_number_b55 {p : Program} {l : Launch} {e : Env} {s : State} {m : MethodId} {args : Array Value} {below : List Frame} {meth : Method} {c : Code} {X : x_T} {σ : x_S} {r : (Int32 × x_H)} (F : x_F p s m args meth c cX7_number 6 RX7 (some .int)) : ∀ (n : Nat) (u : x_H) (y2 : Int32) (y3 : Int32) (y4 : Int32) (H : Heap) (locs : List Loc) (ls : Array Slot), fX7_number_b55 n u y2 y3 y4 = some r → x_I X (x_sh σ 11 u) s H locs → lv_has ls 6 [(0, .ref (X.2.2 11 40)), (2, .int y2), (3, .int y3), (4, .int y4)] → W p l e rm_X7_number s m args below meth c H locs 0 0 (MQ below (x_Qi X r.1 (x_sh σ 11 r.2) s.heap.size) args s 0 0 (x_A X s.heap.size)) (F0 m 55 ls []) := by
  have hx := F.1
  have hb := F.2.1
  have hml := F.2.2.1
  have hown := F.2.2.2.1
  have hts := F.2.2.2.2.1
  intro n
  induction n with
  | zero =>
    intro u y2 y3 y4 H locs ls h
    rw [fX7_number_b55] at h
    cases h
  | succ n ih =>
    intro u y2 y3 y4 H locs ls h hI hl
    rw [fX7_number_b55] at h
    refine lv_iload hx hb dX7_number_55 (lv_at hl 3 rfl) ?_
    refine lv_if_eq (tgt := 139) hx hb dX7_number_57 (by decide) (fun c13 => ?_) (fun c13 => ?_)
    · have h := x_ift h c13
      refine lv_aload_n hx hb dX7_number_139 rfl (lv_at hl 0 rfl) ?_
      refine xg_7_10 F hI (x_inO (by decide)) u_fl_X7_149 dX7_number_140 ?_
      refine lv_if_eq (tgt := 150) hx hb dX7_number_143 (by decide) (fun c14 => ?_) (fun c14 => ?_)
      · have h := x_ift h c14
        refine lv_iconst (v := 0) hx hb dX7_number_150 (by decide) ?_
        rw [x_some h]
        exact x_iret F hI dX7_number_151
      · have h := x_iff h c14
        refine lv_iload_n hx hb dX7_number_146 rfl (lv_at hl 2 rfl) ?_
        refine lv_goto (tgt := 151) hx hb dX7_number_147 (by decide) ?_
        rw [x_some h]
        exact x_iret F hI dX7_number_151
    · have h := x_iff h c13
      refine lv_aload_n hx hb dX7_number_60 rfl (lv_at hl 0 rfl) ?_
      obtain ⟨r15, h16, h⟩ := x_bnd h
      refine x_aci hI (x_runV (rest := []) F hI (mX7_here l X σ _ u  r15 h16) g_X7_153 ⟨rfl, hd_X7_here⟩ ⟨by decide, by decide⟩ ⟨rfl, rfl⟩ (x_inO (by decide)) rfl rfl rfl rfl hl.1 rfl (Nat.le_of_ble_eq_true rfl) dX7_number_61 ⟨Nat.zero_le _, Nat.zero_le _⟩) (fun H locs hI => ?_)
      refine lv_bipush (v := 48) hx hb dX7_number_64 (by decide) ?_
      refine lv_isub hx hb dX7_number_66 ?_
      refine lv_topi (fun x17 e18 => ?_)
      have h := x_let_at h e18
      refine lv_istore (lv' := [(5, .int x17), (0, .ref (X.2.2 11 40)), (2, .int y2), (3, .int y3), (4, .int y4)]) hx hb dX7_number_67 hl (by decide) rfl (fun ls hl => ?_)
      refine lv_iload hx hb dX7_number_69 (lv_at hl 0 rfl) ?_
      refine lv_i2l hx hb dX7_number_71 rfl ?_
      refine lv_lconst (v := 0) hx hb dX7_number_72 (by decide) ?_
      refine lv_ldc2 (v := 9) hx hb hown (hts _ u_cl_X7_157) dX7_number_73 ?_
      obtain ⟨r19, h20, h⟩ := x_bnd h
      refine x_aci hI (x_runS (rest := []) F hI (mX7_in l X (x_sh σ 11 u) _ x17.toInt64 (0 : Int64) (9 : Int64) r19 h20) g_X7_35 hd_X7_in ⟨by decide, by decide⟩ ⟨rfl, rfl⟩ rfl hl.1 rfl (Nat.le_of_ble_eq_true rfl) dX7_number_76 ⟨Nat.zero_le _, Nat.zero_le _⟩) (fun H locs hI => ?_)
      refine lv_if_eq (tgt := 97) hx hb dX7_number_79 (by decide) (fun c21 => ?_) (fun c21 => ?_)
      · have h := x_ift h c21
        refine lv_iconst (v := 0) hx hb dX7_number_97 (by decide) ?_
        refine lv_istore (lv' := [(4, .int (0)), (5, .int x17), (0, .ref (X.2.2 11 40)), (2, .int y2), (3, .int y3)]) hx hb dX7_number_98 hl (by decide) rfl (fun ls hl => ?_)
        refine lv_iload hx hb dX7_number_100 (lv_at hl 0 rfl) ?_
        refine lv_if_eq (tgt := 115) hx hb dX7_number_102 (by decide) (fun _ => ?_) (fun c9 => absurd (by decide) c9)
        refine lv_iload_n hx hb dX7_number_115 rfl (lv_at hl 4 rfl) ?_
        refine lv_istore_n (lv' := [(3, .int y3), (4, .int (0)), (5, .int x17), (0, .ref (X.2.2 11 40)), (2, .int y2)]) hx hb dX7_number_116 rfl hl (by decide) rfl (fun ls hl => ?_)
        refine lv_aload_n hx hb dX7_number_117 rfl (lv_at hl 3 rfl) ?_
        refine lv_dup hx hb dX7_number_118 rfl ?_
        refine xg_7_9 F hI (x_inO (by decide)) u_fl_X7_146 dX7_number_119 ?_
        refine lv_iload hx hb dX7_number_122 (lv_at hl 1 rfl) ?_
        refine lv_if_eq (tgt := 131) hx hb dX7_number_124 (by decide) (fun _ => ?_) (fun c9 => absurd (by decide) c9)
        refine lv_iconst (v := 0) hx hb dX7_number_131 (by decide) ?_
        refine lv_iadd hx hb dX7_number_132 ?_
        refine xp_7_9 F hI (x_inO (by decide)) u_fl_X7_146 dX7_number_133 (fun H locs u22 e23 hI => ?_)
        have h := x_let_at h e23
        refine lv_goto (tgt := 55) hx hb dX7_number_136 (by decide) ?_
        exact ih u22 y2 y3 (0 : Int32) _ _ _ h hI (lv_sub hl [3, 4, 0, 1] rfl)
      · have h := x_iff h c21
        refine lv_bipush (v := 10) hx hb dX7_number_82 (by decide) ?_
        refine lv_iload_n hx hb dX7_number_84 rfl (lv_at hl 3 rfl) ?_
        refine lv_imul hx hb dX7_number_85 ?_
        refine lv_iload hx hb dX7_number_86 (lv_at hl 0 rfl) ?_
        refine lv_iadd hx hb dX7_number_88 ?_
        refine lv_iload_n hx hb dX7_number_89 rfl (lv_at hl 2 rfl) ?_
        refine lv_icmp_gt (tgt := 97) hx hb dX7_number_90 (by decide) (fun c24 => ?_) (fun c24 => ?_)
        · have h := x_ift h c24
          refine lv_iconst (v := 0) hx hb dX7_number_97 (by decide) ?_
          refine lv_istore (lv' := [(4, .int (0)), (5, .int x17), (0, .ref (X.2.2 11 40)), (2, .int y2), (3, .int y3)]) hx hb dX7_number_98 hl (by decide) rfl (fun ls hl => ?_)
          refine lv_iload hx hb dX7_number_100 (lv_at hl 0 rfl) ?_
          refine lv_if_eq (tgt := 115) hx hb dX7_number_102 (by decide) (fun _ => ?_) (fun c9 => absurd (by decide) c9)
          refine lv_iload_n hx hb dX7_number_115 rfl (lv_at hl 4 rfl) ?_
          refine lv_istore_n (lv' := [(3, .int y3), (4, .int (0)), (5, .int x17), (0, .ref (X.2.2 11 40)), (2, .int y2)]) hx hb dX7_number_116 rfl hl (by decide) rfl (fun ls hl => ?_)
          refine lv_aload_n hx hb dX7_number_117 rfl (lv_at hl 3 rfl) ?_
          refine lv_dup hx hb dX7_number_118 rfl ?_
          refine xg_7_9 F hI (x_inO (by decide)) u_fl_X7_146 dX7_number_119 ?_
          refine lv_iload hx hb dX7_number_122 (lv_at hl 1 rfl) ?_
          refine lv_if_eq (tgt := 131) hx hb dX7_number_124 (by decide) (fun _ => ?_) (fun c9 => absurd (by decide) c9)
          refine lv_iconst (v := 0) hx hb dX7_number_131 (by decide) ?_
          refine lv_iadd hx hb dX7_number_132 ?_
          refine xp_7_9 F hI (x_inO (by decide)) u_fl_X7_146 dX7_number_133 (fun H locs u25 e26 hI => ?_)
          have h := x_let_at h e26
          refine lv_goto (tgt := 55) hx hb dX7_number_136 (by decide) ?_
          exact ih u25 y2 y3 (0 : Int32) _ _ _ h hI (lv_sub hl [3, 4, 0, 1] rfl)
        · have h := x_iff h c24
          refine lv_iconst (v := 1) hx hb dX7_number_93 (by decide) ?_
          refine lv_goto (tgt := 98) hx hb dX7_number_94 (by decide) ?_
          refine lv_istore (lv' := [(4, .int (1)), (5, .int x17), (0, .ref (X.2.2 11 40)), (2, .int y2), (3, .int y3)]) hx hb dX7_number_98 hl (by decide) rfl (fun ls hl => ?_)
          refine lv_iload hx hb dX7_number_100 (lv_at hl 0 rfl) ?_
          refine lv_if_eq (tgt := 115) hx hb dX7_number_102 (by decide) (fun c9 => absurd c9 (by decide)) (fun _ => ?_)
          refine lv_bipush (v := 10) hx hb dX7_number_105 (by decide) ?_
          refine lv_iload_n hx hb dX7_number_107 rfl (lv_at hl 4 rfl) ?_
          refine lv_imul hx hb dX7_number_108 ?_
          refine lv_iload hx hb dX7_number_109 (lv_at hl 1 rfl) ?_
          refine lv_iadd hx hb dX7_number_111 ?_
          refine lv_goto (tgt := 116) hx hb dX7_number_112 (by decide) ?_
          refine lv_topi (fun x27 e28 => ?_)
          have h := x_let_at h e28
          refine lv_istore_n (lv' := [(3, .int x27), (4, .int (1)), (5, .int x17), (0, .ref (X.2.2 11 40)), (2, .int y2)]) hx hb dX7_number_116 rfl hl (by decide) rfl (fun ls hl => ?_)
          refine lv_aload_n hx hb dX7_number_117 rfl (lv_at hl 3 rfl) ?_
          refine lv_dup hx hb dX7_number_118 rfl ?_
          refine xg_7_9 F hI (x_inO (by decide)) u_fl_X7_146 dX7_number_119 ?_
          refine lv_iload hx hb dX7_number_122 (lv_at hl 1 rfl) ?_
          refine lv_if_eq (tgt := 131) hx hb dX7_number_124 (by decide) (fun c9 => absurd c9 (by decide)) (fun _ => ?_)
          refine lv_iconst (v := 1) hx hb dX7_number_127 (by decide) ?_
          refine lv_goto (tgt := 132) hx hb dX7_number_128 (by decide) ?_
          refine lv_iadd hx hb dX7_number_132 ?_
          refine xp_7_9 F hI (x_inO (by decide)) u_fl_X7_146 dX7_number_133 (fun H locs u29 e30 hI => ?_)
          have h := x_let_at h e30
          refine lv_goto (tgt := 55) hx hb dX7_number_136 (by decide) ?_
          exact ih u29 y2 x27 (1 : Int32) _ _ _ h hI (lv_sub hl [3, 4, 0, 1] rfl)
def fX7_number_j53 (u : x_H) (y2 : Int32) (y3 : Int32) (z0 : Int32) : Option (Int32 × x_H) := fX7_number_b55 400 u y2 y3 z0
set_option maxHeartbeats 4000000 in
set_option maxRecDepth 100000 in
theorem wX7_number_j53 {p : Program} {l : Launch} {e : Env} {s : State} {m : MethodId} {args : Array Value} {below : List Frame} {meth : Method} {c : Code} {X : x_T} {σ : x_S} {r : (Int32 × x_H)} (F : x_F p s m args meth c cX7_number 6 RX7 (some .int)) (u : x_H) (y2 : Int32) (y3 : Int32) (z0 : Int32) (H : Heap) (locs : List Loc) (ls : Array Slot) (h : fX7_number_j53 u y2 y3 z0 = some r) (hI : x_I X (x_sh σ 11 u) s H locs) (hl : lv_has ls 6 [(0, .ref (X.2.2 11 40)), (2, .int y2), (3, .int y3)]) : W p l e rm_X7_number s m args below meth c H locs 0 0 (MQ below (x_Qi X r.1 (x_sh σ 11 r.2) s.heap.size) args s 0 0 (x_A X s.heap.size)) (F0 m 53 ls [.int z0]) := by
  have hx := F.1
  have hb := F.2.1
  have hml := F.2.2.1
  have hown := F.2.2.2.1
  have hts := F.2.2.2.2.1
  unfold fX7_number_j53 at h
  refine lv_istore (lv' := [(4, .int z0), (0, .ref (X.2.2 11 40)), (2, .int y2), (3, .int y3)]) hx hb dX7_number_53 hl (by decide) rfl (fun ls hl => ?_)
  exact wX7_number_b55 F 400 u y2 y3 z0 _ _ _ h hI (lv_sub hl [1, 2, 3, 0] rfl)
def fX7_number_j52 (u : x_H) (y2 : Int32) (y3 : Int32) : Option (Int32 × x_H) := fX7_number_j53 u y2 y3 (0 : Int32)
set_option maxHeartbeats 4000000 in
set_option maxRecDepth 100000 in
theorem wX7_number_j52 {p : Program} {l : Launch} {e : Env} {s : State} {m : MethodId} {args : Array Value} {below : List Frame} {meth : Method} {c : Code} {X : x_T} {σ : x_S} {r : (Int32 × x_H)} (F : x_F p s m args meth c cX7_number 6 RX7 (some .int)) (u : x_H) (y2 : Int32) (y3 : Int32) (H : Heap) (locs : List Loc) (ls : Array Slot) (h : fX7_number_j52 u y2 y3 = some r) (hI : x_I X (x_sh σ 11 u) s H locs) (hl : lv_has ls 6 [(0, .ref (X.2.2 11 40)), (2, .int y2), (3, .int y3)]) : W p l e rm_X7_number s m args below meth c H locs 0 0 (MQ below (x_Qi X r.1 (x_sh σ 11 r.2) s.heap.size) args s 0 0 (x_A X s.heap.size)) (F0 m 52 ls []) := by
  have hx := F.1
  have hb := F.2.1
  have hml := F.2.2.1
  have hown := F.2.2.2.1
  have hts := F.2.2.2.2.1
  unfold fX7_number_j52 at h
  refine lv_iconst (v := 0) hx hb dX7_number_52 (by decide) ?_
  exact wX7_number_j53 F u y2 y3 (0 : Int32) _ _ _ h hI (lv_sub hl [0, 1, 2] rfl)
def fX7_number_j34 (u : x_H) (y2 : Int32) (y3 : Int32) (z0 : Int32) : Option (Int32 × x_H) := (Option.bind (fX7_pass u z0) fun r9 => (if (r9 40 4) = 0 then fX7_number_j52 r9 y2 y3 else (if y3 ≤ 0 then fX7_number_j52 r9 y2 y3 else fX7_number_j53 r9 y2 y3 (1 : Int32))))
set_option maxHeartbeats 4000000 in
set_option maxRecDepth 100000 in
theorem wX7_number_j34 {p : Program} {l : Launch} {e : Env} {s : State} {m : MethodId} {args : Array Value} {below : List Frame} {meth : Method} {c : Code} {X : x_T} {σ : x_S} {r : (Int32 × x_H)} (F : x_F p s m args meth c cX7_number 6 RX7 (some .int)) (u : x_H) (y2 : Int32) (y3 : Int32) (z0 : Int32) (H : Heap) (locs : List Loc) (ls : Array Slot) (h : fX7_number_j34 u y2 y3 z0 = some r) (hI : x_I X (x_sh σ 11 u) s H locs) (hl : lv_has ls 6 [(0, .ref (X.2.2 11 40)), (2, .int y2), (3, .int y3)]) : W p l e rm_X7_number s m args below meth c H locs 0 0 (MQ below (x_Qi X r.1 (x_sh σ 11 r.2) s.heap.size) args s 0 0 (x_A X s.heap.size)) (F0 m 34 ls [.int z0, .ref (X.2.2 11 40)]) := by
  have hx := F.1
  have hb := F.2.1
  have hml := F.2.2.1
  have hown := F.2.2.2.1
  have hts := F.2.2.2.2.1
  unfold fX7_number_j34 at h
  obtain ⟨r9, h10, h⟩ := x_bnd h
  refine x_acv hI (x_runV (rest := []) F hI (mX7_pass l X σ _ u z0 r9 h10) g_X7_159 ⟨rfl, hd_X7_pass⟩ ⟨by decide, by decide⟩ ⟨rfl, rfl⟩ (x_inO (by decide)) rfl rfl rfl rfl hl.1 rfl (Nat.le_of_ble_eq_true rfl) dX7_number_34 ⟨Nat.zero_le _, Nat.zero_le _⟩) (fun H locs hI => ?_)
  refine lv_aload_n hx hb dX7_number_37 rfl (lv_at hl 0 rfl) ?_
  refine xg_7_10 F hI (x_inO (by decide)) u_fl_X7_149 dX7_number_38 ?_
  refine lv_if_eq (tgt := 52) hx hb dX7_number_41 (by decide) (fun c11 => ?_) (fun c11 => ?_)
  · have h := x_ift h c11
    exact wX7_number_j52 F r9 y2 y3 _ _ _ h hI (lv_sub hl [0, 1, 2] rfl)
  · have h := x_iff h c11
    refine lv_iload_n hx hb dX7_number_44 rfl (lv_at hl 2 rfl) ?_
    refine lv_if_le (tgt := 52) hx hb dX7_number_45 (by decide) (fun c12 => ?_) (fun c12 => ?_)
    · have h := x_ift h c12
      exact wX7_number_j52 F r9 y2 y3 _ _ _ h hI (lv_sub hl [0, 1, 2] rfl)
    · have h := x_iff h c12
      refine lv_iconst (v := 1) hx hb dX7_number_48 (by decide) ?_
      refine lv_goto (tgt := 53) hx hb dX7_number_49 (by decide) ?_
      exact wX7_number_j53 F r9 y2 y3 (1 : Int32) _ _ _ h hI (lv_sub hl [0, 1, 2] rfl)
def fX7_number_j33 (u : x_H) (y2 : Int32) (y3 : Int32) : Option (Int32 × x_H) := fX7_number_j34 u y2 y3 (0 : Int32)
set_option maxHeartbeats 4000000 in
set_option maxRecDepth 100000 in
theorem wX7_number_j33 {p : Program} {l : Launch} {e : Env} {s : State} {m : MethodId} {args : Array Value} {below : List Frame} {meth : Method} {c : Code} {X : x_T} {σ : x_S} {r : (Int32 × x_H)} (F : x_F p s m args meth c cX7_number 6 RX7 (some .int)) (u : x_H) (y2 : Int32) (y3 : Int32) (H : Heap) (locs : List Loc) (ls : Array Slot) (h : fX7_number_j33 u y2 y3 = some r) (hI : x_I X (x_sh σ 11 u) s H locs) (hl : lv_has ls 6 [(0, .ref (X.2.2 11 40)), (2, .int y2), (3, .int y3)]) : W p l e rm_X7_number s m args below meth c H locs 0 0 (MQ below (x_Qi X r.1 (x_sh σ 11 r.2) s.heap.size) args s 0 0 (x_A X s.heap.size)) (F0 m 33 ls [.ref (X.2.2 11 40)]) := by
  have hx := F.1
  have hb := F.2.1
  have hml := F.2.2.1
  have hown := F.2.2.2.1
  have hts := F.2.2.2.2.1
  unfold fX7_number_j33 at h
  refine lv_iconst (v := 0) hx hb dX7_number_33 (by decide) ?_
  exact wX7_number_j34 F u y2 y3 (0 : Int32) _ _ _ h hI (lv_sub hl [0, 1, 2] rfl)
def fX7_number (u : x_H) (a1 : Int32) (a2 : Int32) : Option (Int32 × x_H) := (Option.bind (fX7_here u ) fun r1 => x_let (r1 - (48 : Int32)) fun x3 => (if (u 40 4) = 0 then fX7_number_j33 u a2 x3 else (Option.bind (fX7_in x3.toInt64 a1.toInt64 (9 : Int64)) fun r6 => (if r6 = 0 then fX7_number_j33 u a2 x3 else fX7_number_j34 u a2 x3 (1 : Int32)))))
set_option maxHeartbeats 4000000 in
set_option maxRecDepth 100000 in
theorem mX7_number (l : Launch) (X : x_T) (σ : x_S) (sz : Nat) (u : x_H) (a1 : Int32) (a2 : Int32) (r : (Int32 × x_H)) (h : fX7_number u a1 a2 = some r) : Met l yX7_number (x_ws yX7_number cX7_number 6 (some .int)) rm_X7_number (x_Pc X (x_sh σ 11 u) sz [.ref (X.2.2 11 40), .int a1, .int a2]) (x_Qi X r.1 (x_sh σ 11 r.2) sz) 0 0 (x_A X sz) := by
  refine Met.ofW (cc := cX7_number) (maxL := 6) (ret := (some .int)) (by decide) rfl ?_
  intro p e s m args below meth c s₁ B hml hv
  obtain ⟨F, hI, rfl, rfl⟩ := x_begin B hml hv
  replace F : x_F p s m _ meth c cX7_number 6 RX7 (some .int) := F
  have hx := F.1
  have hb := F.2.1
  have hml := F.2.2.1
  have hown := F.2.2.2.1
  have hts := F.2.2.2.2.1
  refine x_entry (vs := [.ref (X.2.2 11 40), .int a1, .int a2]) (n := 6) (Nat.le_of_ble_eq_true rfl) (fun ls hl => ?_)
  replace hl : lv_has ls 6 [(0, .ref (X.2.2 11 40)), (1, .int a1), (2, .int a2)] := hl
  unfold fX7_number at h
  refine lv_aload_n hx hb dX7_number_0 rfl (lv_at hl 0 rfl) ?_
  obtain ⟨r1, h2, h⟩ := x_bnd h
  refine x_aci hI (x_runV (rest := []) F hI (mX7_here l X σ _ u  r1 h2) g_X7_153 ⟨rfl, hd_X7_here⟩ ⟨by decide, by decide⟩ ⟨rfl, rfl⟩ (x_inO (by decide)) rfl rfl rfl rfl hl.1 rfl (Nat.le_of_ble_eq_true rfl) dX7_number_1 ⟨Nat.zero_le _, Nat.zero_le _⟩) (fun H locs hI => ?_)
  refine lv_bipush (v := 48) hx hb dX7_number_4 (by decide) ?_
  refine lv_isub hx hb dX7_number_6 ?_
  refine lv_topi (fun x3 e4 => ?_)
  have h := x_let_at h e4
  refine lv_istore_n (lv' := [(3, .int x3), (0, .ref (X.2.2 11 40)), (1, .int a1), (2, .int a2)]) hx hb dX7_number_7 rfl hl (by decide) rfl (fun ls hl => ?_)
  refine lv_aload_n hx hb dX7_number_8 rfl (lv_at hl 1 rfl) ?_
  refine lv_aload_n hx hb dX7_number_9 rfl (lv_at hl 1 rfl) ?_
  refine xg_7_10 F hI (x_inO (by decide)) u_fl_X7_149 dX7_number_10 ?_
  refine lv_if_eq (tgt := 33) hx hb dX7_number_13 (by decide) (fun c5 => ?_) (fun c5 => ?_)
  · have h := x_ift h c5
    exact wX7_number_j33 F u a2 x3 _ _ _ h hI (lv_sub hl [1, 3, 0] rfl)
  · have h := x_iff h c5
    refine lv_iload_n hx hb dX7_number_16 rfl (lv_at hl 0 rfl) ?_
    refine lv_i2l hx hb dX7_number_17 rfl ?_
    refine lv_iload_n hx hb dX7_number_18 rfl (lv_at hl 2 rfl) ?_
    refine lv_i2l hx hb dX7_number_19 rfl ?_
    refine lv_ldc2 (v := 9) hx hb hown (hts _ u_cl_X7_157) dX7_number_20 ?_
    obtain ⟨r6, h7, h⟩ := x_bnd h
    refine x_aci hI (x_runS (rest := [.ref (X.2.2 11 40)]) F hI (mX7_in l X (x_sh σ 11 u) _ x3.toInt64 a1.toInt64 (9 : Int64) r6 h7) g_X7_35 hd_X7_in ⟨by decide, by decide⟩ ⟨rfl, rfl⟩ rfl hl.1 rfl (Nat.le_of_ble_eq_true rfl) dX7_number_23 ⟨Nat.zero_le _, Nat.zero_le _⟩) (fun H locs hI => ?_)
    refine lv_if_eq (tgt := 33) hx hb dX7_number_26 (by decide) (fun c8 => ?_) (fun c8 => ?_)
    · have h := x_ift h c8
      exact wX7_number_j33 F u a2 x3 _ _ _ h hI (lv_sub hl [1, 3, 0] rfl)
    · have h := x_iff h c8
      refine lv_iconst (v := 1) hx hb dX7_number_29 (by decide) ?_
      refine lv_goto (tgt := 34) hx hb dX7_number_30 (by decide) ?_
      exact wX7_number_j34 F u a2 x3 (1 : Int32) _ _ _ h hI (lv_sub hl [1, 3, 0] rfl)
abbrev rm_X7_goes : Room := { frames := 0, cells := 0, slots := 0, locals := 0 }
def fX7_goes_j19 (u : x_H) : Option (Int32 × x_H) := x_let (x_hu u 40 5 (1 : Int32)) fun u12 => (if (u12 40 4) = 0 then some ((0 : Int32), u12) else (if (u12 40 5) = 0 then some ((0 : Int32), u12) else some ((1 : Int32), u12)))
set_option maxHeartbeats 4000000 in
set_option maxRecDepth 100000 in
theorem wX7_goes_j19 {p : Program} {l : Launch} {e : Env} {s : State} {m : MethodId} {args : Array Value} {below : List Frame} {meth : Method} {c : Code} {X : x_T} {σ : x_S} {r : (Int32 × x_H)} (F : x_F p s m args meth c cX7_goes 2 RX7 (some .boolean)) (u : x_H) (H : Heap) (locs : List Loc) (ls : Array Slot) (h : fX7_goes_j19 u = some r) (hI : x_I X (x_sh σ 11 u) s H locs) (hl : lv_has ls 2 [(0, .ref (X.2.2 11 40))]) : W p l e rm_X7_goes s m args below meth c H locs 0 0 (MQ below (x_Qi X r.1 (x_sh σ 11 r.2) s.heap.size) args s 0 0 (x_A X s.heap.size)) (F0 m 19 ls [.ref (X.2.2 11 40)]) := by
  have hx := F.1
  have hb := F.2.1
  have hml := F.2.2.1
  have hown := F.2.2.2.1
  have hts := F.2.2.2.2.1
  unfold fX7_goes_j19 at h
  refine lv_iconst (v := 1) hx hb dX7_goes_19 (by decide) ?_
  refine lv_goto (tgt := 24) hx hb dX7_goes_20 (by decide) ?_
  refine xp_7_11 F hI (x_inO (by decide)) u_fl_X7_163 (by decide) dX7_goes_24 (fun H locs u12 e13 hI => ?_)
  have h := x_let_at h e13
  refine lv_aload_n hx hb dX7_goes_27 rfl (lv_at hl 0 rfl) ?_
  refine xg_7_10 F hI (x_inO (by decide)) u_fl_X7_149 dX7_goes_28 ?_
  refine lv_if_eq (tgt := 45) hx hb dX7_goes_31 (by decide) (fun c14 => ?_) (fun c14 => ?_)
  · have h := x_ift h c14
    refine lv_iconst (v := 0) hx hb dX7_goes_45 (by decide) ?_
    rw [x_some h]
    exact x_zret (v := 0) F hI (by decide) dX7_goes_46
  · have h := x_iff h c14
    refine lv_aload_n hx hb dX7_goes_34 rfl (lv_at hl 0 rfl) ?_
    refine xg_7_11 F hI (x_inO (by decide)) u_fl_X7_163 dX7_goes_35 ?_
    refine lv_if_eq (tgt := 45) hx hb dX7_goes_38 (by decide) (fun c15 => ?_) (fun c15 => ?_)
    · have h := x_ift h c15
      refine lv_iconst (v := 0) hx hb dX7_goes_45 (by decide) ?_
      rw [x_some h]
      exact x_zret (v := 0) F hI (by decide) dX7_goes_46
    · have h := x_iff h c15
      refine lv_iconst (v := 1) hx hb dX7_goes_41 (by decide) ?_
      refine lv_goto (tgt := 46) hx hb dX7_goes_42 (by decide) ?_
      rw [x_some h]
      exact x_zret (v := 1) F hI (by decide) dX7_goes_46
def fX7_goes (u : x_H) (a1 : Int32) : Option (Int32 × x_H) := (if (u 40 5) = 0 then x_let (x_hu u 40 5 (0 : Int32)) fun u2 => (if (u2 40 4) = 0 then some ((0 : Int32), u2) else (if (u2 40 5) = 0 then some ((0 : Int32), u2) else some ((1 : Int32), u2))) else (if (u 40 4) = 0 then fX7_goes_j19 u else (if a1 = 0 then x_let (x_hu u 40 5 (0 : Int32)) fun u8 => (if (u8 40 4) = 0 then some ((0 : Int32), u8) else (if (u8 40 5) = 0 then some ((0 : Int32), u8) else some ((1 : Int32), u8))) else fX7_goes_j19 u)))
set_option maxHeartbeats 4000000 in
set_option maxRecDepth 100000 in
theorem mX7_goes (l : Launch) (X : x_T) (σ : x_S) (sz : Nat) (u : x_H) (a1 : Int32) (r : (Int32 × x_H)) (h : fX7_goes u a1 = some r) : Met l yX7_goes (x_ws yX7_goes cX7_goes 2 (some .boolean)) rm_X7_goes (x_Pc X (x_sh σ 11 u) sz [.ref (X.2.2 11 40), .int a1]) (x_Qi X r.1 (x_sh σ 11 r.2) sz) 0 0 (x_A X sz) := by
  refine Met.ofW (cc := cX7_goes) (maxL := 2) (ret := (some .boolean)) (by decide) rfl ?_
  intro p e s m args below meth c s₁ B hml hv
  obtain ⟨F, hI, rfl, rfl⟩ := x_begin B hml hv
  replace F : x_F p s m _ meth c cX7_goes 2 RX7 (some .boolean) := F
  have hx := F.1
  have hb := F.2.1
  have hml := F.2.2.1
  have hown := F.2.2.2.1
  have hts := F.2.2.2.2.1
  refine x_entry (vs := [.ref (X.2.2 11 40), .int a1]) (n := 2) (Nat.le_of_ble_eq_true rfl) (fun ls hl => ?_)
  replace hl : lv_has ls 2 [(0, .ref (X.2.2 11 40)), (1, .int a1)] := hl
  unfold fX7_goes at h
  refine lv_aload_n hx hb dX7_goes_0 rfl (lv_at hl 0 rfl) ?_
  refine lv_aload_n hx hb dX7_goes_1 rfl (lv_at hl 0 rfl) ?_
  refine xg_7_11 F hI (x_inO (by decide)) u_fl_X7_163 dX7_goes_2 ?_
  refine lv_if_eq (tgt := 23) hx hb dX7_goes_5 (by decide) (fun c1 => ?_) (fun c1 => ?_)
  · have h := x_ift h c1
    refine lv_iconst (v := 0) hx hb dX7_goes_23 (by decide) ?_
    refine xp_7_11 F hI (x_inO (by decide)) u_fl_X7_163 (by decide) dX7_goes_24 (fun H locs u2 e3 hI => ?_)
    have h := x_let_at h e3
    refine lv_aload_n hx hb dX7_goes_27 rfl (lv_at hl 0 rfl) ?_
    refine xg_7_10 F hI (x_inO (by decide)) u_fl_X7_149 dX7_goes_28 ?_
    refine lv_if_eq (tgt := 45) hx hb dX7_goes_31 (by decide) (fun c4 => ?_) (fun c4 => ?_)
    · have h := x_ift h c4
      refine lv_iconst (v := 0) hx hb dX7_goes_45 (by decide) ?_
      rw [x_some h]
      exact x_zret (v := 0) F hI (by decide) dX7_goes_46
    · have h := x_iff h c4
      refine lv_aload_n hx hb dX7_goes_34 rfl (lv_at hl 0 rfl) ?_
      refine xg_7_11 F hI (x_inO (by decide)) u_fl_X7_163 dX7_goes_35 ?_
      refine lv_if_eq (tgt := 45) hx hb dX7_goes_38 (by decide) (fun c5 => ?_) (fun c5 => ?_)
      · have h := x_ift h c5
        refine lv_iconst (v := 0) hx hb dX7_goes_45 (by decide) ?_
        rw [x_some h]
        exact x_zret (v := 0) F hI (by decide) dX7_goes_46
      · have h := x_iff h c5
        refine lv_iconst (v := 1) hx hb dX7_goes_41 (by decide) ?_
        refine lv_goto (tgt := 46) hx hb dX7_goes_42 (by decide) ?_
        rw [x_some h]
        exact x_zret (v := 1) F hI (by decide) dX7_goes_46
  · have h := x_iff h c1
    refine lv_aload_n hx hb dX7_goes_8 rfl (lv_at hl 0 rfl) ?_
    refine xg_7_10 F hI (x_inO (by decide)) u_fl_X7_149 dX7_goes_9 ?_
    refine lv_if_eq (tgt := 19) hx hb dX7_goes_12 (by decide) (fun c6 => ?_) (fun c6 => ?_)
    · have h := x_ift h c6
      exact wX7_goes_j19 F u _ _ _ h hI (lv_sub hl [0] rfl)
    · have h := x_iff h c6
      refine lv_iload_n hx hb dX7_goes_15 rfl (lv_at hl 1 rfl) ?_
      refine lv_if_eq (tgt := 23) hx hb dX7_goes_16 (by decide) (fun c7 => ?_) (fun c7 => ?_)
      · have h := x_ift h c7
        refine lv_iconst (v := 0) hx hb dX7_goes_23 (by decide) ?_
        refine xp_7_11 F hI (x_inO (by decide)) u_fl_X7_163 (by decide) dX7_goes_24 (fun H locs u8 e9 hI => ?_)
        have h := x_let_at h e9
        refine lv_aload_n hx hb dX7_goes_27 rfl (lv_at hl 0 rfl) ?_
        refine xg_7_10 F hI (x_inO (by decide)) u_fl_X7_149 dX7_goes_28 ?_
        refine lv_if_eq (tgt := 45) hx hb dX7_goes_31 (by decide) (fun c10 => ?_) (fun c10 => ?_)
        · have h := x_ift h c10
          refine lv_iconst (v := 0) hx hb dX7_goes_45 (by decide) ?_
          rw [x_some h]
          exact x_zret (v := 0) F hI (by decide) dX7_goes_46
        · have h := x_iff h c10
          refine lv_aload_n hx hb dX7_goes_34 rfl (lv_at hl 0 rfl) ?_
          refine xg_7_11 F hI (x_inO (by decide)) u_fl_X7_163 dX7_goes_35 ?_
          refine lv_if_eq (tgt := 45) hx hb dX7_goes_38 (by decide) (fun c11 => ?_) (fun c11 => ?_)
          · have h := x_ift h c11
            refine lv_iconst (v := 0) hx hb dX7_goes_45 (by decide) ?_
            rw [x_some h]
            exact x_zret (v := 0) F hI (by decide) dX7_goes_46
          · have h := x_iff h c11
            refine lv_iconst (v := 1) hx hb dX7_goes_41 (by decide) ?_
            refine lv_goto (tgt := 46) hx hb dX7_goes_42 (by decide) ?_
            rw [x_some h]
            exact x_zret (v := 1) F hI (by decide) dX7_goes_46
      · have h := x_iff h c7
        exact wX7_goes_j19 F u _ _ _ h hI (lv_sub hl [0] rfl)
abbrev rm_X7_readGuest : Room := { frames := 2, cells := 0, slots := 0, locals := 50 }
def fX7_readGuest_j78 (u : x_H) (y1 : Int32) (y2 : Int32) (y3 : Int32) : Option x_H := (if y3 = 0 then some (u) else (if y1 = (115 : Int32) then (Option.bind (fX7_goSeek (u 42) y2) fun r21 => x_let (x_hs u 42 r21.2) fun u23 => some (u23)) else (Option.bind (fX7_goLeave (u 42) y2) fun r25 => x_let (x_hs u 42 r25.2) fun u27 => some (u27))))
set_option maxHeartbeats 4000000 in
set_option maxRecDepth 100000 in
theorem wX7_readGuest_j78 {p : Program} {l : Launch} {e : Env} {s : State} {m : MethodId} {args : Array Value} {below : List Frame} {meth : Method} {c : Code} {X : x_T} {σ : x_S} {r : x_H} (F : x_F p s m args meth c cX7_readGuest 5 RX7 none) (u : x_H) (y1 : Int32) (y2 : Int32) (y3 : Int32) (H : Heap) (locs : List Loc) (ls : Array Slot) (h : fX7_readGuest_j78 u y1 y2 y3 = some r) (hI : x_I X (x_sh σ 11 u) s H locs) (hl : lv_has ls 5 [(0, .ref (X.2.2 11 40)), (1, .int y1), (2, .int y2), (3, .int y3)]) : W p l e rm_X7_readGuest s m args below meth c H locs 0 0 (MQ below (x_Qv X (x_sh σ 11 r) s.heap.size) args s 0 0 (x_A X s.heap.size)) (F0 m 78 ls []) := by
  have hx := F.1
  have hb := F.2.1
  have hml := F.2.2.1
  have hown := F.2.2.2.1
  have hts := F.2.2.2.2.1
  unfold fX7_readGuest_j78 at h
  refine lv_iload_n hx hb dX7_readGuest_78 rfl (lv_at hl 3 rfl) ?_
  refine lv_if_eq (tgt := 109) hx hb dX7_readGuest_79 (by decide) (fun c19 => ?_) (fun c19 => ?_)
  · have h := x_ift h c19
    rw [x_some h]
    exact x_vret F hI dX7_readGuest_109
  · have h := x_iff h c19
    refine lv_iload_n hx hb dX7_readGuest_82 rfl (lv_at hl 1 rfl) ?_
    refine lv_bipush (v := 115) hx hb dX7_readGuest_83 (by decide) ?_
    refine lv_icmp_ne (tgt := 99) hx hb dX7_readGuest_85 (by decide) (fun c20 => ?_) (fun c20 => ?_)
    · have h := x_iff h c20
      refine lv_aload_n hx hb dX7_readGuest_99 rfl (lv_at hl 0 rfl) ?_
      refine xg_7_2 F hI (x_inO (by decide)) u_fl_X7_13 dX7_readGuest_100 ?_
      refine lv_iload_n hx hb dX7_readGuest_103 rfl (lv_at hl 2 rfl) ?_
      obtain ⟨r25, h26, h⟩ := x_bnd h
      have hI := x_toV 42 hI
      refine x_aci hI (x_runS (rest := []) F hI (mX7_goLeave l X σ u 42 (x_inO (by decide)) (fun _ => rfl) _ (u 42) y2 r25 h26) g_X7_112 hd_X7_goLeave ⟨by decide, by decide⟩ ⟨rfl, rfl⟩ rfl hl.1 rfl (Nat.le_of_ble_eq_true rfl) dX7_readGuest_104 ⟨Nat.zero_le _, Nat.zero_le _⟩) (fun H locs hI => ?_)
      obtain ⟨u27, e28⟩ : ∃ z : x_H, z = x_hs u 42 r25.2 := ⟨_, rfl⟩
      rw [← e28] at hI
      have h := x_let_at h e28
      refine lv_istore (lv' := [(4, .int r25.1), (0, .ref (X.2.2 11 40)), (1, .int y1), (2, .int y2), (3, .int y3)]) hx hb dX7_readGuest_107 hl (by decide) rfl (fun ls hl => ?_)
      rw [x_some h]
      exact x_vret F hI dX7_readGuest_109
    · have h := x_ift h c20
      refine lv_aload_n hx hb dX7_readGuest_88 rfl (lv_at hl 0 rfl) ?_
      refine xg_7_2 F hI (x_inO (by decide)) u_fl_X7_13 dX7_readGuest_89 ?_
      refine lv_iload_n hx hb dX7_readGuest_92 rfl (lv_at hl 2 rfl) ?_
      obtain ⟨r21, h22, h⟩ := x_bnd h
      have hI := x_toV 42 hI
      refine x_aci hI (x_runS (rest := []) F hI (mX7_goSeek l X σ u 42 (x_inO (by decide)) (fun _ => rfl) _ (u 42) y2 r21 h22) g_X7_106 hd_X7_goSeek ⟨by decide, by decide⟩ ⟨rfl, rfl⟩ rfl hl.1 rfl (Nat.le_of_ble_eq_true rfl) dX7_readGuest_93 ⟨Nat.zero_le _, Nat.zero_le _⟩) (fun H locs hI => ?_)
      obtain ⟨u23, e24⟩ : ∃ z : x_H, z = x_hs u 42 r21.2 := ⟨_, rfl⟩
      rw [← e24] at hI
      have h := x_let_at h e24
      refine lv_goto (tgt := 107) hx hb dX7_readGuest_96 (by decide) ?_
      refine lv_istore (lv' := [(4, .int r21.1), (0, .ref (X.2.2 11 40)), (1, .int y1), (2, .int y2), (3, .int y3)]) hx hb dX7_readGuest_107 hl (by decide) rfl (fun ls hl => ?_)
      rw [x_some h]
      exact x_vret F hI dX7_readGuest_109
def fX7_readGuest_j53 (u : x_H) (y1 : Int32) (y2 : Int32) (z0 : Int32) : Option x_H := (Option.bind (fX7_goes u z0) fun r11 => (if r11.1 = 0 then fX7_readGuest_j78 r11.2 y1 y2 r11.1 else (if y1 = (114 : Int32) then (Option.bind (fX7_want (r11.2 42) y2) fun r15 => x_let (x_hs r11.2 42 r15) fun u17 => some (u17)) else fX7_readGuest_j78 r11.2 y1 y2 r11.1)))
set_option maxHeartbeats 4000000 in
set_option maxRecDepth 100000 in
theorem wX7_readGuest_j53 {p : Program} {l : Launch} {e : Env} {s : State} {m : MethodId} {args : Array Value} {below : List Frame} {meth : Method} {c : Code} {X : x_T} {σ : x_S} {r : x_H} (F : x_F p s m args meth c cX7_readGuest 5 RX7 none) (u : x_H) (y1 : Int32) (y2 : Int32) (z0 : Int32) (H : Heap) (locs : List Loc) (ls : Array Slot) (h : fX7_readGuest_j53 u y1 y2 z0 = some r) (hI : x_I X (x_sh σ 11 u) s H locs) (hl : lv_has ls 5 [(0, .ref (X.2.2 11 40)), (1, .int y1), (2, .int y2)]) : W p l e rm_X7_readGuest s m args below meth c H locs 0 0 (MQ below (x_Qv X (x_sh σ 11 r) s.heap.size) args s 0 0 (x_A X s.heap.size)) (F0 m 53 ls [.int z0, .ref (X.2.2 11 40)]) := by
  have hx := F.1
  have hb := F.2.1
  have hml := F.2.2.1
  have hown := F.2.2.2.1
  have hts := F.2.2.2.2.1
  unfold fX7_readGuest_j53 at h
  obtain ⟨r11, h12, h⟩ := x_bnd h
  refine x_aci hI (x_runV (rest := []) F hI (mX7_goes l X σ _ u z0 r11 h12) g_X7_170 ⟨rfl, hd_X7_goes⟩ ⟨by decide, by decide⟩ ⟨rfl, rfl⟩ (x_inO (by decide)) rfl rfl rfl rfl hl.1 rfl (Nat.le_of_ble_eq_true rfl) dX7_readGuest_53 ⟨Nat.zero_le _, Nat.zero_le _⟩) (fun H locs hI => ?_)
  refine lv_istore_n (lv' := [(3, .int r11.1), (0, .ref (X.2.2 11 40)), (1, .int y1), (2, .int y2)]) hx hb dX7_readGuest_56 rfl hl (by decide) rfl (fun ls hl => ?_)
  refine lv_iload_n hx hb dX7_readGuest_57 rfl (lv_at hl 0 rfl) ?_
  refine lv_if_eq (tgt := 78) hx hb dX7_readGuest_58 (by decide) (fun c13 => ?_) (fun c13 => ?_)
  · have h := x_ift h c13
    exact wX7_readGuest_j78 F r11.2 y1 y2 r11.1 _ _ _ h hI (lv_sub hl [1, 2, 3, 0] rfl)
  · have h := x_iff h c13
    refine lv_iload_n hx hb dX7_readGuest_61 rfl (lv_at hl 2 rfl) ?_
    refine lv_bipush (v := 114) hx hb dX7_readGuest_62 (by decide) ?_
    refine lv_icmp_ne (tgt := 78) hx hb dX7_readGuest_64 (by decide) (fun c14 => ?_) (fun c14 => ?_)
    · have h := x_iff h c14
      exact wX7_readGuest_j78 F r11.2 y1 y2 r11.1 _ _ _ h hI (lv_sub hl [1, 2, 3, 0] rfl)
    · have h := x_ift h c14
      refine lv_aload_n hx hb dX7_readGuest_67 rfl (lv_at hl 1 rfl) ?_
      refine xg_7_2 F hI (x_inO (by decide)) u_fl_X7_13 dX7_readGuest_68 ?_
      refine lv_iload_n hx hb dX7_readGuest_71 rfl (lv_at hl 3 rfl) ?_
      obtain ⟨r15, h16, h⟩ := x_bnd h
      have hI := x_toV 42 hI
      refine x_acv hI (x_runS (rest := []) F hI (mX7_want l X σ r11.2 42 (x_inO (by decide)) (fun _ => rfl) _ (r11.2 42) y2 r15 h16) g_X7_70 hd_X7_want ⟨by decide, by decide⟩ ⟨rfl, rfl⟩ rfl hl.1 rfl (Nat.le_of_ble_eq_true rfl) dX7_readGuest_72 ⟨Nat.zero_le _, Nat.zero_le _⟩) (fun H locs hI => ?_)
      obtain ⟨u17, e18⟩ : ∃ z : x_H, z = x_hs r11.2 42 r15 := ⟨_, rfl⟩
      rw [← e18] at hI
      have h := x_let_at h e18
      refine lv_goto (tgt := 109) hx hb dX7_readGuest_75 (by decide) ?_
      rw [x_some h]
      exact x_vret F hI dX7_readGuest_109
def fX7_readGuest_j52 (u : x_H) (y1 : Int32) (y2 : Int32) : Option x_H := fX7_readGuest_j53 u y1 y2 (0 : Int32)
set_option maxHeartbeats 4000000 in
set_option maxRecDepth 100000 in
theorem wX7_readGuest_j52 {p : Program} {l : Launch} {e : Env} {s : State} {m : MethodId} {args : Array Value} {below : List Frame} {meth : Method} {c : Code} {X : x_T} {σ : x_S} {r : x_H} (F : x_F p s m args meth c cX7_readGuest 5 RX7 none) (u : x_H) (y1 : Int32) (y2 : Int32) (H : Heap) (locs : List Loc) (ls : Array Slot) (h : fX7_readGuest_j52 u y1 y2 = some r) (hI : x_I X (x_sh σ 11 u) s H locs) (hl : lv_has ls 5 [(0, .ref (X.2.2 11 40)), (1, .int y1), (2, .int y2)]) : W p l e rm_X7_readGuest s m args below meth c H locs 0 0 (MQ below (x_Qv X (x_sh σ 11 r) s.heap.size) args s 0 0 (x_A X s.heap.size)) (F0 m 52 ls [.ref (X.2.2 11 40)]) := by
  have hx := F.1
  have hb := F.2.1
  have hml := F.2.2.1
  have hown := F.2.2.2.1
  have hts := F.2.2.2.2.1
  unfold fX7_readGuest_j52 at h
  refine lv_iconst (v := 0) hx hb dX7_readGuest_52 (by decide) ?_
  exact wX7_readGuest_j53 F u y1 y2 (0 : Int32) _ _ _ h hI (lv_sub hl [0, 1, 2] rfl)
def fX7_readGuest_j48 (u : x_H) (y1 : Int32) (y2 : Int32) : Option x_H := fX7_readGuest_j53 u y1 y2 (1 : Int32)
set_option maxHeartbeats 4000000 in
set_option maxRecDepth 100000 in
theorem wX7_readGuest_j48 {p : Program} {l : Launch} {e : Env} {s : State} {m : MethodId} {args : Array Value} {below : List Frame} {meth : Method} {c : Code} {X : x_T} {σ : x_S} {r : x_H} (F : x_F p s m args meth c cX7_readGuest 5 RX7 none) (u : x_H) (y1 : Int32) (y2 : Int32) (H : Heap) (locs : List Loc) (ls : Array Slot) (h : fX7_readGuest_j48 u y1 y2 = some r) (hI : x_I X (x_sh σ 11 u) s H locs) (hl : lv_has ls 5 [(0, .ref (X.2.2 11 40)), (1, .int y1), (2, .int y2)]) : W p l e rm_X7_readGuest s m args below meth c H locs 0 0 (MQ below (x_Qv X (x_sh σ 11 r) s.heap.size) args s 0 0 (x_A X s.heap.size)) (F0 m 48 ls [.ref (X.2.2 11 40)]) := by
  have hx := F.1
  have hb := F.2.1
  have hml := F.2.2.1
  have hown := F.2.2.2.1
  have hts := F.2.2.2.2.1
  unfold fX7_readGuest_j48 at h
  refine lv_iconst (v := 1) hx hb dX7_readGuest_48 (by decide) ?_
  refine lv_goto (tgt := 53) hx hb dX7_readGuest_49 (by decide) ?_
  exact wX7_readGuest_j53 F u y1 y2 (1 : Int32) _ _ _ h hI (lv_sub hl [0, 1, 2] rfl)
def fX7_readGuest (u : x_H) (a1 : Int32) : Option x_H := (Option.bind (fX7_number u (0 : Int32) (11 : Int32)) fun r1 => (if (r1.2 40 4) = 0 then fX7_readGuest_j52 r1.2 a1 r1.1 else (if a1 = (115 : Int32) then (Option.bind (fX7_doing (r1.2 42) r1.1) fun r5 => (if r5 = 0 then fX7_readGuest_j48 r1.2 a1 r1.1 else fX7_readGuest_j52 r1.2 a1 r1.1)) else (Option.bind (fX7_doing (r1.2 42) r1.1) fun r8 => (if r8 = (3 : Int32) then fX7_readGuest_j48 r1.2 a1 r1.1 else fX7_readGuest_j52 r1.2 a1 r1.1)))))
set_option maxHeartbeats 4000000 in
set_option maxRecDepth 100000 in
theorem mX7_readGuest (l : Launch) (X : x_T) (σ : x_S) (sz : Nat) (u : x_H) (a1 : Int32) (r : x_H) (h : fX7_readGuest u a1 = some r) : Met l yX7_readGuest (x_ws yX7_readGuest cX7_readGuest 5 none) rm_X7_readGuest (x_Pc X (x_sh σ 11 u) sz [.ref (X.2.2 11 40), .int a1]) (x_Qv X (x_sh σ 11 r) sz) 0 0 (x_A X sz) := by
  refine Met.ofW (cc := cX7_readGuest) (maxL := 5) (ret := none) (by decide) rfl ?_
  intro p e s m args below meth c s₁ B hml hv
  obtain ⟨F, hI, rfl, rfl⟩ := x_begin B hml hv
  replace F : x_F p s m _ meth c cX7_readGuest 5 RX7 none := F
  have hx := F.1
  have hb := F.2.1
  have hml := F.2.2.1
  have hown := F.2.2.2.1
  have hts := F.2.2.2.2.1
  refine x_entry (vs := [.ref (X.2.2 11 40), .int a1]) (n := 5) (Nat.le_of_ble_eq_true rfl) (fun ls hl => ?_)
  replace hl : lv_has ls 5 [(0, .ref (X.2.2 11 40)), (1, .int a1)] := hl
  unfold fX7_readGuest at h
  refine lv_aload_n hx hb dX7_readGuest_0 rfl (lv_at hl 0 rfl) ?_
  refine lv_iconst (v := 0) hx hb dX7_readGuest_1 (by decide) ?_
  refine lv_bipush (v := 11) hx hb dX7_readGuest_2 (by decide) ?_
  obtain ⟨r1, h2, h⟩ := x_bnd h
  refine x_aci hI (x_runV (rest := []) F hI (mX7_number l X σ _ u (0 : Int32) (11 : Int32) r1 h2) g_X7_166 ⟨rfl, hd_X7_number⟩ ⟨by decide, by decide⟩ ⟨rfl, rfl⟩ (x_inO (by decide)) rfl rfl rfl rfl hl.1 rfl (Nat.le_of_ble_eq_true rfl) dX7_readGuest_4 ⟨Nat.zero_le _, Nat.zero_le _⟩) (fun H locs hI => ?_)
  refine lv_istore_n (lv' := [(2, .int r1.1), (0, .ref (X.2.2 11 40)), (1, .int a1)]) hx hb dX7_readGuest_7 rfl hl (by decide) rfl (fun ls hl => ?_)
  refine lv_aload_n hx hb dX7_readGuest_8 rfl (lv_at hl 1 rfl) ?_
  refine lv_aload_n hx hb dX7_readGuest_9 rfl (lv_at hl 1 rfl) ?_
  refine xg_7_10 F hI (x_inO (by decide)) u_fl_X7_149 dX7_readGuest_10 ?_
  refine lv_if_eq (tgt := 52) hx hb dX7_readGuest_13 (by decide) (fun c3 => ?_) (fun c3 => ?_)
  · have h := x_ift h c3
    exact wX7_readGuest_j52 F r1.2 a1 r1.1 _ _ _ h hI (lv_sub hl [1, 2, 0] rfl)
  · have h := x_iff h c3
    refine lv_iload_n hx hb dX7_readGuest_16 rfl (lv_at hl 2 rfl) ?_
    refine lv_bipush (v := 115) hx hb dX7_readGuest_17 (by decide) ?_
    refine lv_icmp_ne (tgt := 36) hx hb dX7_readGuest_19 (by decide) (fun c4 => ?_) (fun c4 => ?_)
    · have h := x_iff h c4
      refine lv_aload_n hx hb dX7_readGuest_36 rfl (lv_at hl 1 rfl) ?_
      refine xg_7_2 F hI (x_inO (by decide)) u_fl_X7_13 dX7_readGuest_37 ?_
      refine lv_iload_n hx hb dX7_readGuest_40 rfl (lv_at hl 0 rfl) ?_
      obtain ⟨r8, h9, h⟩ := x_bnd h
      have hI := x_toV 42 hI
      refine x_aci hI (x_runS (rest := [.ref (X.2.2 11 40)]) F hI (mX7_doing l X σ r1.2 42 (x_inO (by decide)) (fun _ => rfl) _ (r1.2 42) r1.1 r8 h9) g_X7_60 hd_X7_doing ⟨by decide, by decide⟩ ⟨rfl, rfl⟩ rfl hl.1 rfl (Nat.le_of_ble_eq_true rfl) dX7_readGuest_41 ⟨Nat.zero_le _, Nat.zero_le _⟩) (fun H locs hI => ?_)
      rw [x_hs_self] at hI
      refine lv_iconst (v := 3) hx hb dX7_readGuest_44 (by decide) ?_
      refine lv_icmp_ne (tgt := 52) hx hb dX7_readGuest_45 (by decide) (fun c10 => ?_) (fun c10 => ?_)
      · have h := x_iff h c10
        exact wX7_readGuest_j52 F r1.2 a1 r1.1 _ _ _ h hI (lv_sub hl [1, 2, 0] rfl)
      · have h := x_ift h c10
        exact wX7_readGuest_j48 F r1.2 a1 r1.1 _ _ _ h hI (lv_sub hl [1, 2, 0] rfl)
    · have h := x_ift h c4
      refine lv_aload_n hx hb dX7_readGuest_22 rfl (lv_at hl 1 rfl) ?_
      refine xg_7_2 F hI (x_inO (by decide)) u_fl_X7_13 dX7_readGuest_23 ?_
      refine lv_iload_n hx hb dX7_readGuest_26 rfl (lv_at hl 0 rfl) ?_
      obtain ⟨r5, h6, h⟩ := x_bnd h
      have hI := x_toV 42 hI
      refine x_aci hI (x_runS (rest := [.ref (X.2.2 11 40)]) F hI (mX7_doing l X σ r1.2 42 (x_inO (by decide)) (fun _ => rfl) _ (r1.2 42) r1.1 r5 h6) g_X7_60 hd_X7_doing ⟨by decide, by decide⟩ ⟨rfl, rfl⟩ rfl hl.1 rfl (Nat.le_of_ble_eq_true rfl) dX7_readGuest_27 ⟨Nat.zero_le _, Nat.zero_le _⟩) (fun H locs hI => ?_)
      rw [x_hs_self] at hI
      refine lv_if_ne (tgt := 52) hx hb dX7_readGuest_30 (by decide) (fun c7 => ?_) (fun c7 => ?_)
      · have h := x_iff h c7
        exact wX7_readGuest_j52 F r1.2 a1 r1.1 _ _ _ h hI (lv_sub hl [1, 2, 0] rfl)
      · have h := x_ift h c7
        refine lv_goto (tgt := 48) hx hb dX7_readGuest_33 (by decide) ?_
        exact wX7_readGuest_j48 F r1.2 a1 r1.1 _ _ _ h hI (lv_sub hl [1, 2, 0] rfl)
abbrev rm_X7_readPart : Room := { frames := 5, cells := 0, slots := 0, locals := 122 }
def fX7_readPart_j160 (u : x_H) (y1 : Int32) (y4 : Int32) (z0 : Int32) : Option x_H := (Option.bind (fX7_goes u z0) fun r30 => (if r30.1 = 0 then some (r30.2) else (if y1 = (120 : Int32) then x_let (x_hu r30.2 42 (Int32.toNatClampNeg (558 : Int32)) ((r30.2 42 (Int32.toNatClampNeg (558 : Int32))) + (1 : Int32))) fun u34 => (Option.bind (fX7_take (u34 42) y4) fun r36 => x_let (x_hs u34 42 r36.2) fun u38 => some (u38)) else (Option.bind (fX7_handle (r30.2 42) y4) fun r40 => x_let (x_hs r30.2 42 r40.2) fun u42 => some (u42)))))
set_option maxHeartbeats 4000000 in
set_option maxRecDepth 100000 in
theorem wX7_readPart_j160 {p : Program} {l : Launch} {e : Env} {s : State} {m : MethodId} {args : Array Value} {below : List Frame} {meth : Method} {c : Code} {X : x_T} {σ : x_S} {r : x_H} (F : x_F p s m args meth c cX7_readPart 6 RX7 none) (u : x_H) (y1 : Int32) (y4 : Int32) (z0 : Int32) (H : Heap) (locs : List Loc) (ls : Array Slot) (h : fX7_readPart_j160 u y1 y4 z0 = some r) (hI : x_I X (x_sh σ 11 u) s H locs) (hl : lv_has ls 6 [(0, .ref (X.2.2 11 40)), (1, .int y1), (4, .int y4)]) : W p l e rm_X7_readPart s m args below meth c H locs 0 0 (MQ below (x_Qv X (x_sh σ 11 r) s.heap.size) args s 0 0 (x_A X s.heap.size)) (F0 m 160 ls [.int z0, .ref (X.2.2 11 40)]) := by
  have hx := F.1
  have hb := F.2.1
  have hml := F.2.2.1
  have hown := F.2.2.2.1
  have hts := F.2.2.2.2.1
  unfold fX7_readPart_j160 at h
  obtain ⟨r30, h31, h⟩ := x_bnd h
  refine x_aci hI (x_runV (rest := []) F hI (mX7_goes l X σ _ u z0 r30 h31) g_X7_170 ⟨rfl, hd_X7_goes⟩ ⟨by decide, by decide⟩ ⟨rfl, rfl⟩ (x_inO (by decide)) rfl rfl rfl rfl hl.1 rfl (Nat.le_of_ble_eq_true rfl) dX7_readPart_160 ⟨Nat.zero_le _, Nat.zero_le _⟩) (fun H locs hI => ?_)
  refine lv_istore (lv' := [(5, .int r30.1), (0, .ref (X.2.2 11 40)), (1, .int y1), (4, .int y4)]) hx hb dX7_readPart_163 hl (by decide) rfl (fun ls hl => ?_)
  refine lv_iload hx hb dX7_readPart_165 (lv_at hl 0 rfl) ?_
  refine lv_if_eq (tgt := 201) hx hb dX7_readPart_167 (by decide) (fun c32 => ?_) (fun c32 => ?_)
  · have h := x_ift h c32
    refine lv_iload hx hb dX7_readPart_201 (lv_at hl 0 rfl) ?_
    refine lv_if_eq (tgt := 216) hx hb dX7_readPart_203 (by decide) (fun _ => ?_) (fun c9 => absurd c32 c9)
    rw [x_some h]
    exact x_vret F hI dX7_readPart_216
  · have h := x_iff h c32
    refine lv_iload_n hx hb dX7_readPart_170 rfl (lv_at hl 2 rfl) ?_
    refine lv_bipush (v := 120) hx hb dX7_readPart_171 (by decide) ?_
    refine lv_icmp_ne (tgt := 201) hx hb dX7_readPart_173 (by decide) (fun c33 => ?_) (fun c33 => ?_)
    · have h := x_iff h c33
      refine lv_iload hx hb dX7_readPart_201 (lv_at hl 0 rfl) ?_
      refine lv_if_eq (tgt := 216) hx hb dX7_readPart_203 (by decide) (fun c9 => absurd c9 c32) (fun _ => ?_)
      refine lv_aload_n hx hb dX7_readPart_206 rfl (lv_at hl 1 rfl) ?_
      refine xg_7_2 F hI (x_inO (by decide)) u_fl_X7_13 dX7_readPart_207 ?_
      refine lv_iload hx hb dX7_readPart_210 (lv_at hl 3 rfl) ?_
      obtain ⟨r40, h41, h⟩ := x_bnd h
      have hI := x_toV 42 hI
      refine x_aci hI (x_runS (rest := []) F hI (mX7_handle l X σ r30.2 42 (x_inO (by decide)) (fun _ => rfl) _ (r30.2 42) y4 r40 h41) g_X7_83 hd_X7_handle ⟨by decide, by decide⟩ ⟨rfl, rfl⟩ rfl hl.1 rfl (Nat.le_of_ble_eq_true rfl) dX7_readPart_212 ⟨Nat.zero_le _, Nat.zero_le _⟩) (fun H locs hI => ?_)
      obtain ⟨u42, e43⟩ : ∃ z : x_H, z = x_hs r30.2 42 r40.2 := ⟨_, rfl⟩
      rw [← e43] at hI
      have h := x_let_at h e43
      refine lv_istore_n (lv' := [(2, .int r40.1), (5, .int r30.1), (0, .ref (X.2.2 11 40)), (1, .int y1), (4, .int y4)]) hx hb dX7_readPart_215 rfl hl (by decide) rfl (fun ls hl => ?_)
      rw [x_some h]
      exact x_vret F hI dX7_readPart_216
    · have h := x_ift h c33
      refine lv_aload_n hx hb dX7_readPart_176 rfl (lv_at hl 1 rfl) ?_
      refine xg_7_2 F hI (x_inO (by decide)) u_fl_X7_13 dX7_readPart_177 ?_
      refine lv_sipush (v := 558) hx hb dX7_readPart_180 (by decide) ?_
      refine lv_dup2_11 hx hb dX7_readPart_183 rfl rfl ?_
      refine xh_iald (n := 570) F hI (x_inO (by decide)) (fun _ => rfl) (by decide) dX7_readPart_184 ?_
      refine lv_iconst (v := 1) hx hb dX7_readPart_185 (by decide) ?_
      refine lv_iadd hx hb dX7_readPart_186 ?_
      refine xh_iast (n := 570) F hI (x_inO (by decide)) (fun _ => rfl) (by decide) dX7_readPart_187 (fun H locs u34 e35 hI => ?_)
      have h := x_let_at h e35
      refine lv_aload_n hx hb dX7_readPart_188 rfl (lv_at hl 1 rfl) ?_
      refine xg_7_2 F hI (x_inO (by decide)) u_fl_X7_13 dX7_readPart_189 ?_
      refine lv_iload hx hb dX7_readPart_192 (lv_at hl 3 rfl) ?_
      obtain ⟨r36, h37, h⟩ := x_bnd h
      have hI := x_toV 42 hI
      refine x_aci hI (x_runS (rest := []) F hI (mX7_take l X σ u34 42 (x_inO (by decide)) (fun _ => rfl) _ (u34 42) y4 r36 h37) g_X7_63 hd_X7_take ⟨by decide, by decide⟩ ⟨rfl, rfl⟩ rfl hl.1 rfl (Nat.le_of_ble_eq_true rfl) dX7_readPart_194 ⟨Nat.zero_le _, Nat.zero_le _⟩) (fun H locs hI => ?_)
      obtain ⟨u38, e39⟩ : ∃ z : x_H, z = x_hs u34 42 r36.2 := ⟨_, rfl⟩
      rw [← e39] at hI
      have h := x_let_at h e39
      refine lv_istore_n (lv' := [(2, .int r36.1), (5, .int r30.1), (0, .ref (X.2.2 11 40)), (1, .int y1), (4, .int y4)]) hx hb dX7_readPart_197 rfl hl (by decide) rfl (fun ls hl => ?_)
      refine lv_goto (tgt := 216) hx hb dX7_readPart_198 (by decide) ?_
      rw [x_some h]
      exact x_vret F hI dX7_readPart_216
def fX7_readPart_j159 (u : x_H) (y1 : Int32) (y4 : Int32) : Option x_H := fX7_readPart_j160 u y1 y4 (0 : Int32)
set_option maxHeartbeats 4000000 in
set_option maxRecDepth 100000 in
theorem wX7_readPart_j159 {p : Program} {l : Launch} {e : Env} {s : State} {m : MethodId} {args : Array Value} {below : List Frame} {meth : Method} {c : Code} {X : x_T} {σ : x_S} {r : x_H} (F : x_F p s m args meth c cX7_readPart 6 RX7 none) (u : x_H) (y1 : Int32) (y4 : Int32) (H : Heap) (locs : List Loc) (ls : Array Slot) (h : fX7_readPart_j159 u y1 y4 = some r) (hI : x_I X (x_sh σ 11 u) s H locs) (hl : lv_has ls 6 [(0, .ref (X.2.2 11 40)), (1, .int y1), (4, .int y4)]) : W p l e rm_X7_readPart s m args below meth c H locs 0 0 (MQ below (x_Qv X (x_sh σ 11 r) s.heap.size) args s 0 0 (x_A X s.heap.size)) (F0 m 159 ls [.ref (X.2.2 11 40)]) := by
  have hx := F.1
  have hb := F.2.1
  have hml := F.2.2.1
  have hown := F.2.2.2.1
  have hts := F.2.2.2.2.1
  unfold fX7_readPart_j159 at h
  refine lv_iconst (v := 0) hx hb dX7_readPart_159 (by decide) ?_
  exact wX7_readPart_j160 F u y1 y4 (0 : Int32) _ _ _ h hI (lv_sub hl [0, 1, 2] rfl)
def fX7_readPart_j59 (u : x_H) (y1 : Int32) (y3 : Int32) (z0 : Int32) : Option x_H := (Option.bind (fX7_pass u z0) fun r10 => (if (r10 40 4) = 0 then some (r10) else (if y3 = 0 then (if y1 = (116 : Int32) then (Option.bind (fX7_number r10 (1 : Int32) (100 : Int32)) fun r15 => (Option.bind (fX7_goes r15.2 (r15.2 40 4)) fun r17 => (if r17.1 = 0 then some (r17.2) else (Option.bind (fX7_goTicks (r17.2 42) r15.1) fun r20 => x_let (x_hs r17.2 42 r20.2) fun u22 => some (u22))))) else (Option.bind (fX7_number r10 (0 : Int32) (59 : Int32)) fun r24 => (if (r24.2 40 4) = 0 then fX7_readPart_j159 r24.2 y1 r24.1 else (if (r24.2 42 (Int32.toNatClampNeg (552 : Int32))) ≤ r24.1 then fX7_readPart_j159 r24.2 y1 r24.1 else fX7_readPart_j160 r24.2 y1 r24.1 (1 : Int32))))) else (Option.bind (fX7_readGuest r10 y1) fun r28 => some (r28)))))
set_option maxHeartbeats 4000000 in
set_option maxRecDepth 100000 in
theorem wX7_readPart_j59 {p : Program} {l : Launch} {e : Env} {s : State} {m : MethodId} {args : Array Value} {below : List Frame} {meth : Method} {c : Code} {X : x_T} {σ : x_S} {r : x_H} (F : x_F p s m args meth c cX7_readPart 6 RX7 none) (u : x_H) (y1 : Int32) (y3 : Int32) (z0 : Int32) (H : Heap) (locs : List Loc) (ls : Array Slot) (h : fX7_readPart_j59 u y1 y3 z0 = some r) (hI : x_I X (x_sh σ 11 u) s H locs) (hl : lv_has ls 6 [(0, .ref (X.2.2 11 40)), (1, .int y1), (3, .int y3)]) : W p l e rm_X7_readPart s m args below meth c H locs 0 0 (MQ below (x_Qv X (x_sh σ 11 r) s.heap.size) args s 0 0 (x_A X s.heap.size)) (F0 m 59 ls [.int z0, .ref (X.2.2 11 40)]) := by
  have hx := F.1
  have hb := F.2.1
  have hml := F.2.2.1
  have hown := F.2.2.2.1
  have hts := F.2.2.2.2.1
  unfold fX7_readPart_j59 at h
  obtain ⟨r10, h11, h⟩ := x_bnd h
  refine x_acv hI (x_runV (rest := []) F hI (mX7_pass l X σ _ u z0 r10 h11) g_X7_159 ⟨rfl, hd_X7_pass⟩ ⟨by decide, by decide⟩ ⟨rfl, rfl⟩ (x_inO (by decide)) rfl rfl rfl rfl hl.1 rfl (Nat.le_of_ble_eq_true rfl) dX7_readPart_59 ⟨Nat.zero_le _, Nat.zero_le _⟩) (fun H locs hI => ?_)
  refine lv_aload_n hx hb dX7_readPart_62 rfl (lv_at hl 0 rfl) ?_
  refine xg_7_10 F hI (x_inO (by decide)) u_fl_X7_149 dX7_readPart_63 ?_
  refine lv_if_ne (tgt := 70) hx hb dX7_readPart_66 (by decide) (fun c12 => ?_) (fun c12 => ?_)
  · have h := x_iff h c12
    refine lv_iload_n hx hb dX7_readPart_70 rfl (lv_at hl 2 rfl) ?_
    refine lv_if_eq (tgt := 82) hx hb dX7_readPart_71 (by decide) (fun c13 => ?_) (fun c13 => ?_)
    · have h := x_ift h c13
      refine lv_iload_n hx hb dX7_readPart_82 rfl (lv_at hl 1 rfl) ?_
      refine lv_bipush (v := 116) hx hb dX7_readPart_83 (by decide) ?_
      refine lv_icmp_ne (tgt := 125) hx hb dX7_readPart_85 (by decide) (fun c14 => ?_) (fun c14 => ?_)
      · have h := x_iff h c14
        refine lv_aload_n hx hb dX7_readPart_125 rfl (lv_at hl 0 rfl) ?_
        refine lv_iconst (v := 0) hx hb dX7_readPart_126 (by decide) ?_
        refine lv_bipush (v := 59) hx hb dX7_readPart_127 (by decide) ?_
        obtain ⟨r24, h25, h⟩ := x_bnd h
        refine x_aci hI (x_runV (rest := []) F hI (mX7_number l X σ _ r10 (0 : Int32) (59 : Int32) r24 h25) g_X7_166 ⟨rfl, hd_X7_number⟩ ⟨by decide, by decide⟩ ⟨rfl, rfl⟩ (x_inO (by decide)) rfl rfl rfl rfl hl.1 rfl (Nat.le_of_ble_eq_true rfl) dX7_readPart_129 ⟨Nat.zero_le _, Nat.zero_le _⟩) (fun H locs hI => ?_)
        refine lv_istore (lv' := [(4, .int r24.1), (0, .ref (X.2.2 11 40)), (1, .int y1), (3, .int y3)]) hx hb dX7_readPart_132 hl (by decide) rfl (fun ls hl => ?_)
        refine lv_aload_n hx hb dX7_readPart_134 rfl (lv_at hl 1 rfl) ?_
        refine lv_aload_n hx hb dX7_readPart_135 rfl (lv_at hl 1 rfl) ?_
        refine xg_7_10 F hI (x_inO (by decide)) u_fl_X7_149 dX7_readPart_136 ?_
        refine lv_if_eq (tgt := 159) hx hb dX7_readPart_139 (by decide) (fun c26 => ?_) (fun c26 => ?_)
        · have h := x_ift h c26
          exact wX7_readPart_j159 F r24.2 y1 r24.1 _ _ _ h hI (lv_sub hl [1, 2, 0] rfl)
        · have h := x_iff h c26
          refine lv_iload hx hb dX7_readPart_142 (lv_at hl 0 rfl) ?_
          refine lv_aload_n hx hb dX7_readPart_144 rfl (lv_at hl 1 rfl) ?_
          refine xg_7_2 F hI (x_inO (by decide)) u_fl_X7_13 dX7_readPart_145 ?_
          refine lv_sipush (v := 552) hx hb dX7_readPart_148 (by decide) ?_
          refine xh_iald (n := 570) F hI (x_inO (by decide)) (fun _ => rfl) (by decide) dX7_readPart_151 ?_
          refine lv_icmp_ge (tgt := 159) hx hb dX7_readPart_152 (by decide) (fun c27 => ?_) (fun c27 => ?_)
          · have h := x_ift h c27
            exact wX7_readPart_j159 F r24.2 y1 r24.1 _ _ _ h hI (lv_sub hl [1, 2, 0] rfl)
          · have h := x_iff h c27
            refine lv_iconst (v := 1) hx hb dX7_readPart_155 (by decide) ?_
            refine lv_goto (tgt := 160) hx hb dX7_readPart_156 (by decide) ?_
            exact wX7_readPart_j160 F r24.2 y1 r24.1 (1 : Int32) _ _ _ h hI (lv_sub hl [1, 2, 0] rfl)
      · have h := x_ift h c14
        refine lv_aload_n hx hb dX7_readPart_88 rfl (lv_at hl 0 rfl) ?_
        refine lv_iconst (v := 1) hx hb dX7_readPart_89 (by decide) ?_
        refine lv_bipush (v := 100) hx hb dX7_readPart_90 (by decide) ?_
        obtain ⟨r15, h16, h⟩ := x_bnd h
        refine x_aci hI (x_runV (rest := []) F hI (mX7_number l X σ _ r10 (1 : Int32) (100 : Int32) r15 h16) g_X7_166 ⟨rfl, hd_X7_number⟩ ⟨by decide, by decide⟩ ⟨rfl, rfl⟩ (x_inO (by decide)) rfl rfl rfl rfl hl.1 rfl (Nat.le_of_ble_eq_true rfl) dX7_readPart_92 ⟨Nat.zero_le _, Nat.zero_le _⟩) (fun H locs hI => ?_)
        refine lv_istore (lv' := [(4, .int r15.1), (0, .ref (X.2.2 11 40)), (1, .int y1), (3, .int y3)]) hx hb dX7_readPart_95 hl (by decide) rfl (fun ls hl => ?_)
        refine lv_aload_n hx hb dX7_readPart_97 rfl (lv_at hl 1 rfl) ?_
        refine lv_aload_n hx hb dX7_readPart_98 rfl (lv_at hl 1 rfl) ?_
        refine xg_7_10 F hI (x_inO (by decide)) u_fl_X7_149 dX7_readPart_99 ?_
        obtain ⟨r17, h18, h⟩ := x_bnd h
        refine x_aci hI (x_runV (rest := []) F hI (mX7_goes l X σ _ r15.2 (r15.2 40 4) r17 h18) g_X7_170 ⟨rfl, hd_X7_goes⟩ ⟨by decide, by decide⟩ ⟨rfl, rfl⟩ (x_inO (by decide)) rfl rfl rfl rfl hl.1 rfl (Nat.le_of_ble_eq_true rfl) dX7_readPart_102 ⟨Nat.zero_le _, Nat.zero_le _⟩) (fun H locs hI => ?_)
        refine lv_if_eq (tgt := 120) hx hb dX7_readPart_105 (by decide) (fun c19 => ?_) (fun c19 => ?_)
        · have h := x_ift h c19
          refine lv_iconst (v := 0) hx hb dX7_readPart_120 (by decide) ?_
          refine lv_istore_n (lv' := [(2, .int (0)), (4, .int r15.1), (0, .ref (X.2.2 11 40)), (1, .int y1), (3, .int y3)]) hx hb dX7_readPart_121 rfl hl (by decide) rfl (fun ls hl => ?_)
          refine lv_goto (tgt := 216) hx hb dX7_readPart_122 (by decide) ?_
          rw [x_some h]
          exact x_vret F hI dX7_readPart_216
        · have h := x_iff h c19
          refine lv_aload_n hx hb dX7_readPart_108 rfl (lv_at hl 1 rfl) ?_
          refine xg_7_2 F hI (x_inO (by decide)) u_fl_X7_13 dX7_readPart_109 ?_
          refine lv_iload hx hb dX7_readPart_112 (lv_at hl 0 rfl) ?_
          obtain ⟨r20, h21, h⟩ := x_bnd h
          have hI := x_toV 42 hI
          refine x_aci hI (x_runS (rest := []) F hI (mX7_goTicks l X σ r17.2 42 (x_inO (by decide)) (fun _ => rfl) _ (r17.2 42) r15.1 r20 h21) g_X7_136 hd_X7_goTicks ⟨by decide, by decide⟩ ⟨rfl, rfl⟩ rfl hl.1 rfl (Nat.le_of_ble_eq_true rfl) dX7_readPart_114 ⟨Nat.zero_le _, Nat.zero_le _⟩) (fun H locs hI => ?_)
          obtain ⟨u22, e23⟩ : ∃ z : x_H, z = x_hs r17.2 42 r20.2 := ⟨_, rfl⟩
          rw [← e23] at hI
          have h := x_let_at h e23
          refine lv_goto (tgt := 121) hx hb dX7_readPart_117 (by decide) ?_
          refine lv_istore_n (lv' := [(2, .int r20.1), (4, .int r15.1), (0, .ref (X.2.2 11 40)), (1, .int y1), (3, .int y3)]) hx hb dX7_readPart_121 rfl hl (by decide) rfl (fun ls hl => ?_)
          refine lv_goto (tgt := 216) hx hb dX7_readPart_122 (by decide) ?_
          rw [x_some h]
          exact x_vret F hI dX7_readPart_216
    · have h := x_iff h c13
      refine lv_aload_n hx hb dX7_readPart_74 rfl (lv_at hl 0 rfl) ?_
      refine lv_iload_n hx hb dX7_readPart_75 rfl (lv_at hl 1 rfl) ?_
      obtain ⟨r28, h29, h⟩ := x_bnd h
      refine x_acv hI (x_runV (rest := []) F hI (mX7_readGuest l X σ _ r10 y1 r28 h29) g_X7_174 ⟨rfl, hd_X7_readGuest⟩ ⟨by decide, by decide⟩ ⟨rfl, rfl⟩ (x_inO (by decide)) rfl rfl rfl rfl hl.1 rfl (Nat.le_of_ble_eq_true rfl) dX7_readPart_76 ⟨Nat.zero_le _, Nat.zero_le _⟩) (fun H locs hI => ?_)
      refine lv_goto (tgt := 216) hx hb dX7_readPart_79 (by decide) ?_
      rw [x_some h]
      exact x_vret F hI dX7_readPart_216
  · have h := x_ift h c12
    rw [x_some h]
    exact x_vret F hI dX7_readPart_69
def fX7_readPart_j54 (u : x_H) (y1 : Int32) (y3 : Int32) : Option x_H := fX7_readPart_j59 u y1 y3 (1 : Int32)
set_option maxHeartbeats 4000000 in
set_option maxRecDepth 100000 in
theorem wX7_readPart_j54 {p : Program} {l : Launch} {e : Env} {s : State} {m : MethodId} {args : Array Value} {below : List Frame} {meth : Method} {c : Code} {X : x_T} {σ : x_S} {r : x_H} (F : x_F p s m args meth c cX7_readPart 6 RX7 none) (u : x_H) (y1 : Int32) (y3 : Int32) (H : Heap) (locs : List Loc) (ls : Array Slot) (h : fX7_readPart_j54 u y1 y3 = some r) (hI : x_I X (x_sh σ 11 u) s H locs) (hl : lv_has ls 6 [(0, .ref (X.2.2 11 40)), (1, .int y1), (3, .int y3)]) : W p l e rm_X7_readPart s m args below meth c H locs 0 0 (MQ below (x_Qv X (x_sh σ 11 r) s.heap.size) args s 0 0 (x_A X s.heap.size)) (F0 m 54 ls [.ref (X.2.2 11 40)]) := by
  have hx := F.1
  have hb := F.2.1
  have hml := F.2.2.1
  have hown := F.2.2.2.1
  have hts := F.2.2.2.2.1
  unfold fX7_readPart_j54 at h
  refine lv_iconst (v := 1) hx hb dX7_readPart_54 (by decide) ?_
  refine lv_goto (tgt := 59) hx hb dX7_readPart_55 (by decide) ?_
  exact wX7_readPart_j59 F u y1 y3 (1 : Int32) _ _ _ h hI (lv_sub hl [0, 1, 2] rfl)
def fX7_readPart_j30 (u : x_H) (y1 : Int32) (z0 : Int32) : Option x_H := (if z0 = 0 then (if y1 = (100 : Int32) then fX7_readPart_j54 u y1 z0 else (if y1 = (120 : Int32) then fX7_readPart_j54 u y1 z0 else (if y1 = (116 : Int32) then fX7_readPart_j54 u y1 z0 else fX7_readPart_j59 u y1 z0 (0 : Int32)))) else fX7_readPart_j54 u y1 z0)
set_option maxHeartbeats 4000000 in
set_option maxRecDepth 100000 in
theorem wX7_readPart_j30 {p : Program} {l : Launch} {e : Env} {s : State} {m : MethodId} {args : Array Value} {below : List Frame} {meth : Method} {c : Code} {X : x_T} {σ : x_S} {r : x_H} (F : x_F p s m args meth c cX7_readPart 6 RX7 none) (u : x_H) (y1 : Int32) (z0 : Int32) (H : Heap) (locs : List Loc) (ls : Array Slot) (h : fX7_readPart_j30 u y1 z0 = some r) (hI : x_I X (x_sh σ 11 u) s H locs) (hl : lv_has ls 6 [(0, .ref (X.2.2 11 40)), (1, .int y1)]) : W p l e rm_X7_readPart s m args below meth c H locs 0 0 (MQ below (x_Qv X (x_sh σ 11 r) s.heap.size) args s 0 0 (x_A X s.heap.size)) (F0 m 30 ls [.int z0]) := by
  have hx := F.1
  have hb := F.2.1
  have hml := F.2.2.1
  have hown := F.2.2.2.1
  have hts := F.2.2.2.2.1
  unfold fX7_readPart_j30 at h
  refine lv_istore_n (lv' := [(3, .int z0), (0, .ref (X.2.2 11 40)), (1, .int y1)]) hx hb dX7_readPart_30 rfl hl (by decide) rfl (fun ls hl => ?_)
  refine lv_aload_n hx hb dX7_readPart_31 rfl (lv_at hl 1 rfl) ?_
  refine lv_iload_n hx hb dX7_readPart_32 rfl (lv_at hl 0 rfl) ?_
  refine lv_if_ne (tgt := 54) hx hb dX7_readPart_33 (by decide) (fun c6 => ?_) (fun c6 => ?_)
  · have h := x_iff h c6
    exact wX7_readPart_j54 F u y1 z0 _ _ _ h hI (lv_sub hl [1, 2, 0] rfl)
  · have h := x_ift h c6
    refine lv_iload_n hx hb dX7_readPart_36 rfl (lv_at hl 2 rfl) ?_
    refine lv_bipush (v := 100) hx hb dX7_readPart_37 (by decide) ?_
    refine lv_icmp_eq (tgt := 54) hx hb dX7_readPart_39 (by decide) (fun c7 => ?_) (fun c7 => ?_)
    · have h := x_ift h c7
      exact wX7_readPart_j54 F u y1 z0 _ _ _ h hI (lv_sub hl [1, 2, 0] rfl)
    · have h := x_iff h c7
      refine lv_iload_n hx hb dX7_readPart_42 rfl (lv_at hl 2 rfl) ?_
      refine lv_bipush (v := 120) hx hb dX7_readPart_43 (by decide) ?_
      refine lv_icmp_eq (tgt := 54) hx hb dX7_readPart_45 (by decide) (fun c8 => ?_) (fun c8 => ?_)
      · have h := x_ift h c8
        exact wX7_readPart_j54 F u y1 z0 _ _ _ h hI (lv_sub hl [1, 2, 0] rfl)
      · have h := x_iff h c8
        refine lv_iload_n hx hb dX7_readPart_48 rfl (lv_at hl 2 rfl) ?_
        refine lv_bipush (v := 116) hx hb dX7_readPart_49 (by decide) ?_
        refine lv_icmp_ne (tgt := 58) hx hb dX7_readPart_51 (by decide) (fun c9 => ?_) (fun c9 => ?_)
        · have h := x_iff h c9
          refine lv_iconst (v := 0) hx hb dX7_readPart_58 (by decide) ?_
          exact wX7_readPart_j59 F u y1 z0 (0 : Int32) _ _ _ h hI (lv_sub hl [1, 2, 0] rfl)
        · have h := x_ift h c9
          exact wX7_readPart_j54 F u y1 z0 _ _ _ h hI (lv_sub hl [1, 2, 0] rfl)
def fX7_readPart_j25 (u : x_H) (y1 : Int32) : Option x_H := fX7_readPart_j30 u y1 (1 : Int32)
set_option maxHeartbeats 4000000 in
set_option maxRecDepth 100000 in
theorem wX7_readPart_j25 {p : Program} {l : Launch} {e : Env} {s : State} {m : MethodId} {args : Array Value} {below : List Frame} {meth : Method} {c : Code} {X : x_T} {σ : x_S} {r : x_H} (F : x_F p s m args meth c cX7_readPart 6 RX7 none) (u : x_H) (y1 : Int32) (H : Heap) (locs : List Loc) (ls : Array Slot) (h : fX7_readPart_j25 u y1 = some r) (hI : x_I X (x_sh σ 11 u) s H locs) (hl : lv_has ls 6 [(0, .ref (X.2.2 11 40)), (1, .int y1)]) : W p l e rm_X7_readPart s m args below meth c H locs 0 0 (MQ below (x_Qv X (x_sh σ 11 r) s.heap.size) args s 0 0 (x_A X s.heap.size)) (F0 m 25 ls []) := by
  have hx := F.1
  have hb := F.2.1
  have hml := F.2.2.1
  have hown := F.2.2.2.1
  have hts := F.2.2.2.2.1
  unfold fX7_readPart_j25 at h
  refine lv_iconst (v := 1) hx hb dX7_readPart_25 (by decide) ?_
  refine lv_goto (tgt := 30) hx hb dX7_readPart_26 (by decide) ?_
  exact wX7_readPart_j30 F u y1 (1 : Int32) _ _ _ h hI (lv_sub hl [0, 1] rfl)
def fX7_readPart (u : x_H) : Option x_H := (Option.bind (fX7_here u ) fun r1 => (if r1 = (115 : Int32) then fX7_readPart_j25 u r1 else (if r1 = (103 : Int32) then fX7_readPart_j25 u r1 else (if r1 = (114 : Int32) then fX7_readPart_j25 u r1 else fX7_readPart_j30 u r1 (0 : Int32)))))
set_option maxHeartbeats 4000000 in
set_option maxRecDepth 100000 in
theorem mX7_readPart (l : Launch) (X : x_T) (σ : x_S) (sz : Nat) (u : x_H) (r : x_H) (h : fX7_readPart u  = some r) : Met l yX7_readPart (x_ws yX7_readPart cX7_readPart 6 none) rm_X7_readPart (x_Pc X (x_sh σ 11 u) sz [.ref (X.2.2 11 40)]) (x_Qv X (x_sh σ 11 r) sz) 0 0 (x_A X sz) := by
  refine Met.ofW (cc := cX7_readPart) (maxL := 6) (ret := none) (by decide) rfl ?_
  intro p e s m args below meth c s₁ B hml hv
  obtain ⟨F, hI, rfl, rfl⟩ := x_begin B hml hv
  replace F : x_F p s m _ meth c cX7_readPart 6 RX7 none := F
  have hx := F.1
  have hb := F.2.1
  have hml := F.2.2.1
  have hown := F.2.2.2.1
  have hts := F.2.2.2.2.1
  refine x_entry (vs := [.ref (X.2.2 11 40)]) (n := 6) (Nat.le_of_ble_eq_true rfl) (fun ls hl => ?_)
  replace hl : lv_has ls 6 [(0, .ref (X.2.2 11 40))] := hl
  unfold fX7_readPart at h
  refine lv_aload_n hx hb dX7_readPart_0 rfl (lv_at hl 0 rfl) ?_
  obtain ⟨r1, h2, h⟩ := x_bnd h
  refine x_aci hI (x_runV (rest := []) F hI (mX7_here l X σ _ u  r1 h2) g_X7_153 ⟨rfl, hd_X7_here⟩ ⟨by decide, by decide⟩ ⟨rfl, rfl⟩ (x_inO (by decide)) rfl rfl rfl rfl hl.1 rfl (Nat.le_of_ble_eq_true rfl) dX7_readPart_1 ⟨Nat.zero_le _, Nat.zero_le _⟩) (fun H locs hI => ?_)
  refine lv_istore_n (lv' := [(1, .int r1), (0, .ref (X.2.2 11 40))]) hx hb dX7_readPart_4 rfl hl (by decide) rfl (fun ls hl => ?_)
  refine lv_iconst (v := 0) hx hb dX7_readPart_5 (by decide) ?_
  refine lv_istore_n (lv' := [(2, .int (0)), (1, .int r1), (0, .ref (X.2.2 11 40))]) hx hb dX7_readPart_6 rfl hl (by decide) rfl (fun ls hl => ?_)
  refine lv_iload_n hx hb dX7_readPart_7 rfl (lv_at hl 1 rfl) ?_
  refine lv_bipush (v := 115) hx hb dX7_readPart_8 (by decide) ?_
  refine lv_icmp_eq (tgt := 25) hx hb dX7_readPart_10 (by decide) (fun c3 => ?_) (fun c3 => ?_)
  · have h := x_ift h c3
    exact wX7_readPart_j25 F u r1 _ _ _ h hI (lv_sub hl [2, 1] rfl)
  · have h := x_iff h c3
    refine lv_iload_n hx hb dX7_readPart_13 rfl (lv_at hl 1 rfl) ?_
    refine lv_bipush (v := 103) hx hb dX7_readPart_14 (by decide) ?_
    refine lv_icmp_eq (tgt := 25) hx hb dX7_readPart_16 (by decide) (fun c4 => ?_) (fun c4 => ?_)
    · have h := x_ift h c4
      exact wX7_readPart_j25 F u r1 _ _ _ h hI (lv_sub hl [2, 1] rfl)
    · have h := x_iff h c4
      refine lv_iload_n hx hb dX7_readPart_19 rfl (lv_at hl 1 rfl) ?_
      refine lv_bipush (v := 114) hx hb dX7_readPart_20 (by decide) ?_
      refine lv_icmp_ne (tgt := 29) hx hb dX7_readPart_22 (by decide) (fun c5 => ?_) (fun c5 => ?_)
      · have h := x_iff h c5
        refine lv_iconst (v := 0) hx hb dX7_readPart_29 (by decide) ?_
        exact wX7_readPart_j30 F u r1 (0 : Int32) _ _ _ h hI (lv_sub hl [2, 1] rfl)
      · have h := x_ift h c5
        exact wX7_readPart_j25 F u r1 _ _ _ h hI (lv_sub hl [2, 1] rfl)
abbrev rm_X7_readAll : Room := { frames := 6, cells := 0, slots := 0, locals := 147 }
def fX7_readAll_b30 : Nat → x_H → Option x_H
  | 0, _ => none
  | n + 1, u => (if (u 40 4) = 0 then some (u) else (if (u 40 2) ≤ (u 40 3) then some (u) else (Option.bind (fX7_here u ) fun r13 => (if r13 = (59 : Int32) then (Option.bind (fX7_pass u (1 : Int32)) fun r16 => (if (r16 40 4) = 0 then fX7_readAll_b30 n r16 else (Option.bind (fX7_readPart r16 ) fun r19 => fX7_readAll_b30 n r19))) else (Option.bind (fX7_pass u (0 : Int32)) fun r21 => (if (r21 40 4) = 0 then fX7_readAll_b30 n r21 else (Option.bind (fX7_readPart r21 ) fun r24 => fX7_readAll_b30 n r24)))))))
set_option maxHeartbeats 4000000 in
set_option maxRecDepth 100000 in
theorem wX7_readAll_b30 {p : Program} {l : Launch} {e : Env} {s : State} {m : MethodId} {args : Array Value} {below : List Frame} {meth : Method} {c : Code} {X : x_T} {σ : x_S} {r : x_H} (F : x_F p s m args meth c cX7_readAll 1 RX7 none) : ∀ (n : Nat) (u : x_H) (H : Heap) (locs : List Loc) (ls : Array Slot), fX7_readAll_b30 n u = some r → x_I X (x_sh σ 11 u) s H locs → lv_has ls 1 [(0, .ref (X.2.2 11 40))] → W p l e rm_X7_readAll s m args below meth c H locs 0 0 (MQ below (x_Qv X (x_sh σ 11 r) s.heap.size) args s 0 0 (x_A X s.heap.size)) (F0 m 30 ls []) := by
  have hx := F.1
  have hb := F.2.1
  have hml := F.2.2.1
  have hown := F.2.2.2.1
  have hts := F.2.2.2.2.1
  intro n
  induction n with
  | zero =>
    intro u H locs ls h
    rw [fX7_readAll_b30] at h
    cases h
  | succ n ih =>
    intro u H locs ls h hI hl
    rw [fX7_readAll_b30] at h
    refine lv_aload_n hx hb dX7_readAll_30 rfl (lv_at hl 0 rfl) ?_
    refine xg_7_10 F hI (x_inO (by decide)) u_fl_X7_149 dX7_readAll_31 ?_
    refine lv_if_eq (tgt := 80) hx hb dX7_readAll_34 (by decide) (fun c11 => ?_) (fun c11 => ?_)
    · have h := x_ift h c11
      rw [x_some h]
      exact x_vret F hI dX7_readAll_80
    · have h := x_iff h c11
      refine lv_aload_n hx hb dX7_readAll_37 rfl (lv_at hl 0 rfl) ?_
      refine xg_7_9 F hI (x_inO (by decide)) u_fl_X7_146 dX7_readAll_38 ?_
      refine lv_aload_n hx hb dX7_readAll_41 rfl (lv_at hl 0 rfl) ?_
      refine xg_7_8 F hI (x_inO (by decide)) u_fl_X7_143 dX7_readAll_42 ?_
      refine lv_icmp_ge (tgt := 80) hx hb dX7_readAll_45 (by decide) (fun c12 => ?_) (fun c12 => ?_)
      · have h := x_ift h c12
        rw [x_some h]
        exact x_vret F hI dX7_readAll_80
      · have h := x_iff h c12
        refine lv_aload_n hx hb dX7_readAll_48 rfl (lv_at hl 0 rfl) ?_
        refine lv_aload_n hx hb dX7_readAll_49 rfl (lv_at hl 0 rfl) ?_
        obtain ⟨r13, h14, h⟩ := x_bnd h
        refine x_aci hI (x_runV (rest := [.ref (X.2.2 11 40)]) F hI (mX7_here l X σ _ u  r13 h14) g_X7_153 ⟨rfl, hd_X7_here⟩ ⟨by decide, by decide⟩ ⟨rfl, rfl⟩ (x_inO (by decide)) rfl rfl rfl rfl hl.1 rfl (Nat.le_of_ble_eq_true rfl) dX7_readAll_50 ⟨Nat.zero_le _, Nat.zero_le _⟩) (fun H locs hI => ?_)
        refine lv_bipush (v := 59) hx hb dX7_readAll_53 (by decide) ?_
        refine lv_icmp_ne (tgt := 62) hx hb dX7_readAll_55 (by decide) (fun c15 => ?_) (fun c15 => ?_)
        · have h := x_iff h c15
          refine lv_iconst (v := 0) hx hb dX7_readAll_62 (by decide) ?_
          obtain ⟨r21, h22, h⟩ := x_bnd h
          refine x_acv hI (x_runV (rest := []) F hI (mX7_pass l X σ _ u (0 : Int32) r21 h22) g_X7_159 ⟨rfl, hd_X7_pass⟩ ⟨by decide, by decide⟩ ⟨rfl, rfl⟩ (x_inO (by decide)) rfl rfl rfl rfl hl.1 rfl (Nat.le_of_ble_eq_true rfl) dX7_readAll_63 ⟨Nat.zero_le _, Nat.zero_le _⟩) (fun H locs hI => ?_)
          refine lv_aload_n hx hb dX7_readAll_66 rfl (lv_at hl 0 rfl) ?_
          refine xg_7_10 F hI (x_inO (by decide)) u_fl_X7_149 dX7_readAll_67 ?_
          refine lv_if_eq (tgt := 30) hx hb dX7_readAll_70 (by decide) (fun c23 => ?_) (fun c23 => ?_)
          · have h := x_ift h c23
            exact ih r21 _ _ _ h hI (lv_sub hl [0] rfl)
          · have h := x_iff h c23
            refine lv_aload_n hx hb dX7_readAll_73 rfl (lv_at hl 0 rfl) ?_
            obtain ⟨r24, h25, h⟩ := x_bnd h
            refine x_acv hI (x_runV (rest := []) F hI (mX7_readPart l X σ _ r21  r24 h25) g_X7_182 ⟨rfl, hd_X7_readPart⟩ ⟨by decide, by decide⟩ ⟨rfl, rfl⟩ (x_inO (by decide)) rfl rfl rfl rfl hl.1 rfl (Nat.le_of_ble_eq_true rfl) dX7_readAll_74 ⟨Nat.zero_le _, Nat.zero_le _⟩) (fun H locs hI => ?_)
            refine lv_goto (tgt := 30) hx hb dX7_readAll_77 (by decide) ?_
            exact ih r24 _ _ _ h hI (lv_sub hl [0] rfl)
        · have h := x_ift h c15
          refine lv_iconst (v := 1) hx hb dX7_readAll_58 (by decide) ?_
          refine lv_goto (tgt := 63) hx hb dX7_readAll_59 (by decide) ?_
          obtain ⟨r16, h17, h⟩ := x_bnd h
          refine x_acv hI (x_runV (rest := []) F hI (mX7_pass l X σ _ u (1 : Int32) r16 h17) g_X7_159 ⟨rfl, hd_X7_pass⟩ ⟨by decide, by decide⟩ ⟨rfl, rfl⟩ (x_inO (by decide)) rfl rfl rfl rfl hl.1 rfl (Nat.le_of_ble_eq_true rfl) dX7_readAll_63 ⟨Nat.zero_le _, Nat.zero_le _⟩) (fun H locs hI => ?_)
          refine lv_aload_n hx hb dX7_readAll_66 rfl (lv_at hl 0 rfl) ?_
          refine xg_7_10 F hI (x_inO (by decide)) u_fl_X7_149 dX7_readAll_67 ?_
          refine lv_if_eq (tgt := 30) hx hb dX7_readAll_70 (by decide) (fun c18 => ?_) (fun c18 => ?_)
          · have h := x_ift h c18
            exact ih r16 _ _ _ h hI (lv_sub hl [0] rfl)
          · have h := x_iff h c18
            refine lv_aload_n hx hb dX7_readAll_73 rfl (lv_at hl 0 rfl) ?_
            obtain ⟨r19, h20, h⟩ := x_bnd h
            refine x_acv hI (x_runV (rest := []) F hI (mX7_readPart l X σ _ r16  r19 h20) g_X7_182 ⟨rfl, hd_X7_readPart⟩ ⟨by decide, by decide⟩ ⟨rfl, rfl⟩ (x_inO (by decide)) rfl rfl rfl rfl hl.1 rfl (Nat.le_of_ble_eq_true rfl) dX7_readAll_74 ⟨Nat.zero_le _, Nat.zero_le _⟩) (fun H locs hI => ?_)
            refine lv_goto (tgt := 30) hx hb dX7_readAll_77 (by decide) ?_
            exact ih r19 _ _ _ h hI (lv_sub hl [0] rfl)
def fX7_readAll (u : x_H) : Option x_H := x_let (x_hu u 40 3 (0 : Int32)) fun u1 => x_let (x_hu u1 40 4 (1 : Int32)) fun u3 => x_let (x_hu u3 40 5 (1 : Int32)) fun u5 => x_let (x_hs u5 42 (u5 41)) fun u7 => (Option.bind (fX7_readPart u7 ) fun r9 => fX7_readAll_b30 400 r9)
set_option maxHeartbeats 4000000 in
set_option maxRecDepth 100000 in
theorem mX7_readAll (l : Launch) (X : x_T) (σ : x_S) (sz : Nat) (u : x_H) (r : x_H) (h : fX7_readAll u  = some r) : Met l yX7_readAll (x_ws yX7_readAll cX7_readAll 1 none) rm_X7_readAll (x_Pc X (x_sh σ 11 u) sz [.ref (X.2.2 11 40)]) (x_Qv X (x_sh σ 11 r) sz) 0 0 (x_A X sz) := by
  refine Met.ofW (cc := cX7_readAll) (maxL := 1) (ret := none) (by decide) rfl ?_
  intro p e s m args below meth c s₁ B hml hv
  obtain ⟨F, hI, rfl, rfl⟩ := x_begin B hml hv
  replace F : x_F p s m _ meth c cX7_readAll 1 RX7 none := F
  have hx := F.1
  have hb := F.2.1
  have hml := F.2.2.1
  have hown := F.2.2.2.1
  have hts := F.2.2.2.2.1
  refine x_entry (vs := [.ref (X.2.2 11 40)]) (n := 1) (Nat.le_of_ble_eq_true rfl) (fun ls hl => ?_)
  replace hl : lv_has ls 1 [(0, .ref (X.2.2 11 40))] := hl
  unfold fX7_readAll at h
  refine lv_aload_n hx hb dX7_readAll_0 rfl (lv_at hl 0 rfl) ?_
  refine lv_iconst (v := 0) hx hb dX7_readAll_1 (by decide) ?_
  refine xp_7_9 F hI (x_inO (by decide)) u_fl_X7_146 dX7_readAll_2 (fun H locs u1 e2 hI => ?_)
  have h := x_let_at h e2
  refine lv_aload_n hx hb dX7_readAll_5 rfl (lv_at hl 0 rfl) ?_
  refine lv_iconst (v := 1) hx hb dX7_readAll_6 (by decide) ?_
  refine xp_7_10 F hI (x_inO (by decide)) u_fl_X7_149 (by decide) dX7_readAll_7 (fun H locs u3 e4 hI => ?_)
  have h := x_let_at h e4
  refine lv_aload_n hx hb dX7_readAll_10 rfl (lv_at hl 0 rfl) ?_
  refine lv_iconst (v := 1) hx hb dX7_readAll_11 (by decide) ?_
  refine xp_7_11 F hI (x_inO (by decide)) u_fl_X7_163 (by decide) dX7_readAll_12 (fun H locs u5 e6 hI => ?_)
  have h := x_let_at h e6
  refine lv_aload_n hx hb dX7_readAll_15 rfl (lv_at hl 0 rfl) ?_
  refine xg_7_1 F hI (x_inO (by decide)) u_fl_X7_7 dX7_readAll_16 ?_
  refine lv_aload_n hx hb dX7_readAll_19 rfl (lv_at hl 0 rfl) ?_
  refine xg_7_2 F hI (x_inO (by decide)) u_fl_X7_13 dX7_readAll_20 ?_
  refine x_acv hI (x_runS (rest := []) F hI (mX7_copyN l X σ 41 42 (x_inO (by decide)) (x_inO (by decide)) (fun _ => rfl) (fun _ => rfl) (by decide) _ u5) g_X7_178 hd_X7_copy ⟨by decide, by decide⟩ ⟨rfl, rfl⟩ rfl hl.1 rfl (Nat.le_of_ble_eq_true rfl) dX7_readAll_23 ⟨Nat.zero_le _, Nat.zero_le _⟩) (fun H locs hI => ?_)
  obtain ⟨u7, e8⟩ : ∃ z : x_H, z = (x_hs u5 42 (u5 41)) := ⟨_, rfl⟩
  rw [← e8] at hI
  have h := x_let_at h e8
  refine lv_aload_n hx hb dX7_readAll_26 rfl (lv_at hl 0 rfl) ?_
  obtain ⟨r9, h10, h⟩ := x_bnd h
  refine x_acv hI (x_runV (rest := []) F hI (mX7_readPart l X σ _ u7  r9 h10) g_X7_182 ⟨rfl, hd_X7_readPart⟩ ⟨by decide, by decide⟩ ⟨rfl, rfl⟩ (x_inO (by decide)) rfl rfl rfl rfl hl.1 rfl (Nat.le_of_ble_eq_true rfl) dX7_readAll_27 ⟨Nat.zero_le _, Nat.zero_le _⟩) (fun H locs hI => ?_)
  exact wX7_readAll_b30 F 400 r9 _ _ _ h hI (lv_sub hl [0] rfl)
abbrev rm_X7_firstError : Room := { frames := 7, cells := 0, slots := 0, locals := 167 }
def fX7_firstError (u : x_H) : Option (Int32 × x_H) := x_let (x_hu u 40 0 (0 : Int32)) fun u1 => (Option.bind (fX7_readAll u1 ) fun r3 => (if (r3 40 4) = 0 then some ((r3 40 3), r3) else some ((r3 40 2), r3)))
set_option maxHeartbeats 4000000 in
set_option maxRecDepth 100000 in
theorem mX7_firstError (l : Launch) (X : x_T) (σ : x_S) (sz : Nat) (u : x_H) (r : (Int32 × x_H)) (h : fX7_firstError u  = some r) : Met l yX7_firstError (x_ws yX7_firstError cX7_firstError 1 (some .int)) rm_X7_firstError (x_Pc X (x_sh σ 11 u) sz [.ref (X.2.2 11 40)]) (x_Qi X r.1 (x_sh σ 11 r.2) sz) 0 0 (x_A X sz) := by
  refine Met.ofW (cc := cX7_firstError) (maxL := 1) (ret := (some .int)) (by decide) rfl ?_
  intro p e s m args below meth c s₁ B hml hv
  obtain ⟨F, hI, rfl, rfl⟩ := x_begin B hml hv
  replace F : x_F p s m _ meth c cX7_firstError 1 RX7 (some .int) := F
  have hx := F.1
  have hb := F.2.1
  have hml := F.2.2.1
  have hown := F.2.2.2.1
  have hts := F.2.2.2.2.1
  refine x_entry (vs := [.ref (X.2.2 11 40)]) (n := 1) (Nat.le_of_ble_eq_true rfl) (fun ls hl => ?_)
  replace hl : lv_has ls 1 [(0, .ref (X.2.2 11 40))] := hl
  unfold fX7_firstError at h
  refine lv_aload_n hx hb dX7_firstError_0 rfl (lv_at hl 0 rfl) ?_
  refine lv_iconst (v := 0) hx hb dX7_firstError_1 (by decide) ?_
  refine xp_7_0 F hI (x_inO (by decide)) u_fl_X7_29 dX7_firstError_2 (fun H locs u1 e2 hI => ?_)
  have h := x_let_at h e2
  refine lv_aload_n hx hb dX7_firstError_5 rfl (lv_at hl 0 rfl) ?_
  obtain ⟨r3, h4, h⟩ := x_bnd h
  refine x_acv hI (x_runV (rest := []) F hI (mX7_readAll l X σ _ u1  r3 h4) g_X7_185 ⟨rfl, hd_X7_readAll⟩ ⟨by decide, by decide⟩ ⟨rfl, rfl⟩ (x_inO (by decide)) rfl rfl rfl rfl hl.1 rfl (Nat.le_of_ble_eq_true rfl) dX7_firstError_6 ⟨Nat.zero_le _, Nat.zero_le _⟩) (fun H locs hI => ?_)
  refine lv_aload_n hx hb dX7_firstError_9 rfl (lv_at hl 0 rfl) ?_
  refine xg_7_10 F hI (x_inO (by decide)) u_fl_X7_149 dX7_firstError_10 ?_
  refine lv_if_eq (tgt := 23) hx hb dX7_firstError_13 (by decide) (fun c5 => ?_) (fun c5 => ?_)
  · have h := x_ift h c5
    refine lv_aload_n hx hb dX7_firstError_23 rfl (lv_at hl 0 rfl) ?_
    refine xg_7_9 F hI (x_inO (by decide)) u_fl_X7_146 dX7_firstError_24 ?_
    rw [x_some h]
    exact x_iret F hI dX7_firstError_27
  · have h := x_iff h c5
    refine lv_aload_n hx hb dX7_firstError_16 rfl (lv_at hl 0 rfl) ?_
    refine xg_7_8 F hI (x_inO (by decide)) u_fl_X7_143 dX7_firstError_17 ?_
    refine lv_goto (tgt := 27) hx hb dX7_firstError_20 (by decide) ?_
    rw [x_some h]
    exact x_iret F hI dX7_firstError_27
abbrev rm_X7_play : Room := { frames := 7, cells := 0, slots := 0, locals := 167 }
def fX7_play_j28 (u : x_H) (z0 : Int32) : Option (Int32 × x_H) := (Option.bind (fX7_refused u z0) fun r5 => (if r5.1 = 0 then (Option.bind (fX7_save r5.2 ) fun r8 => x_let (x_hs r8 41 (r8 42)) fun u10 => x_let (x_hu u10 40 2 (0 : Int32)) fun u12 => (Option.bind (fX7_inRooms (u12 41) ) fun r14 => some (r14, u12))) else some ((0 : Int32), r5.2)))
set_option maxHeartbeats 4000000 in
set_option maxRecDepth 100000 in
theorem wX7_play_j28 {p : Program} {l : Launch} {e : Env} {s : State} {m : MethodId} {args : Array Value} {below : List Frame} {meth : Method} {c : Code} {X : x_T} {σ : x_S} {r : (Int32 × x_H)} (F : x_F p s m args meth c cX7_play 1 RX7 (some .int)) (u : x_H) (z0 : Int32) (H : Heap) (locs : List Loc) (ls : Array Slot) (h : fX7_play_j28 u z0 = some r) (hI : x_I X (x_sh σ 11 u) s H locs) (hl : lv_has ls 1 [(0, .ref (X.2.2 11 40))]) : W p l e rm_X7_play s m args below meth c H locs 0 0 (MQ below (x_Qi X r.1 (x_sh σ 11 r.2) s.heap.size) args s 0 0 (x_A X s.heap.size)) (F0 m 28 ls [.int z0, .ref (X.2.2 11 40)]) := by
  have hx := F.1
  have hb := F.2.1
  have hml := F.2.2.1
  have hown := F.2.2.2.1
  have hts := F.2.2.2.2.1
  unfold fX7_play_j28 at h
  obtain ⟨r5, h6, h⟩ := x_bnd h
  refine x_aci hI (x_runV (rest := []) F hI (mX7_refused l X σ _ u z0 r5 h6) g_X7_97 ⟨rfl, hd_X7_refused⟩ ⟨by decide, by decide⟩ ⟨rfl, rfl⟩ (x_inO (by decide)) rfl rfl rfl rfl hl.1 rfl (Nat.le_of_ble_eq_true rfl) dX7_play_28 ⟨Nat.zero_le _, Nat.zero_le _⟩) (fun H locs hI => ?_)
  refine lv_if_eq (tgt := 36) hx hb dX7_play_31 (by decide) (fun c7 => ?_) (fun c7 => ?_)
  · have h := x_ift h c7
    refine lv_aload_n hx hb dX7_play_36 rfl (lv_at hl 0 rfl) ?_
    obtain ⟨r8, h9, h⟩ := x_bnd h
    refine x_acv hI (x_runV (rest := []) F hI (mX7_save l X σ _ r5.2  r8 h9) g_X7_103 ⟨rfl, hd_X7_save⟩ ⟨by decide, by decide⟩ ⟨rfl, rfl⟩ (x_inO (by decide)) rfl rfl rfl rfl hl.1 rfl (Nat.le_of_ble_eq_true rfl) dX7_play_37 ⟨Nat.zero_le _, Nat.zero_le _⟩) (fun H locs hI => ?_)
    refine lv_aload_n hx hb dX7_play_40 rfl (lv_at hl 0 rfl) ?_
    refine xg_7_2 F hI (x_inO (by decide)) u_fl_X7_13 dX7_play_41 ?_
    refine lv_aload_n hx hb dX7_play_44 rfl (lv_at hl 0 rfl) ?_
    refine xg_7_1 F hI (x_inO (by decide)) u_fl_X7_7 dX7_play_45 ?_
    refine x_acv hI (x_runS (rest := []) F hI (mX7_copyN l X σ 42 41 (x_inO (by decide)) (x_inO (by decide)) (fun _ => rfl) (fun _ => rfl) (by decide) _ r8) g_X7_178 hd_X7_copy ⟨by decide, by decide⟩ ⟨rfl, rfl⟩ rfl hl.1 rfl (Nat.le_of_ble_eq_true rfl) dX7_play_48 ⟨Nat.zero_le _, Nat.zero_le _⟩) (fun H locs hI => ?_)
    obtain ⟨u10, e11⟩ : ∃ z : x_H, z = (x_hs r8 41 (r8 42)) := ⟨_, rfl⟩
    rw [← e11] at hI
    have h := x_let_at h e11
    refine lv_aload_n hx hb dX7_play_51 rfl (lv_at hl 0 rfl) ?_
    refine lv_iconst (v := 0) hx hb dX7_play_52 (by decide) ?_
    refine xp_7_8 F hI (x_inO (by decide)) u_fl_X7_143 dX7_play_53 (fun H locs u12 e13 hI => ?_)
    have h := x_let_at h e13
    refine lv_aload_n hx hb dX7_play_56 rfl (lv_at hl 0 rfl) ?_
    refine xg_7_1 F hI (x_inO (by decide)) u_fl_X7_7 dX7_play_57 ?_
    obtain ⟨r14, h15, h⟩ := x_bnd h
    have hI := x_toV 41 hI
    refine x_aci hI (x_runS (rest := []) F hI (mX7_inRooms l X σ u12 41 (x_inO (by decide)) (fun _ => rfl) _ (u12 41)  r14 h15) g_X7_188 hd_X7_inRooms ⟨by decide, by decide⟩ ⟨rfl, rfl⟩ rfl hl.1 rfl (Nat.le_of_ble_eq_true rfl) dX7_play_60 ⟨Nat.zero_le _, Nat.zero_le _⟩) (fun H locs hI => ?_)
    rw [x_hs_self] at hI
    rw [x_some h]
    exact x_iret F hI dX7_play_63
  · have h := x_iff h c7
    refine lv_iconst (v := 0) hx hb dX7_play_34 (by decide) ?_
    rw [x_some h]
    exact x_iret F hI dX7_play_35
def fX7_play (u : x_H) : Option (Int32 × x_H) := (Option.bind (fX7_readAll u ) fun r1 => (if (r1 40 4) = 0 then fX7_play_j28 r1 (1 : Int32) else (if (r1 40 5) = 0 then fX7_play_j28 r1 (2 : Int32) else fX7_play_j28 r1 (0 : Int32))))
set_option maxHeartbeats 4000000 in
set_option maxRecDepth 100000 in
theorem mX7_play (l : Launch) (X : x_T) (σ : x_S) (sz : Nat) (u : x_H) (r : (Int32 × x_H)) (h : fX7_play u  = some r) : Met l yX7_play (x_ws yX7_play cX7_play 1 (some .int)) rm_X7_play (x_Pc X (x_sh σ 11 u) sz [.ref (X.2.2 11 40)]) (x_Qi X r.1 (x_sh σ 11 r.2) sz) 0 0 (x_A X sz) := by
  refine Met.ofW (cc := cX7_play) (maxL := 1) (ret := (some .int)) (by decide) rfl ?_
  intro p e s m args below meth c s₁ B hml hv
  obtain ⟨F, hI, rfl, rfl⟩ := x_begin B hml hv
  replace F : x_F p s m _ meth c cX7_play 1 RX7 (some .int) := F
  have hx := F.1
  have hb := F.2.1
  have hml := F.2.2.1
  have hown := F.2.2.2.1
  have hts := F.2.2.2.2.1
  refine x_entry (vs := [.ref (X.2.2 11 40)]) (n := 1) (Nat.le_of_ble_eq_true rfl) (fun ls hl => ?_)
  replace hl : lv_has ls 1 [(0, .ref (X.2.2 11 40))] := hl
  unfold fX7_play at h
  refine lv_aload_n hx hb dX7_play_0 rfl (lv_at hl 0 rfl) ?_
  obtain ⟨r1, h2, h⟩ := x_bnd h
  refine x_acv hI (x_runV (rest := []) F hI (mX7_readAll l X σ _ u  r1 h2) g_X7_185 ⟨rfl, hd_X7_readAll⟩ ⟨by decide, by decide⟩ ⟨rfl, rfl⟩ (x_inO (by decide)) rfl rfl rfl rfl hl.1 rfl (Nat.le_of_ble_eq_true rfl) dX7_play_1 ⟨Nat.zero_le _, Nat.zero_le _⟩) (fun H locs hI => ?_)
  refine lv_aload_n hx hb dX7_play_4 rfl (lv_at hl 0 rfl) ?_
  refine lv_aload_n hx hb dX7_play_5 rfl (lv_at hl 0 rfl) ?_
  refine xg_7_10 F hI (x_inO (by decide)) u_fl_X7_149 dX7_play_6 ?_
  refine lv_if_ne (tgt := 16) hx hb dX7_play_9 (by decide) (fun c3 => ?_) (fun c3 => ?_)
  · have h := x_iff h c3
    refine lv_aload_n hx hb dX7_play_16 rfl (lv_at hl 0 rfl) ?_
    refine xg_7_11 F hI (x_inO (by decide)) u_fl_X7_163 dX7_play_17 ?_
    refine lv_if_ne (tgt := 27) hx hb dX7_play_20 (by decide) (fun c4 => ?_) (fun c4 => ?_)
    · have h := x_iff h c4
      refine lv_iconst (v := 0) hx hb dX7_play_27 (by decide) ?_
      exact wX7_play_j28 F r1 (0 : Int32) _ _ _ h hI (lv_sub hl [0] rfl)
    · have h := x_ift h c4
      refine lv_iconst (v := 2) hx hb dX7_play_23 (by decide) ?_
      refine lv_goto (tgt := 28) hx hb dX7_play_24 (by decide) ?_
      exact wX7_play_j28 F r1 (2 : Int32) _ _ _ h hI (lv_sub hl [0] rfl)
  · have h := x_ift h c3
    refine lv_iconst (v := 1) hx hb dX7_play_12 (by decide) ?_
    refine lv_goto (tgt := 28) hx hb dX7_play_13 (by decide) ?_
    exact wX7_play_j28 F r1 (1 : Int32) _ _ _ h hI (lv_sub hl [0] rfl)
abbrev rm_X7_keep : Room := { frames := 2, cells := 0, slots := 0, locals := 45 }
def fX7_keep_b22 : Nat → x_H → Int32 → Int32 → Option x_H
  | 0, _, _, _ => none
  | n + 1, u, y1, y2 => (if (570 : Int32) ≤ y2 then (if x_in y1 2 then x_let (x_hu u 45 (Int32.toNatClampNeg y1) (vp_nar .boolean (1 : Int32))) fun u8 => some (u8) else none) else (if x_in y2 570 then (if x_in (((570 : Int32) * y1) + y2) 1140 then x_let (x_hu u 44 (Int32.toNatClampNeg (((570 : Int32) * y1) + y2)) (u 41 (Int32.toNatClampNeg y2))) fun u12 => x_let (y2 + (1 : Int32)) fun x15 => fX7_keep_b22 n u12 y1 x15 else none) else none))
set_option maxHeartbeats 4000000 in
set_option maxRecDepth 100000 in
theorem wX7_keep_b22 {p : Program} {l : Launch} {e : Env} {s : State} {m : MethodId} {args : Array Value} {below : List Frame} {meth : Method} {c : Code} {X : x_T} {σ : x_S} {r : x_H} (F : x_F p s m args meth c cX7_keep 3 RX7 none) : ∀ (n : Nat) (u : x_H) (y1 : Int32) (y2 : Int32) (H : Heap) (locs : List Loc) (ls : Array Slot), fX7_keep_b22 n u y1 y2 = some r → x_I X (x_sh σ 11 u) s H locs → lv_has ls 3 [(0, .ref (X.2.2 11 40)), (1, .int y1), (2, .int y2)] → W p l e rm_X7_keep s m args below meth c H locs 0 0 (MQ below (x_Qv X (x_sh σ 11 r) s.heap.size) args s 0 0 (x_A X s.heap.size)) (F0 m 22 ls []) := by
  have hx := F.1
  have hb := F.2.1
  have hml := F.2.2.1
  have hown := F.2.2.2.1
  have hts := F.2.2.2.2.1
  intro n
  induction n with
  | zero =>
    intro u y1 y2 H locs ls h
    rw [fX7_keep_b22] at h
    cases h
  | succ n ih =>
    intro u y1 y2 H locs ls h hI hl
    rw [fX7_keep_b22] at h
    refine lv_iload_n hx hb dX7_keep_22 rfl (lv_at hl 2 rfl) ?_
    refine lv_sipush (v := 570) hx hb dX7_keep_23 (by decide) ?_
    refine lv_icmp_ge (tgt := 53) hx hb dX7_keep_26 (by decide) (fun c7 => ?_) (fun c7 => ?_)
    · have h := x_ift h c7
      refine lv_aload_n hx hb dX7_keep_53 rfl (lv_at hl 0 rfl) ?_
      refine xg_7_6 F hI (x_inO (by decide)) u_fl_X7_22 dX7_keep_54 ?_
      refine lv_iload_n hx hb dX7_keep_57 rfl (lv_at hl 1 rfl) ?_
      refine lv_iconst (v := 1) hx hb dX7_keep_58 (by decide) ?_
      obtain ⟨g10, h⟩ := x_chk h
      refine xh_zast (n := 2) F hI (x_inO (by decide)) (fun _ => rfl) g10 dX7_keep_59 (fun H locs u8 e9 hI => ?_)
      have h := x_let_at h e9
      rw [x_some h]
      exact x_vret F hI dX7_keep_60
    · have h := x_iff h c7
      refine lv_aload_n hx hb dX7_keep_29 rfl (lv_at hl 0 rfl) ?_
      refine xg_7_5 F hI (x_inO (by decide)) u_fl_X7_19 dX7_keep_30 ?_
      refine lv_sipush (v := 570) hx hb dX7_keep_33 (by decide) ?_
      refine lv_iload_n hx hb dX7_keep_36 rfl (lv_at hl 1 rfl) ?_
      refine lv_imul hx hb dX7_keep_37 ?_
      refine lv_iload_n hx hb dX7_keep_38 rfl (lv_at hl 2 rfl) ?_
      refine lv_iadd hx hb dX7_keep_39 ?_
      refine lv_aload_n hx hb dX7_keep_40 rfl (lv_at hl 0 rfl) ?_
      refine xg_7_1 F hI (x_inO (by decide)) u_fl_X7_7 dX7_keep_41 ?_
      refine lv_iload_n hx hb dX7_keep_44 rfl (lv_at hl 2 rfl) ?_
      obtain ⟨g11, h⟩ := x_chk h
      refine xh_iald (n := 570) F hI (x_inO (by decide)) (fun _ => rfl) g11 dX7_keep_45 ?_
      obtain ⟨g14, h⟩ := x_chk h
      refine xh_iast (n := 1140) F hI (x_inO (by decide)) (fun _ => rfl) g14 dX7_keep_46 (fun H locs u12 e13 hI => ?_)
      have h := x_let_at h e13
      obtain ⟨x15, e16⟩ : ∃ z : Int32, z = (y2 + (1 : Int32)) := ⟨_, rfl⟩
      have h := x_let_at h e16
      refine lv_iinc (v := x15) (lv' := [(2, .int x15), (0, .ref (X.2.2 11 40)), (1, .int y1)]) hx hb dX7_keep_47 hl (k := 2) rfl (by rw [e16]; rfl) (by decide) rfl (fun ls hl => ?_)
      refine lv_goto (tgt := 22) hx hb dX7_keep_50 (by decide) ?_
      exact ih u12 y1 x15 _ _ _ h hI (lv_sub hl [1, 2, 0] rfl)
def fX7_keep_j13 (u : x_H) (y1 : Int32) (z0 : Int32) : Option x_H := (Option.bind (fX7_refused u z0) fun r4 => (if r4.1 = 0 then fX7_keep_b22 4000 r4.2 y1 (0 : Int32) else some (r4.2)))
set_option maxHeartbeats 4000000 in
set_option maxRecDepth 100000 in
theorem wX7_keep_j13 {p : Program} {l : Launch} {e : Env} {s : State} {m : MethodId} {args : Array Value} {below : List Frame} {meth : Method} {c : Code} {X : x_T} {σ : x_S} {r : x_H} (F : x_F p s m args meth c cX7_keep 3 RX7 none) (u : x_H) (y1 : Int32) (z0 : Int32) (H : Heap) (locs : List Loc) (ls : Array Slot) (h : fX7_keep_j13 u y1 z0 = some r) (hI : x_I X (x_sh σ 11 u) s H locs) (hl : lv_has ls 3 [(0, .ref (X.2.2 11 40)), (1, .int y1)]) : W p l e rm_X7_keep s m args below meth c H locs 0 0 (MQ below (x_Qv X (x_sh σ 11 r) s.heap.size) args s 0 0 (x_A X s.heap.size)) (F0 m 13 ls [.int z0, .ref (X.2.2 11 40)]) := by
  have hx := F.1
  have hb := F.2.1
  have hml := F.2.2.1
  have hown := F.2.2.2.1
  have hts := F.2.2.2.2.1
  unfold fX7_keep_j13 at h
  obtain ⟨r4, h5, h⟩ := x_bnd h
  refine x_aci hI (x_runV (rest := []) F hI (mX7_refused l X σ _ u z0 r4 h5) g_X7_97 ⟨rfl, hd_X7_refused⟩ ⟨by decide, by decide⟩ ⟨rfl, rfl⟩ (x_inO (by decide)) rfl rfl rfl rfl hl.1 rfl (Nat.le_of_ble_eq_true rfl) dX7_keep_13 ⟨Nat.zero_le _, Nat.zero_le _⟩) (fun H locs hI => ?_)
  refine lv_if_eq (tgt := 20) hx hb dX7_keep_16 (by decide) (fun c6 => ?_) (fun c6 => ?_)
  · have h := x_ift h c6
    refine lv_iconst (v := 0) hx hb dX7_keep_20 (by decide) ?_
    refine lv_istore_n (lv' := [(2, .int (0)), (0, .ref (X.2.2 11 40)), (1, .int y1)]) hx hb dX7_keep_21 rfl hl (by decide) rfl (fun ls hl => ?_)
    exact wX7_keep_b22 F 4000 r4.2 y1 (0 : Int32) _ _ _ h hI (lv_sub hl [1, 2, 0] rfl)
  · have h := x_iff h c6
    rw [x_some h]
    exact x_vret F hI dX7_keep_19
def fX7_keep (u : x_H) (a1 : Int32) : Option x_H := (Option.bind (fX7_isSlot a1) fun r1 => (if r1 = 0 then fX7_keep_j13 u a1 (1 : Int32) else fX7_keep_j13 u a1 (0 : Int32)))
set_option maxHeartbeats 4000000 in
set_option maxRecDepth 100000 in
theorem mX7_keep (l : Launch) (X : x_T) (σ : x_S) (sz : Nat) (u : x_H) (a1 : Int32) (r : x_H) (h : fX7_keep u a1 = some r) : Met l yX7_keep (x_ws yX7_keep cX7_keep 3 none) rm_X7_keep (x_Pc X (x_sh σ 11 u) sz [.ref (X.2.2 11 40), .int a1]) (x_Qv X (x_sh σ 11 r) sz) 0 0 (x_A X sz) := by
  refine Met.ofW (cc := cX7_keep) (maxL := 3) (ret := none) (by decide) rfl ?_
  intro p e s m args below meth c s₁ B hml hv
  obtain ⟨F, hI, rfl, rfl⟩ := x_begin B hml hv
  replace F : x_F p s m _ meth c cX7_keep 3 RX7 none := F
  have hx := F.1
  have hb := F.2.1
  have hml := F.2.2.1
  have hown := F.2.2.2.1
  have hts := F.2.2.2.2.1
  refine x_entry (vs := [.ref (X.2.2 11 40), .int a1]) (n := 3) (Nat.le_of_ble_eq_true rfl) (fun ls hl => ?_)
  replace hl : lv_has ls 3 [(0, .ref (X.2.2 11 40)), (1, .int a1)] := hl
  unfold fX7_keep at h
  refine lv_aload_n hx hb dX7_keep_0 rfl (lv_at hl 0 rfl) ?_
  refine lv_iload_n hx hb dX7_keep_1 rfl (lv_at hl 1 rfl) ?_
  obtain ⟨r1, h2, h⟩ := x_bnd h
  refine x_aci hI (x_runS (rest := [.ref (X.2.2 11 40)]) F hI (mX7_isSlot l X (x_sh σ 11 u) _ a1 r1 h2) g_X7_191 hd_X7_isSlot ⟨by decide, by decide⟩ ⟨rfl, rfl⟩ rfl hl.1 rfl (Nat.le_of_ble_eq_true rfl) dX7_keep_2 ⟨Nat.zero_le _, Nat.zero_le _⟩) (fun H locs hI => ?_)
  refine lv_if_eq (tgt := 12) hx hb dX7_keep_5 (by decide) (fun c3 => ?_) (fun c3 => ?_)
  · have h := x_ift h c3
    refine lv_iconst (v := 1) hx hb dX7_keep_12 (by decide) ?_
    exact wX7_keep_j13 F u a1 (1 : Int32) _ _ _ h hI (lv_sub hl [0, 1] rfl)
  · have h := x_iff h c3
    refine lv_iconst (v := 0) hx hb dX7_keep_8 (by decide) ?_
    refine lv_goto (tgt := 13) hx hb dX7_keep_9 (by decide) ?_
    exact wX7_keep_j13 F u a1 (0 : Int32) _ _ _ h hI (lv_sub hl [0, 1] rfl)
abbrev rm_X7_goBack : Room := { frames := 2, cells := 0, slots := 0, locals := 45 }
def fX7_goBack_b39 : Nat → x_H → Int32 → Int32 → Option x_H
  | 0, _, _, _ => none
  | n + 1, u, y1, y2 => (if (570 : Int32) ≤ y2 then some (u) else (if x_in (((570 : Int32) * y1) + y2) 1140 then (if x_in y2 570 then x_let (x_hu u 41 (Int32.toNatClampNeg y2) (u 44 (Int32.toNatClampNeg (((570 : Int32) * y1) + y2)))) fun u13 => x_let (y2 + (1 : Int32)) fun x16 => fX7_goBack_b39 n u13 y1 x16 else none) else none))
set_option maxHeartbeats 4000000 in
set_option maxRecDepth 100000 in
theorem wX7_goBack_b39 {p : Program} {l : Launch} {e : Env} {s : State} {m : MethodId} {args : Array Value} {below : List Frame} {meth : Method} {c : Code} {X : x_T} {σ : x_S} {r : x_H} (F : x_F p s m args meth c cX7_goBack 3 RX7 none) : ∀ (n : Nat) (u : x_H) (y1 : Int32) (y2 : Int32) (H : Heap) (locs : List Loc) (ls : Array Slot), fX7_goBack_b39 n u y1 y2 = some r → x_I X (x_sh σ 11 u) s H locs → lv_has ls 3 [(0, .ref (X.2.2 11 40)), (1, .int y1), (2, .int y2)] → W p l e rm_X7_goBack s m args below meth c H locs 0 0 (MQ below (x_Qv X (x_sh σ 11 r) s.heap.size) args s 0 0 (x_A X s.heap.size)) (F0 m 39 ls []) := by
  have hx := F.1
  have hb := F.2.1
  have hml := F.2.2.1
  have hown := F.2.2.2.1
  have hts := F.2.2.2.2.1
  intro n
  induction n with
  | zero =>
    intro u y1 y2 H locs ls h
    rw [fX7_goBack_b39] at h
    cases h
  | succ n ih =>
    intro u y1 y2 H locs ls h hI hl
    rw [fX7_goBack_b39] at h
    refine lv_iload_n hx hb dX7_goBack_39 rfl (lv_at hl 2 rfl) ?_
    refine lv_sipush (v := 570) hx hb dX7_goBack_40 (by decide) ?_
    refine lv_icmp_ge (tgt := 70) hx hb dX7_goBack_43 (by decide) (fun c11 => ?_) (fun c11 => ?_)
    · have h := x_ift h c11
      rw [x_some h]
      exact x_vret F hI dX7_goBack_70
    · have h := x_iff h c11
      refine lv_aload_n hx hb dX7_goBack_46 rfl (lv_at hl 0 rfl) ?_
      refine xg_7_1 F hI (x_inO (by decide)) u_fl_X7_7 dX7_goBack_47 ?_
      refine lv_iload_n hx hb dX7_goBack_50 rfl (lv_at hl 2 rfl) ?_
      refine lv_aload_n hx hb dX7_goBack_51 rfl (lv_at hl 0 rfl) ?_
      refine xg_7_5 F hI (x_inO (by decide)) u_fl_X7_19 dX7_goBack_52 ?_
      refine lv_sipush (v := 570) hx hb dX7_goBack_55 (by decide) ?_
      refine lv_iload_n hx hb dX7_goBack_58 rfl (lv_at hl 1 rfl) ?_
      refine lv_imul hx hb dX7_goBack_59 ?_
      refine lv_iload_n hx hb dX7_goBack_60 rfl (lv_at hl 2 rfl) ?_
      refine lv_iadd hx hb dX7_goBack_61 ?_
      obtain ⟨g12, h⟩ := x_chk h
      refine xh_iald (n := 1140) F hI (x_inO (by decide)) (fun _ => rfl) g12 dX7_goBack_62 ?_
      obtain ⟨g15, h⟩ := x_chk h
      refine xh_iast (n := 570) F hI (x_inO (by decide)) (fun _ => rfl) g15 dX7_goBack_63 (fun H locs u13 e14 hI => ?_)
      have h := x_let_at h e14
      obtain ⟨x16, e17⟩ : ∃ z : Int32, z = (y2 + (1 : Int32)) := ⟨_, rfl⟩
      have h := x_let_at h e17
      refine lv_iinc (v := x16) (lv' := [(2, .int x16), (0, .ref (X.2.2 11 40)), (1, .int y1)]) hx hb dX7_goBack_64 hl (k := 2) rfl (by rw [e17]; rfl) (by decide) rfl (fun ls hl => ?_)
      refine lv_goto (tgt := 39) hx hb dX7_goBack_67 (by decide) ?_
      exact ih u13 y1 x16 _ _ _ h hI (lv_sub hl [1, 2, 0] rfl)
def fX7_goBack_j26 (u : x_H) (y1 : Int32) (z0 : Int32) : Option x_H := (Option.bind (fX7_refused u z0) fun r6 => (if r6.1 = 0 then (Option.bind (fX7_save r6.2 ) fun r9 => fX7_goBack_b39 4000 r9 y1 (0 : Int32)) else some (r6.2)))
set_option maxHeartbeats 4000000 in
set_option maxRecDepth 100000 in
theorem wX7_goBack_j26 {p : Program} {l : Launch} {e : Env} {s : State} {m : MethodId} {args : Array Value} {below : List Frame} {meth : Method} {c : Code} {X : x_T} {σ : x_S} {r : x_H} (F : x_F p s m args meth c cX7_goBack 3 RX7 none) (u : x_H) (y1 : Int32) (z0 : Int32) (H : Heap) (locs : List Loc) (ls : Array Slot) (h : fX7_goBack_j26 u y1 z0 = some r) (hI : x_I X (x_sh σ 11 u) s H locs) (hl : lv_has ls 3 [(0, .ref (X.2.2 11 40)), (1, .int y1)]) : W p l e rm_X7_goBack s m args below meth c H locs 0 0 (MQ below (x_Qv X (x_sh σ 11 r) s.heap.size) args s 0 0 (x_A X s.heap.size)) (F0 m 26 ls [.int z0, .ref (X.2.2 11 40)]) := by
  have hx := F.1
  have hb := F.2.1
  have hml := F.2.2.1
  have hown := F.2.2.2.1
  have hts := F.2.2.2.2.1
  unfold fX7_goBack_j26 at h
  obtain ⟨r6, h7, h⟩ := x_bnd h
  refine x_aci hI (x_runV (rest := []) F hI (mX7_refused l X σ _ u z0 r6 h7) g_X7_97 ⟨rfl, hd_X7_refused⟩ ⟨by decide, by decide⟩ ⟨rfl, rfl⟩ (x_inO (by decide)) rfl rfl rfl rfl hl.1 rfl (Nat.le_of_ble_eq_true rfl) dX7_goBack_26 ⟨Nat.zero_le _, Nat.zero_le _⟩) (fun H locs hI => ?_)
  refine lv_if_eq (tgt := 33) hx hb dX7_goBack_29 (by decide) (fun c8 => ?_) (fun c8 => ?_)
  · have h := x_ift h c8
    refine lv_aload_n hx hb dX7_goBack_33 rfl (lv_at hl 0 rfl) ?_
    obtain ⟨r9, h10, h⟩ := x_bnd h
    refine x_acv hI (x_runV (rest := []) F hI (mX7_save l X σ _ r6.2  r9 h10) g_X7_103 ⟨rfl, hd_X7_save⟩ ⟨by decide, by decide⟩ ⟨rfl, rfl⟩ (x_inO (by decide)) rfl rfl rfl rfl hl.1 rfl (Nat.le_of_ble_eq_true rfl) dX7_goBack_34 ⟨Nat.zero_le _, Nat.zero_le _⟩) (fun H locs hI => ?_)
    refine lv_iconst (v := 0) hx hb dX7_goBack_37 (by decide) ?_
    refine lv_istore_n (lv' := [(2, .int (0)), (0, .ref (X.2.2 11 40)), (1, .int y1)]) hx hb dX7_goBack_38 rfl hl (by decide) rfl (fun ls hl => ?_)
    exact wX7_goBack_b39 F 4000 r9 y1 (0 : Int32) _ _ _ h hI (lv_sub hl [1, 2, 0] rfl)
  · have h := x_iff h c8
    rw [x_some h]
    exact x_vret F hI dX7_goBack_32
def fX7_goBack (u : x_H) (a1 : Int32) : Option x_H := (Option.bind (fX7_isSlot a1) fun r1 => (if r1 = 0 then fX7_goBack_j26 u a1 (1 : Int32) else (if x_in a1 2 then (if (u 45 (Int32.toNatClampNeg a1)) = 0 then fX7_goBack_j26 u a1 (2 : Int32) else fX7_goBack_j26 u a1 (0 : Int32)) else none)))
set_option maxHeartbeats 4000000 in
set_option maxRecDepth 100000 in
theorem mX7_goBack (l : Launch) (X : x_T) (σ : x_S) (sz : Nat) (u : x_H) (a1 : Int32) (r : x_H) (h : fX7_goBack u a1 = some r) : Met l yX7_goBack (x_ws yX7_goBack cX7_goBack 3 none) rm_X7_goBack (x_Pc X (x_sh σ 11 u) sz [.ref (X.2.2 11 40), .int a1]) (x_Qv X (x_sh σ 11 r) sz) 0 0 (x_A X sz) := by
  refine Met.ofW (cc := cX7_goBack) (maxL := 3) (ret := none) (by decide) rfl ?_
  intro p e s m args below meth c s₁ B hml hv
  obtain ⟨F, hI, rfl, rfl⟩ := x_begin B hml hv
  replace F : x_F p s m _ meth c cX7_goBack 3 RX7 none := F
  have hx := F.1
  have hb := F.2.1
  have hml := F.2.2.1
  have hown := F.2.2.2.1
  have hts := F.2.2.2.2.1
  refine x_entry (vs := [.ref (X.2.2 11 40), .int a1]) (n := 3) (Nat.le_of_ble_eq_true rfl) (fun ls hl => ?_)
  replace hl : lv_has ls 3 [(0, .ref (X.2.2 11 40)), (1, .int a1)] := hl
  unfold fX7_goBack at h
  refine lv_aload_n hx hb dX7_goBack_0 rfl (lv_at hl 0 rfl) ?_
  refine lv_iload_n hx hb dX7_goBack_1 rfl (lv_at hl 1 rfl) ?_
  obtain ⟨r1, h2, h⟩ := x_bnd h
  refine x_aci hI (x_runS (rest := [.ref (X.2.2 11 40)]) F hI (mX7_isSlot l X (x_sh σ 11 u) _ a1 r1 h2) g_X7_191 hd_X7_isSlot ⟨by decide, by decide⟩ ⟨rfl, rfl⟩ rfl hl.1 rfl (Nat.le_of_ble_eq_true rfl) dX7_goBack_2 ⟨Nat.zero_le _, Nat.zero_le _⟩) (fun H locs hI => ?_)
  refine lv_if_ne (tgt := 12) hx hb dX7_goBack_5 (by decide) (fun c3 => ?_) (fun c3 => ?_)
  · have h := x_iff h c3
    refine lv_aload_n hx hb dX7_goBack_12 rfl (lv_at hl 0 rfl) ?_
    refine xg_7_6 F hI (x_inO (by decide)) u_fl_X7_22 dX7_goBack_13 ?_
    refine lv_iload_n hx hb dX7_goBack_16 rfl (lv_at hl 1 rfl) ?_
    obtain ⟨g4, h⟩ := x_chk h
    refine xh_zald (n := 2) F hI (x_inO (by decide)) (fun _ => rfl) g4 dX7_goBack_17 ?_
    refine lv_if_ne (tgt := 25) hx hb dX7_goBack_18 (by decide) (fun c5 => ?_) (fun c5 => ?_)
    · have h := x_iff h c5
      refine lv_iconst (v := 0) hx hb dX7_goBack_25 (by decide) ?_
      exact wX7_goBack_j26 F u a1 (0 : Int32) _ _ _ h hI (lv_sub hl [0, 1] rfl)
    · have h := x_ift h c5
      refine lv_iconst (v := 2) hx hb dX7_goBack_21 (by decide) ?_
      refine lv_goto (tgt := 26) hx hb dX7_goBack_22 (by decide) ?_
      exact wX7_goBack_j26 F u a1 (2 : Int32) _ _ _ h hI (lv_sub hl [0, 1] rfl)
  · have h := x_ift h c3
    refine lv_iconst (v := 1) hx hb dX7_goBack_8 (by decide) ?_
    refine lv_goto (tgt := 26) hx hb dX7_goBack_9 (by decide) ?_
    exact wX7_goBack_j26 F u a1 (1 : Int32) _ _ _ h hI (lv_sub hl [0, 1] rfl)
abbrev rm_X7_undo : Room := { frames := 1, cells := 0, slots := 0, locals := 21 }
def fX7_undo_b32 : Nat → x_H → Int32 → Option x_H
  | 0, _, _ => none
  | n + 1, u, y1 => (if (570 : Int32) ≤ y1 then some (u) else (if x_in (((570 : Int32) * (u 40 1)) + y1) 3420 then (if x_in y1 570 then x_let (x_hu u 41 (Int32.toNatClampNeg y1) (u 43 (Int32.toNatClampNeg (((570 : Int32) * (u 40 1)) + y1)))) fun u9 => x_let (y1 + (1 : Int32)) fun x12 => fX7_undo_b32 n u9 x12 else none) else none))
set_option maxHeartbeats 4000000 in
set_option maxRecDepth 100000 in
theorem wX7_undo_b32 {p : Program} {l : Launch} {e : Env} {s : State} {m : MethodId} {args : Array Value} {below : List Frame} {meth : Method} {c : Code} {X : x_T} {σ : x_S} {r : x_H} (F : x_F p s m args meth c cX7_undo 2 RX7 none) : ∀ (n : Nat) (u : x_H) (y1 : Int32) (H : Heap) (locs : List Loc) (ls : Array Slot), fX7_undo_b32 n u y1 = some r → x_I X (x_sh σ 11 u) s H locs → lv_has ls 2 [(0, .ref (X.2.2 11 40)), (1, .int y1)] → W p l e rm_X7_undo s m args below meth c H locs 0 0 (MQ below (x_Qv X (x_sh σ 11 r) s.heap.size) args s 0 0 (x_A X s.heap.size)) (F0 m 32 ls []) := by
  have hx := F.1
  have hb := F.2.1
  have hml := F.2.2.1
  have hown := F.2.2.2.1
  have hts := F.2.2.2.2.1
  intro n
  induction n with
  | zero =>
    intro u y1 H locs ls h
    rw [fX7_undo_b32] at h
    cases h
  | succ n ih =>
    intro u y1 H locs ls h hI hl
    rw [fX7_undo_b32] at h
    refine lv_iload_n hx hb dX7_undo_32 rfl (lv_at hl 1 rfl) ?_
    refine lv_sipush (v := 570) hx hb dX7_undo_33 (by decide) ?_
    refine lv_icmp_ge (tgt := 66) hx hb dX7_undo_36 (by decide) (fun c7 => ?_) (fun c7 => ?_)
    · have h := x_ift h c7
      rw [x_some h]
      exact x_vret F hI dX7_undo_66
    · have h := x_iff h c7
      refine lv_aload_n hx hb dX7_undo_39 rfl (lv_at hl 0 rfl) ?_
      refine xg_7_1 F hI (x_inO (by decide)) u_fl_X7_7 dX7_undo_40 ?_
      refine lv_iload_n hx hb dX7_undo_43 rfl (lv_at hl 1 rfl) ?_
      refine lv_aload_n hx hb dX7_undo_44 rfl (lv_at hl 0 rfl) ?_
      refine xg_7_3 F hI (x_inO (by decide)) u_fl_X7_16 dX7_undo_45 ?_
      refine lv_sipush (v := 570) hx hb dX7_undo_48 (by decide) ?_
      refine lv_aload_n hx hb dX7_undo_51 rfl (lv_at hl 0 rfl) ?_
      refine xg_7_4 F hI (x_inO (by decide)) u_fl_X7_90 dX7_undo_52 ?_
      refine lv_imul hx hb dX7_undo_55 ?_
      refine lv_iload_n hx hb dX7_undo_56 rfl (lv_at hl 1 rfl) ?_
      refine lv_iadd hx hb dX7_undo_57 ?_
      obtain ⟨g8, h⟩ := x_chk h
      refine xh_iald (n := 3420) F hI (x_inO (by decide)) (fun _ => rfl) g8 dX7_undo_58 ?_
      obtain ⟨g11, h⟩ := x_chk h
      refine xh_iast (n := 570) F hI (x_inO (by decide)) (fun _ => rfl) g11 dX7_undo_59 (fun H locs u9 e10 hI => ?_)
      have h := x_let_at h e10
      obtain ⟨x12, e13⟩ : ∃ z : Int32, z = (y1 + (1 : Int32)) := ⟨_, rfl⟩
      have h := x_let_at h e13
      refine lv_iinc (v := x12) (lv' := [(1, .int x12), (0, .ref (X.2.2 11 40))]) hx hb dX7_undo_60 hl (k := 1) rfl (by rw [e13]; rfl) (by decide) rfl (fun ls hl => ?_)
      refine lv_goto (tgt := 32) hx hb dX7_undo_63 (by decide) ?_
      exact ih u9 x12 _ _ _ h hI (lv_sub hl [1, 0] rfl)
def fX7_undo_j13 (u : x_H) (z0 : Int32) : Option x_H := (Option.bind (fX7_refused u z0) fun r2 => (if r2.1 = 0 then x_let (x_hu r2.2 40 1 ((r2.2 40 1) - (1 : Int32))) fun u5 => fX7_undo_b32 4000 u5 (0 : Int32) else some (r2.2)))
set_option maxHeartbeats 4000000 in
set_option maxRecDepth 100000 in
theorem wX7_undo_j13 {p : Program} {l : Launch} {e : Env} {s : State} {m : MethodId} {args : Array Value} {below : List Frame} {meth : Method} {c : Code} {X : x_T} {σ : x_S} {r : x_H} (F : x_F p s m args meth c cX7_undo 2 RX7 none) (u : x_H) (z0 : Int32) (H : Heap) (locs : List Loc) (ls : Array Slot) (h : fX7_undo_j13 u z0 = some r) (hI : x_I X (x_sh σ 11 u) s H locs) (hl : lv_has ls 2 [(0, .ref (X.2.2 11 40))]) : W p l e rm_X7_undo s m args below meth c H locs 0 0 (MQ below (x_Qv X (x_sh σ 11 r) s.heap.size) args s 0 0 (x_A X s.heap.size)) (F0 m 13 ls [.int z0, .ref (X.2.2 11 40)]) := by
  have hx := F.1
  have hb := F.2.1
  have hml := F.2.2.1
  have hown := F.2.2.2.1
  have hts := F.2.2.2.2.1
  unfold fX7_undo_j13 at h
  obtain ⟨r2, h3, h⟩ := x_bnd h
  refine x_aci hI (x_runV (rest := []) F hI (mX7_refused l X σ _ u z0 r2 h3) g_X7_97 ⟨rfl, hd_X7_refused⟩ ⟨by decide, by decide⟩ ⟨rfl, rfl⟩ (x_inO (by decide)) rfl rfl rfl rfl hl.1 rfl (Nat.le_of_ble_eq_true rfl) dX7_undo_13 ⟨Nat.zero_le _, Nat.zero_le _⟩) (fun H locs hI => ?_)
  refine lv_if_eq (tgt := 20) hx hb dX7_undo_16 (by decide) (fun c4 => ?_) (fun c4 => ?_)
  · have h := x_ift h c4
    refine lv_aload_n hx hb dX7_undo_20 rfl (lv_at hl 0 rfl) ?_
    refine lv_dup hx hb dX7_undo_21 rfl ?_
    refine xg_7_4 F hI (x_inO (by decide)) u_fl_X7_90 dX7_undo_22 ?_
    refine lv_iconst (v := 1) hx hb dX7_undo_25 (by decide) ?_
    refine lv_isub hx hb dX7_undo_26 ?_
    refine xp_7_4 F hI (x_inO (by decide)) u_fl_X7_90 dX7_undo_27 (fun H locs u5 e6 hI => ?_)
    have h := x_let_at h e6
    refine lv_iconst (v := 0) hx hb dX7_undo_30 (by decide) ?_
    refine lv_istore_n (lv' := [(1, .int (0)), (0, .ref (X.2.2 11 40))]) hx hb dX7_undo_31 rfl hl (by decide) rfl (fun ls hl => ?_)
    exact wX7_undo_b32 F 4000 u5 (0 : Int32) _ _ _ h hI (lv_sub hl [1, 0] rfl)
  · have h := x_iff h c4
    rw [x_some h]
    exact x_vret F hI dX7_undo_19
def fX7_undo (u : x_H) : Option x_H := (if (u 40 1) = 0 then fX7_undo_j13 u (1 : Int32) else fX7_undo_j13 u (0 : Int32))
set_option maxHeartbeats 4000000 in
set_option maxRecDepth 100000 in
theorem mX7_undo (l : Launch) (X : x_T) (σ : x_S) (sz : Nat) (u : x_H) (r : x_H) (h : fX7_undo u  = some r) : Met l yX7_undo (x_ws yX7_undo cX7_undo 2 none) rm_X7_undo (x_Pc X (x_sh σ 11 u) sz [.ref (X.2.2 11 40)]) (x_Qv X (x_sh σ 11 r) sz) 0 0 (x_A X sz) := by
  refine Met.ofW (cc := cX7_undo) (maxL := 2) (ret := none) (by decide) rfl ?_
  intro p e s m args below meth c s₁ B hml hv
  obtain ⟨F, hI, rfl, rfl⟩ := x_begin B hml hv
  replace F : x_F p s m _ meth c cX7_undo 2 RX7 none := F
  have hx := F.1
  have hb := F.2.1
  have hml := F.2.2.1
  have hown := F.2.2.2.1
  have hts := F.2.2.2.2.1
  refine x_entry (vs := [.ref (X.2.2 11 40)]) (n := 2) (Nat.le_of_ble_eq_true rfl) (fun ls hl => ?_)
  replace hl : lv_has ls 2 [(0, .ref (X.2.2 11 40))] := hl
  unfold fX7_undo at h
  refine lv_aload_n hx hb dX7_undo_0 rfl (lv_at hl 0 rfl) ?_
  refine lv_aload_n hx hb dX7_undo_1 rfl (lv_at hl 0 rfl) ?_
  refine xg_7_4 F hI (x_inO (by decide)) u_fl_X7_90 dX7_undo_2 ?_
  refine lv_if_ne (tgt := 12) hx hb dX7_undo_5 (by decide) (fun c1 => ?_) (fun c1 => ?_)
  · have h := x_iff h c1
    refine lv_iconst (v := 0) hx hb dX7_undo_12 (by decide) ?_
    exact wX7_undo_j13 F u (0 : Int32) _ _ _ h hI (lv_sub hl [0] rfl)
  · have h := x_ift h c1
    refine lv_iconst (v := 1) hx hb dX7_undo_8 (by decide) ?_
    refine lv_goto (tgt := 13) hx hb dX7_undo_9 (by decide) ?_
    exact wX7_undo_j13 F u (1 : Int32) _ _ _ h hI (lv_sub hl [0] rfl)
abbrev rm_X7_savedStates : Room := { frames := 0, cells := 0, slots := 0, locals := 0 }
def fX7_savedStates (u : x_H) : Option (Int32 × x_H) := x_let (x_hu u 40 0 (0 : Int32)) fun u1 => some ((u1 40 1), u1)
set_option maxHeartbeats 4000000 in
set_option maxRecDepth 100000 in
theorem mX7_savedStates (l : Launch) (X : x_T) (σ : x_S) (sz : Nat) (u : x_H) (r : (Int32 × x_H)) (h : fX7_savedStates u  = some r) : Met l yX7_savedStates (x_ws yX7_savedStates cX7_savedStates 1 (some .int)) rm_X7_savedStates (x_Pc X (x_sh σ 11 u) sz [.ref (X.2.2 11 40)]) (x_Qi X r.1 (x_sh σ 11 r.2) sz) 0 0 (x_A X sz) := by
  refine Met.ofW (cc := cX7_savedStates) (maxL := 1) (ret := (some .int)) (by decide) rfl ?_
  intro p e s m args below meth c s₁ B hml hv
  obtain ⟨F, hI, rfl, rfl⟩ := x_begin B hml hv
  replace F : x_F p s m _ meth c cX7_savedStates 1 RX7 (some .int) := F
  have hx := F.1
  have hb := F.2.1
  have hml := F.2.2.1
  have hown := F.2.2.2.1
  have hts := F.2.2.2.2.1
  refine x_entry (vs := [.ref (X.2.2 11 40)]) (n := 1) (Nat.le_of_ble_eq_true rfl) (fun ls hl => ?_)
  replace hl : lv_has ls 1 [(0, .ref (X.2.2 11 40))] := hl
  unfold fX7_savedStates at h
  refine lv_aload_n hx hb dX7_savedStates_0 rfl (lv_at hl 0 rfl) ?_
  refine lv_iconst (v := 0) hx hb dX7_savedStates_1 (by decide) ?_
  refine xp_7_0 F hI (x_inO (by decide)) u_fl_X7_29 dX7_savedStates_2 (fun H locs u1 e2 hI => ?_)
  have h := x_let_at h e2
  refine lv_aload_n hx hb dX7_savedStates_5 rfl (lv_at hl 0 rfl) ?_
  refine xg_7_4 F hI (x_inO (by decide)) u_fl_X7_90 dX7_savedStates_6 ?_
  rw [x_some h]
  exact x_iret F hI dX7_savedStates_9
abbrev rm_X7_doingOf : Room := { frames := 3, cells := 0, slots := 0, locals := 66 }
def fX7_doingOf (u : x_H) (a1 : Int32) : Option (Int32 × x_H) := (Option.bind (fX7_noGuest u a1) fun r1 => (if r1.1 = 0 then (Option.bind (fX7_doing (r1.2 41) a1) fun r4 => some (r4, r1.2)) else some ((0 : Int32), r1.2)))
set_option maxHeartbeats 4000000 in
set_option maxRecDepth 100000 in
theorem mX7_doingOf (l : Launch) (X : x_T) (σ : x_S) (sz : Nat) (u : x_H) (a1 : Int32) (r : (Int32 × x_H)) (h : fX7_doingOf u a1 = some r) : Met l yX7_doingOf (x_ws yX7_doingOf cX7_doingOf 2 (some .int)) rm_X7_doingOf (x_Pc X (x_sh σ 11 u) sz [.ref (X.2.2 11 40), .int a1]) (x_Qi X r.1 (x_sh σ 11 r.2) sz) 0 0 (x_A X sz) := by
  refine Met.ofW (cc := cX7_doingOf) (maxL := 2) (ret := (some .int)) (by decide) rfl ?_
  intro p e s m args below meth c s₁ B hml hv
  obtain ⟨F, hI, rfl, rfl⟩ := x_begin B hml hv
  replace F : x_F p s m _ meth c cX7_doingOf 2 RX7 (some .int) := F
  have hx := F.1
  have hb := F.2.1
  have hml := F.2.2.1
  have hown := F.2.2.2.1
  have hts := F.2.2.2.2.1
  refine x_entry (vs := [.ref (X.2.2 11 40), .int a1]) (n := 2) (Nat.le_of_ble_eq_true rfl) (fun ls hl => ?_)
  replace hl : lv_has ls 2 [(0, .ref (X.2.2 11 40)), (1, .int a1)] := hl
  unfold fX7_doingOf at h
  refine lv_aload_n hx hb dX7_doingOf_0 rfl (lv_at hl 0 rfl) ?_
  refine lv_iload_n hx hb dX7_doingOf_1 rfl (lv_at hl 1 rfl) ?_
  obtain ⟨r1, h2, h⟩ := x_bnd h
  refine x_aci hI (x_runV (rest := []) F hI (mX7_noGuest l X σ _ u a1 r1 h2) g_X7_194 ⟨rfl, hd_X7_noGuest⟩ ⟨by decide, by decide⟩ ⟨rfl, rfl⟩ (x_inO (by decide)) rfl rfl rfl rfl hl.1 rfl (Nat.le_of_ble_eq_true rfl) dX7_doingOf_2 ⟨Nat.zero_le _, Nat.zero_le _⟩) (fun H locs hI => ?_)
  refine lv_if_eq (tgt := 12) hx hb dX7_doingOf_5 (by decide) (fun c3 => ?_) (fun c3 => ?_)
  · have h := x_ift h c3
    refine lv_aload_n hx hb dX7_doingOf_12 rfl (lv_at hl 0 rfl) ?_
    refine xg_7_1 F hI (x_inO (by decide)) u_fl_X7_7 dX7_doingOf_13 ?_
    refine lv_iload_n hx hb dX7_doingOf_16 rfl (lv_at hl 1 rfl) ?_
    obtain ⟨r4, h5, h⟩ := x_bnd h
    have hI := x_toV 41 hI
    refine x_aci hI (x_runS (rest := []) F hI (mX7_doing l X σ r1.2 41 (x_inO (by decide)) (fun _ => rfl) _ (r1.2 41) a1 r4 h5) g_X7_60 hd_X7_doing ⟨by decide, by decide⟩ ⟨rfl, rfl⟩ rfl hl.1 rfl (Nat.le_of_ble_eq_true rfl) dX7_doingOf_17 ⟨Nat.zero_le _, Nat.zero_le _⟩) (fun H locs hI => ?_)
    rw [x_hs_self] at hI
    rw [x_some h]
    exact x_iret F hI dX7_doingOf_20
  · have h := x_iff h c3
    refine lv_iconst (v := 0) hx hb dX7_doingOf_8 (by decide) ?_
    refine lv_goto (tgt := 20) hx hb dX7_doingOf_9 (by decide) ?_
    rw [x_some h]
    exact x_iret F hI dX7_doingOf_20
abbrev rm_X7_roomOf : Room := { frames := 2, cells := 0, slots := 0, locals := 45 }
def fX7_roomOf_j31 (u : x_H) (y1 : Int32) (z0 : Int32) : Option (Int32 × x_H) := (Option.bind (fX7_refused u z0) fun r7 => (if r7.1 = 0 then (if x_in (((8 : Int32) * y1) + (1 : Int32)) 570 then some ((r7.2 41 (Int32.toNatClampNeg (((8 : Int32) * y1) + (1 : Int32)))), r7.2) else none) else some ((0 : Int32), r7.2)))
set_option maxHeartbeats 4000000 in
set_option maxRecDepth 100000 in
theorem wX7_roomOf_j31 {p : Program} {l : Launch} {e : Env} {s : State} {m : MethodId} {args : Array Value} {below : List Frame} {meth : Method} {c : Code} {X : x_T} {σ : x_S} {r : (Int32 × x_H)} (F : x_F p s m args meth c cX7_roomOf 3 RX7 (some .int)) (u : x_H) (y1 : Int32) (z0 : Int32) (H : Heap) (locs : List Loc) (ls : Array Slot) (h : fX7_roomOf_j31 u y1 z0 = some r) (hI : x_I X (x_sh σ 11 u) s H locs) (hl : lv_has ls 3 [(0, .ref (X.2.2 11 40)), (1, .int y1)]) : W p l e rm_X7_roomOf s m args below meth c H locs 0 0 (MQ below (x_Qi X r.1 (x_sh σ 11 r.2) s.heap.size) args s 0 0 (x_A X s.heap.size)) (F0 m 31 ls [.int z0, .ref (X.2.2 11 40)]) := by
  have hx := F.1
  have hb := F.2.1
  have hml := F.2.2.1
  have hown := F.2.2.2.1
  have hts := F.2.2.2.2.1
  unfold fX7_roomOf_j31 at h
  obtain ⟨r7, h8, h⟩ := x_bnd h
  refine x_aci hI (x_runV (rest := []) F hI (mX7_refused l X σ _ u z0 r7 h8) g_X7_97 ⟨rfl, hd_X7_refused⟩ ⟨by decide, by decide⟩ ⟨rfl, rfl⟩ (x_inO (by decide)) rfl rfl rfl rfl hl.1 rfl (Nat.le_of_ble_eq_true rfl) dX7_roomOf_31 ⟨Nat.zero_le _, Nat.zero_le _⟩) (fun H locs hI => ?_)
  refine lv_if_eq (tgt := 41) hx hb dX7_roomOf_34 (by decide) (fun c9 => ?_) (fun c9 => ?_)
  · have h := x_ift h c9
    refine lv_aload_n hx hb dX7_roomOf_41 rfl (lv_at hl 0 rfl) ?_
    refine xg_7_1 F hI (x_inO (by decide)) u_fl_X7_7 dX7_roomOf_42 ?_
    refine lv_bipush (v := 8) hx hb dX7_roomOf_45 (by decide) ?_
    refine lv_iload_n hx hb dX7_roomOf_47 rfl (lv_at hl 1 rfl) ?_
    refine lv_imul hx hb dX7_roomOf_48 ?_
    refine lv_iconst (v := 1) hx hb dX7_roomOf_49 (by decide) ?_
    refine lv_iadd hx hb dX7_roomOf_50 ?_
    obtain ⟨g10, h⟩ := x_chk h
    refine xh_iald (n := 570) F hI (x_inO (by decide)) (fun _ => rfl) g10 dX7_roomOf_51 ?_
    rw [x_some h]
    exact x_iret F hI dX7_roomOf_52
  · have h := x_iff h c9
    refine lv_iconst (v := 0) hx hb dX7_roomOf_37 (by decide) ?_
    refine lv_goto (tgt := 52) hx hb dX7_roomOf_38 (by decide) ?_
    rw [x_some h]
    exact x_iret F hI dX7_roomOf_52
def fX7_roomOf (u : x_H) (a1 : Int32) : Option (Int32 × x_H) := (Option.bind (fX7_isGuest a1) fun r1 => (if r1 = 0 then fX7_roomOf_j31 u a1 (1 : Int32) else (Option.bind (fX7_doing (u 41) a1) fun r4 => (if (2 : Int32) ≤ r4 then fX7_roomOf_j31 u a1 (0 : Int32) else fX7_roomOf_j31 u a1 (2 : Int32)))))
set_option maxHeartbeats 4000000 in
set_option maxRecDepth 100000 in
theorem mX7_roomOf (l : Launch) (X : x_T) (σ : x_S) (sz : Nat) (u : x_H) (a1 : Int32) (r : (Int32 × x_H)) (h : fX7_roomOf u a1 = some r) : Met l yX7_roomOf (x_ws yX7_roomOf cX7_roomOf 3 (some .int)) rm_X7_roomOf (x_Pc X (x_sh σ 11 u) sz [.ref (X.2.2 11 40), .int a1]) (x_Qi X r.1 (x_sh σ 11 r.2) sz) 0 0 (x_A X sz) := by
  refine Met.ofW (cc := cX7_roomOf) (maxL := 3) (ret := (some .int)) (by decide) rfl ?_
  intro p e s m args below meth c s₁ B hml hv
  obtain ⟨F, hI, rfl, rfl⟩ := x_begin B hml hv
  replace F : x_F p s m _ meth c cX7_roomOf 3 RX7 (some .int) := F
  have hx := F.1
  have hb := F.2.1
  have hml := F.2.2.1
  have hown := F.2.2.2.1
  have hts := F.2.2.2.2.1
  refine x_entry (vs := [.ref (X.2.2 11 40), .int a1]) (n := 3) (Nat.le_of_ble_eq_true rfl) (fun ls hl => ?_)
  replace hl : lv_has ls 3 [(0, .ref (X.2.2 11 40)), (1, .int a1)] := hl
  unfold fX7_roomOf at h
  refine lv_iload_n hx hb dX7_roomOf_0 rfl (lv_at hl 1 rfl) ?_
  obtain ⟨r1, h2, h⟩ := x_bnd h
  refine x_aci hI (x_runS (rest := []) F hI (mX7_isGuest l X (x_sh σ 11 u) _ a1 r1 h2) g_X7_93 hd_X7_isGuest ⟨by decide, by decide⟩ ⟨rfl, rfl⟩ rfl hl.1 rfl (Nat.le_of_ble_eq_true rfl) dX7_roomOf_1 ⟨Nat.zero_le _, Nat.zero_le _⟩) (fun H locs hI => ?_)
  refine lv_istore_n (lv' := [(2, .int r1), (0, .ref (X.2.2 11 40)), (1, .int a1)]) hx hb dX7_roomOf_4 rfl hl (by decide) rfl (fun ls hl => ?_)
  refine lv_aload_n hx hb dX7_roomOf_5 rfl (lv_at hl 1 rfl) ?_
  refine lv_iload_n hx hb dX7_roomOf_6 rfl (lv_at hl 0 rfl) ?_
  refine lv_if_ne (tgt := 14) hx hb dX7_roomOf_7 (by decide) (fun c3 => ?_) (fun c3 => ?_)
  · have h := x_iff h c3
    refine lv_aload_n hx hb dX7_roomOf_14 rfl (lv_at hl 1 rfl) ?_
    refine xg_7_1 F hI (x_inO (by decide)) u_fl_X7_7 dX7_roomOf_15 ?_
    refine lv_iload_n hx hb dX7_roomOf_18 rfl (lv_at hl 2 rfl) ?_
    obtain ⟨r4, h5, h⟩ := x_bnd h
    have hI := x_toV 41 hI
    refine x_aci hI (x_runS (rest := [.ref (X.2.2 11 40)]) F hI (mX7_doing l X σ u 41 (x_inO (by decide)) (fun _ => rfl) _ (u 41) a1 r4 h5) g_X7_60 hd_X7_doing ⟨by decide, by decide⟩ ⟨rfl, rfl⟩ rfl hl.1 rfl (Nat.le_of_ble_eq_true rfl) dX7_roomOf_19 ⟨Nat.zero_le _, Nat.zero_le _⟩) (fun H locs hI => ?_)
    rw [x_hs_self] at hI
    refine lv_iconst (v := 2) hx hb dX7_roomOf_22 (by decide) ?_
    refine lv_icmp_ge (tgt := 30) hx hb dX7_roomOf_23 (by decide) (fun c6 => ?_) (fun c6 => ?_)
    · have h := x_ift h c6
      refine lv_iconst (v := 0) hx hb dX7_roomOf_30 (by decide) ?_
      exact wX7_roomOf_j31 F u a1 (0 : Int32) _ _ _ h hI (lv_sub hl [1, 2] rfl)
    · have h := x_iff h c6
      refine lv_iconst (v := 2) hx hb dX7_roomOf_26 (by decide) ?_
      refine lv_goto (tgt := 31) hx hb dX7_roomOf_27 (by decide) ?_
      exact wX7_roomOf_j31 F u a1 (2 : Int32) _ _ _ h hI (lv_sub hl [1, 2] rfl)
  · have h := x_ift h c3
    refine lv_iconst (v := 1) hx hb dX7_roomOf_10 (by decide) ?_
    refine lv_goto (tgt := 31) hx hb dX7_roomOf_11 (by decide) ?_
    exact wX7_roomOf_j31 F u a1 (1 : Int32) _ _ _ h hI (lv_sub hl [1, 2] rfl)
abbrev rm_X7_leftTo : Room := { frames := 0, cells := 0, slots := 0, locals := 0 }
def fX7_leftTo (u : x_H) (a1 : Int32) : Option Int32 := (if x_in (((8 : Int32) * a1) + (2 : Int32)) 570 then (if x_in (((8 : Int32) * a1) + (3 : Int32)) 570 then some (((u 41 (Int32.toNatClampNeg (((8 : Int32) * a1) + (2 : Int32)))) + (u 41 (Int32.toNatClampNeg (((8 : Int32) * a1) + (3 : Int32))))) - (u 41 (Int32.toNatClampNeg (554 : Int32)))) else none) else none)
set_option maxHeartbeats 4000000 in
set_option maxRecDepth 100000 in
theorem mX7_leftTo (l : Launch) (X : x_T) (σ : x_S) (sz : Nat) (u : x_H) (a1 : Int32) (r : Int32) (h : fX7_leftTo u a1 = some r) : Met l yX7_leftTo (x_ws yX7_leftTo cX7_leftTo 2 (some .int)) rm_X7_leftTo (x_Pc X (x_sh σ 11 u) sz [.ref (X.2.2 11 40), .int a1]) (x_Qi X r (x_sh σ 11 u) sz) 0 0 (x_A X sz) := by
  refine Met.ofW (cc := cX7_leftTo) (maxL := 2) (ret := (some .int)) (by decide) rfl ?_
  intro p e s m args below meth c s₁ B hml hv
  obtain ⟨F, hI, rfl, rfl⟩ := x_begin B hml hv
  replace F : x_F p s m _ meth c cX7_leftTo 2 RX7 (some .int) := F
  have hx := F.1
  have hb := F.2.1
  have hml := F.2.2.1
  have hown := F.2.2.2.1
  have hts := F.2.2.2.2.1
  refine x_entry (vs := [.ref (X.2.2 11 40), .int a1]) (n := 2) (Nat.le_of_ble_eq_true rfl) (fun ls hl => ?_)
  replace hl : lv_has ls 2 [(0, .ref (X.2.2 11 40)), (1, .int a1)] := hl
  unfold fX7_leftTo at h
  refine lv_aload_n hx hb dX7_leftTo_0 rfl (lv_at hl 0 rfl) ?_
  refine xg_7_1 F hI (x_inO (by decide)) u_fl_X7_7 dX7_leftTo_1 ?_
  refine lv_bipush (v := 8) hx hb dX7_leftTo_4 (by decide) ?_
  refine lv_iload_n hx hb dX7_leftTo_6 rfl (lv_at hl 1 rfl) ?_
  refine lv_imul hx hb dX7_leftTo_7 ?_
  refine lv_iconst (v := 2) hx hb dX7_leftTo_8 (by decide) ?_
  refine lv_iadd hx hb dX7_leftTo_9 ?_
  obtain ⟨g1, h⟩ := x_chk h
  refine xh_iald (n := 570) F hI (x_inO (by decide)) (fun _ => rfl) g1 dX7_leftTo_10 ?_
  refine lv_aload_n hx hb dX7_leftTo_11 rfl (lv_at hl 0 rfl) ?_
  refine xg_7_1 F hI (x_inO (by decide)) u_fl_X7_7 dX7_leftTo_12 ?_
  refine lv_bipush (v := 8) hx hb dX7_leftTo_15 (by decide) ?_
  refine lv_iload_n hx hb dX7_leftTo_17 rfl (lv_at hl 1 rfl) ?_
  refine lv_imul hx hb dX7_leftTo_18 ?_
  refine lv_iconst (v := 3) hx hb dX7_leftTo_19 (by decide) ?_
  refine lv_iadd hx hb dX7_leftTo_20 ?_
  obtain ⟨g2, h⟩ := x_chk h
  refine xh_iald (n := 570) F hI (x_inO (by decide)) (fun _ => rfl) g2 dX7_leftTo_21 ?_
  refine lv_iadd hx hb dX7_leftTo_22 ?_
  refine lv_aload_n hx hb dX7_leftTo_23 rfl (lv_at hl 0 rfl) ?_
  refine xg_7_1 F hI (x_inO (by decide)) u_fl_X7_7 dX7_leftTo_24 ?_
  refine lv_sipush (v := 554) hx hb dX7_leftTo_27 (by decide) ?_
  refine xh_iald (n := 570) F hI (x_inO (by decide)) (fun _ => rfl) (by decide) dX7_leftTo_30 ?_
  refine lv_isub hx hb dX7_leftTo_31 ?_
  rw [x_some h]
  exact x_iret F hI dX7_leftTo_32
abbrev rm_X7_ticksLeft : Room := { frames := 3, cells := 0, slots := 0, locals := 67 }
def fX7_ticksLeft (u : x_H) (a1 : Int32) : Option (Int32 × x_H) := (Option.bind (fX7_noHost u a1) fun r1 => (if r1.1 = 0 then (Option.bind (fX7_leftTo r1.2 a1) fun r4 => some (r4, r1.2)) else some ((0 : Int32), r1.2)))
set_option maxHeartbeats 4000000 in
set_option maxRecDepth 100000 in
theorem mX7_ticksLeft (l : Launch) (X : x_T) (σ : x_S) (sz : Nat) (u : x_H) (a1 : Int32) (r : (Int32 × x_H)) (h : fX7_ticksLeft u a1 = some r) : Met l yX7_ticksLeft (x_ws yX7_ticksLeft cX7_ticksLeft 2 (some .int)) rm_X7_ticksLeft (x_Pc X (x_sh σ 11 u) sz [.ref (X.2.2 11 40), .int a1]) (x_Qi X r.1 (x_sh σ 11 r.2) sz) 0 0 (x_A X sz) := by
  refine Met.ofW (cc := cX7_ticksLeft) (maxL := 2) (ret := (some .int)) (by decide) rfl ?_
  intro p e s m args below meth c s₁ B hml hv
  obtain ⟨F, hI, rfl, rfl⟩ := x_begin B hml hv
  replace F : x_F p s m _ meth c cX7_ticksLeft 2 RX7 (some .int) := F
  have hx := F.1
  have hb := F.2.1
  have hml := F.2.2.1
  have hown := F.2.2.2.1
  have hts := F.2.2.2.2.1
  refine x_entry (vs := [.ref (X.2.2 11 40), .int a1]) (n := 2) (Nat.le_of_ble_eq_true rfl) (fun ls hl => ?_)
  replace hl : lv_has ls 2 [(0, .ref (X.2.2 11 40)), (1, .int a1)] := hl
  unfold fX7_ticksLeft at h
  refine lv_aload_n hx hb dX7_ticksLeft_0 rfl (lv_at hl 0 rfl) ?_
  refine lv_iload_n hx hb dX7_ticksLeft_1 rfl (lv_at hl 1 rfl) ?_
  obtain ⟨r1, h2, h⟩ := x_bnd h
  refine x_aci hI (x_runV (rest := []) F hI (mX7_noHost l X σ _ u a1 r1 h2) g_X7_109 ⟨rfl, hd_X7_noHost⟩ ⟨by decide, by decide⟩ ⟨rfl, rfl⟩ (x_inO (by decide)) rfl rfl rfl rfl hl.1 rfl (Nat.le_of_ble_eq_true rfl) dX7_ticksLeft_2 ⟨Nat.zero_le _, Nat.zero_le _⟩) (fun H locs hI => ?_)
  refine lv_if_eq (tgt := 12) hx hb dX7_ticksLeft_5 (by decide) (fun c3 => ?_) (fun c3 => ?_)
  · have h := x_ift h c3
    refine lv_aload_n hx hb dX7_ticksLeft_12 rfl (lv_at hl 0 rfl) ?_
    refine lv_iload_n hx hb dX7_ticksLeft_13 rfl (lv_at hl 1 rfl) ?_
    obtain ⟨r4, h5, h⟩ := x_bnd h
    refine x_aci hI (x_runV (rest := []) F hI (mX7_leftTo l X σ _ r1.2 a1 r4 h5) g_X7_197 ⟨rfl, hd_X7_leftTo⟩ ⟨by decide, by decide⟩ ⟨rfl, rfl⟩ (x_inO (by decide)) rfl rfl rfl rfl hl.1 rfl (Nat.le_of_ble_eq_true rfl) dX7_ticksLeft_14 ⟨Nat.zero_le _, Nat.zero_le _⟩) (fun H locs hI => ?_)
    rw [x_some h]
    exact x_iret F hI dX7_ticksLeft_17
  · have h := x_iff h c3
    refine lv_iconst (v := 0) hx hb dX7_ticksLeft_8 (by decide) ?_
    refine lv_goto (tgt := 17) hx hb dX7_ticksLeft_9 (by decide) ?_
    rw [x_some h]
    exact x_iret F hI dX7_ticksLeft_17
abbrev rm_X7_askIn : Room := { frames := 0, cells := 0, slots := 0, locals := 0 }
def fX7_askIn (u : x_H) (a1 : Int32) : Option Int32 := (if x_in (((8 : Int32) * a1) + (3 : Int32)) 570 then x_let (u 41 (Int32.toNatClampNeg (((8 : Int32) * a1) + (3 : Int32)))) fun x2 => (if x_in (((8 : Int32) * a1) + (2 : Int32)) 570 then x_let ((u 41 (Int32.toNatClampNeg (554 : Int32))) - (u 41 (Int32.toNatClampNeg (((8 : Int32) * a1) + (2 : Int32))))) fun x5 => x_let ((x2 / (2 : Int32)) - x5) fun x7 => x_let ((((7 : Int32) * x2) / (8 : Int32)) - x5) fun x9 => (if x7 ≤ 0 then (if x9 ≤ 0 then some (0 : Int32) else some (x9)) else some (x7)) else none) else none)
set_option maxHeartbeats 4000000 in
set_option maxRecDepth 100000 in
theorem mX7_askIn (l : Launch) (X : x_T) (σ : x_S) (sz : Nat) (u : x_H) (a1 : Int32) (r : Int32) (h : fX7_askIn u a1 = some r) : Met l yX7_askIn (x_ws yX7_askIn cX7_askIn 6 (some .int)) rm_X7_askIn (x_Pc X (x_sh σ 11 u) sz [.ref (X.2.2 11 40), .int a1]) (x_Qi X r (x_sh σ 11 u) sz) 0 0 (x_A X sz) := by
  refine Met.ofW (cc := cX7_askIn) (maxL := 6) (ret := (some .int)) (by decide) rfl ?_
  intro p e s m args below meth c s₁ B hml hv
  obtain ⟨F, hI, rfl, rfl⟩ := x_begin B hml hv
  replace F : x_F p s m _ meth c cX7_askIn 6 RX7 (some .int) := F
  have hx := F.1
  have hb := F.2.1
  have hml := F.2.2.1
  have hown := F.2.2.2.1
  have hts := F.2.2.2.2.1
  refine x_entry (vs := [.ref (X.2.2 11 40), .int a1]) (n := 6) (Nat.le_of_ble_eq_true rfl) (fun ls hl => ?_)
  replace hl : lv_has ls 6 [(0, .ref (X.2.2 11 40)), (1, .int a1)] := hl
  unfold fX7_askIn at h
  refine lv_aload_n hx hb dX7_askIn_0 rfl (lv_at hl 0 rfl) ?_
  refine xg_7_1 F hI (x_inO (by decide)) u_fl_X7_7 dX7_askIn_1 ?_
  refine lv_bipush (v := 8) hx hb dX7_askIn_4 (by decide) ?_
  refine lv_iload_n hx hb dX7_askIn_6 rfl (lv_at hl 1 rfl) ?_
  refine lv_imul hx hb dX7_askIn_7 ?_
  refine lv_iconst (v := 3) hx hb dX7_askIn_8 (by decide) ?_
  refine lv_iadd hx hb dX7_askIn_9 ?_
  obtain ⟨g1, h⟩ := x_chk h
  refine xh_iald (n := 570) F hI (x_inO (by decide)) (fun _ => rfl) g1 dX7_askIn_10 ?_
  refine lv_topi (fun x2 e3 => ?_)
  have h := x_let_at h e3
  refine lv_istore_n (lv' := [(2, .int x2), (0, .ref (X.2.2 11 40)), (1, .int a1)]) hx hb dX7_askIn_11 rfl hl (by decide) rfl (fun ls hl => ?_)
  refine lv_aload_n hx hb dX7_askIn_12 rfl (lv_at hl 1 rfl) ?_
  refine xg_7_1 F hI (x_inO (by decide)) u_fl_X7_7 dX7_askIn_13 ?_
  refine lv_sipush (v := 554) hx hb dX7_askIn_16 (by decide) ?_
  refine xh_iald (n := 570) F hI (x_inO (by decide)) (fun _ => rfl) (by decide) dX7_askIn_19 ?_
  refine lv_aload_n hx hb dX7_askIn_20 rfl (lv_at hl 1 rfl) ?_
  refine xg_7_1 F hI (x_inO (by decide)) u_fl_X7_7 dX7_askIn_21 ?_
  refine lv_bipush (v := 8) hx hb dX7_askIn_24 (by decide) ?_
  refine lv_iload_n hx hb dX7_askIn_26 rfl (lv_at hl 2 rfl) ?_
  refine lv_imul hx hb dX7_askIn_27 ?_
  refine lv_iconst (v := 2) hx hb dX7_askIn_28 (by decide) ?_
  refine lv_iadd hx hb dX7_askIn_29 ?_
  obtain ⟨g4, h⟩ := x_chk h
  refine xh_iald (n := 570) F hI (x_inO (by decide)) (fun _ => rfl) g4 dX7_askIn_30 ?_
  refine lv_isub hx hb dX7_askIn_31 ?_
  refine lv_topi (fun x5 e6 => ?_)
  have h := x_let_at h e6
  refine lv_istore_n (lv' := [(3, .int x5), (2, .int x2), (0, .ref (X.2.2 11 40)), (1, .int a1)]) hx hb dX7_askIn_32 rfl hl (by decide) rfl (fun ls hl => ?_)
  refine lv_iload_n hx hb dX7_askIn_33 rfl (lv_at hl 1 rfl) ?_
  refine lv_iconst (v := 2) hx hb dX7_askIn_34 (by decide) ?_
  refine lv_idiv hx hb dX7_askIn_35 (by decide) ?_
  refine lv_iload_n hx hb dX7_askIn_36 rfl (lv_at hl 0 rfl) ?_
  refine lv_isub hx hb dX7_askIn_37 ?_
  refine lv_topi (fun x7 e8 => ?_)
  have h := x_let_at h e8
  refine lv_istore (lv' := [(4, .int x7), (3, .int x5), (2, .int x2), (0, .ref (X.2.2 11 40)), (1, .int a1)]) hx hb dX7_askIn_38 hl (by decide) rfl (fun ls hl => ?_)
  refine lv_bipush (v := 7) hx hb dX7_askIn_40 (by decide) ?_
  refine lv_iload_n hx hb dX7_askIn_42 rfl (lv_at hl 2 rfl) ?_
  refine lv_imul hx hb dX7_askIn_43 ?_
  refine lv_bipush (v := 8) hx hb dX7_askIn_44 (by decide) ?_
  refine lv_idiv hx hb dX7_askIn_46 (by decide) ?_
  refine lv_iload_n hx hb dX7_askIn_47 rfl (lv_at hl 1 rfl) ?_
  refine lv_isub hx hb dX7_askIn_48 ?_
  refine lv_topi (fun x9 e10 => ?_)
  have h := x_let_at h e10
  refine lv_istore (lv' := [(5, .int x9), (4, .int x7), (3, .int x5), (2, .int x2), (0, .ref (X.2.2 11 40)), (1, .int a1)]) hx hb dX7_askIn_49 hl (by decide) rfl (fun ls hl => ?_)
  refine lv_iload hx hb dX7_askIn_51 (lv_at hl 1 rfl) ?_
  refine lv_if_le (tgt := 61) hx hb dX7_askIn_53 (by decide) (fun c11 => ?_) (fun c11 => ?_)
  · have h := x_ift h c11
    refine lv_iload hx hb dX7_askIn_61 (lv_at hl 0 rfl) ?_
    refine lv_if_le (tgt := 71) hx hb dX7_askIn_63 (by decide) (fun c12 => ?_) (fun c12 => ?_)
    · have h := x_ift h c12
      refine lv_iconst (v := 0) hx hb dX7_askIn_71 (by decide) ?_
      rw [x_some h]
      exact x_iret F hI dX7_askIn_72
    · have h := x_iff h c12
      refine lv_iload hx hb dX7_askIn_66 (lv_at hl 0 rfl) ?_
      refine lv_goto (tgt := 72) hx hb dX7_askIn_68 (by decide) ?_
      rw [x_some h]
      exact x_iret F hI dX7_askIn_72
  · have h := x_iff h c11
    refine lv_iload hx hb dX7_askIn_56 (lv_at hl 1 rfl) ?_
    refine lv_goto (tgt := 72) hx hb dX7_askIn_58 (by decide) ?_
    rw [x_some h]
    exact x_iret F hI dX7_askIn_72
abbrev rm_X7_ticksToRenewal : Room := { frames := 2, cells := 0, slots := 0, locals := 45 }
def fX7_ticksToRenewal (u : x_H) (a1 : Int32) : Option (Int32 × x_H) := (Option.bind (fX7_isGuest a1) fun r1 => (if r1 = 0 then (Option.bind (fX7_refused u (1 : Int32)) fun r4 => (if r4.1 = 0 then (Option.bind (fX7_askIn r4.2 a1) fun r7 => some (r7, r4.2)) else some ((0 : Int32), r4.2))) else (Option.bind (fX7_doing (u 41) a1) fun r9 => (if r9 = (3 : Int32) then (Option.bind (fX7_askIn u a1) fun r12 => (if r12 = 0 then (Option.bind (fX7_refused u (2 : Int32)) fun r15 => (if r15.1 = 0 then (Option.bind (fX7_askIn r15.2 a1) fun r18 => some (r18, r15.2)) else some ((0 : Int32), r15.2))) else (Option.bind (fX7_refused u (0 : Int32)) fun r20 => (if r20.1 = 0 then (Option.bind (fX7_askIn r20.2 a1) fun r23 => some (r23, r20.2)) else some ((0 : Int32), r20.2))))) else (Option.bind (fX7_refused u (2 : Int32)) fun r25 => (if r25.1 = 0 then (Option.bind (fX7_askIn r25.2 a1) fun r28 => some (r28, r25.2)) else some ((0 : Int32), r25.2)))))))
set_option maxHeartbeats 4000000 in
set_option maxRecDepth 100000 in
theorem mX7_ticksToRenewal (l : Launch) (X : x_T) (σ : x_S) (sz : Nat) (u : x_H) (a1 : Int32) (r : (Int32 × x_H)) (h : fX7_ticksToRenewal u a1 = some r) : Met l yX7_ticksToRenewal (x_ws yX7_ticksToRenewal cX7_ticksToRenewal 3 (some .int)) rm_X7_ticksToRenewal (x_Pc X (x_sh σ 11 u) sz [.ref (X.2.2 11 40), .int a1]) (x_Qi X r.1 (x_sh σ 11 r.2) sz) 0 0 (x_A X sz) := by
  refine Met.ofW (cc := cX7_ticksToRenewal) (maxL := 3) (ret := (some .int)) (by decide) rfl ?_
  intro p e s m args below meth c s₁ B hml hv
  obtain ⟨F, hI, rfl, rfl⟩ := x_begin B hml hv
  replace F : x_F p s m _ meth c cX7_ticksToRenewal 3 RX7 (some .int) := F
  have hx := F.1
  have hb := F.2.1
  have hml := F.2.2.1
  have hown := F.2.2.2.1
  have hts := F.2.2.2.2.1
  refine x_entry (vs := [.ref (X.2.2 11 40), .int a1]) (n := 3) (Nat.le_of_ble_eq_true rfl) (fun ls hl => ?_)
  replace hl : lv_has ls 3 [(0, .ref (X.2.2 11 40)), (1, .int a1)] := hl
  unfold fX7_ticksToRenewal at h
  refine lv_iload_n hx hb dX7_ticksToRenewal_0 rfl (lv_at hl 1 rfl) ?_
  obtain ⟨r1, h2, h⟩ := x_bnd h
  refine x_aci hI (x_runS (rest := []) F hI (mX7_isGuest l X (x_sh σ 11 u) _ a1 r1 h2) g_X7_93 hd_X7_isGuest ⟨by decide, by decide⟩ ⟨rfl, rfl⟩ rfl hl.1 rfl (Nat.le_of_ble_eq_true rfl) dX7_ticksToRenewal_1 ⟨Nat.zero_le _, Nat.zero_le _⟩) (fun H locs hI => ?_)
  refine lv_istore_n (lv' := [(2, .int r1), (0, .ref (X.2.2 11 40)), (1, .int a1)]) hx hb dX7_ticksToRenewal_4 rfl hl (by decide) rfl (fun ls hl => ?_)
  refine lv_aload_n hx hb dX7_ticksToRenewal_5 rfl (lv_at hl 1 rfl) ?_
  refine lv_iload_n hx hb dX7_ticksToRenewal_6 rfl (lv_at hl 0 rfl) ?_
  refine lv_if_ne (tgt := 14) hx hb dX7_ticksToRenewal_7 (by decide) (fun c3 => ?_) (fun c3 => ?_)
  · have h := x_iff h c3
    refine lv_aload_n hx hb dX7_ticksToRenewal_14 rfl (lv_at hl 1 rfl) ?_
    refine xg_7_1 F hI (x_inO (by decide)) u_fl_X7_7 dX7_ticksToRenewal_15 ?_
    refine lv_iload_n hx hb dX7_ticksToRenewal_18 rfl (lv_at hl 2 rfl) ?_
    obtain ⟨r9, h10, h⟩ := x_bnd h
    have hI := x_toV 41 hI
    refine x_aci hI (x_runS (rest := [.ref (X.2.2 11 40)]) F hI (mX7_doing l X σ u 41 (x_inO (by decide)) (fun _ => rfl) _ (u 41) a1 r9 h10) g_X7_60 hd_X7_doing ⟨by decide, by decide⟩ ⟨rfl, rfl⟩ rfl hl.1 rfl (Nat.le_of_ble_eq_true rfl) dX7_ticksToRenewal_19 ⟨Nat.zero_le _, Nat.zero_le _⟩) (fun H locs hI => ?_)
    rw [x_hs_self] at hI
    refine lv_iconst (v := 3) hx hb dX7_ticksToRenewal_22 (by decide) ?_
    refine lv_icmp_ne (tgt := 34) hx hb dX7_ticksToRenewal_23 (by decide) (fun c11 => ?_) (fun c11 => ?_)
    · have h := x_iff h c11
      refine lv_iconst (v := 2) hx hb dX7_ticksToRenewal_34 (by decide) ?_
      refine lv_goto (tgt := 39) hx hb dX7_ticksToRenewal_35 (by decide) ?_
      obtain ⟨r25, h26, h⟩ := x_bnd h
      refine x_aci hI (x_runV (rest := []) F hI (mX7_refused l X σ _ u (2 : Int32) r25 h26) g_X7_97 ⟨rfl, hd_X7_refused⟩ ⟨by decide, by decide⟩ ⟨rfl, rfl⟩ (x_inO (by decide)) rfl rfl rfl rfl hl.1 rfl (Nat.le_of_ble_eq_true rfl) dX7_ticksToRenewal_39 ⟨Nat.zero_le _, Nat.zero_le _⟩) (fun H locs hI => ?_)
      refine lv_if_eq (tgt := 49) hx hb dX7_ticksToRenewal_42 (by decide) (fun c27 => ?_) (fun c27 => ?_)
      · have h := x_ift h c27
        refine lv_aload_n hx hb dX7_ticksToRenewal_49 rfl (lv_at hl 1 rfl) ?_
        refine lv_iload_n hx hb dX7_ticksToRenewal_50 rfl (lv_at hl 2 rfl) ?_
        obtain ⟨r28, h29, h⟩ := x_bnd h
        refine x_aci hI (x_runV (rest := []) F hI (mX7_askIn l X σ _ r25.2 a1 r28 h29) g_X7_200 ⟨rfl, hd_X7_askIn⟩ ⟨by decide, by decide⟩ ⟨rfl, rfl⟩ (x_inO (by decide)) rfl rfl rfl rfl hl.1 rfl (Nat.le_of_ble_eq_true rfl) dX7_ticksToRenewal_51 ⟨Nat.zero_le _, Nat.zero_le _⟩) (fun H locs hI => ?_)
        rw [x_some h]
        exact x_iret F hI dX7_ticksToRenewal_54
      · have h := x_iff h c27
        refine lv_iconst (v := 0) hx hb dX7_ticksToRenewal_45 (by decide) ?_
        refine lv_goto (tgt := 54) hx hb dX7_ticksToRenewal_46 (by decide) ?_
        rw [x_some h]
        exact x_iret F hI dX7_ticksToRenewal_54
    · have h := x_ift h c11
      refine lv_aload_n hx hb dX7_ticksToRenewal_26 rfl (lv_at hl 1 rfl) ?_
      refine lv_iload_n hx hb dX7_ticksToRenewal_27 rfl (lv_at hl 2 rfl) ?_
      obtain ⟨r12, h13, h⟩ := x_bnd h
      refine x_aci hI (x_runV (rest := [.ref (X.2.2 11 40)]) F hI (mX7_askIn l X σ _ u a1 r12 h13) g_X7_200 ⟨rfl, hd_X7_askIn⟩ ⟨by decide, by decide⟩ ⟨rfl, rfl⟩ (x_inO (by decide)) rfl rfl rfl rfl hl.1 rfl (Nat.le_of_ble_eq_true rfl) dX7_ticksToRenewal_28 ⟨Nat.zero_le _, Nat.zero_le _⟩) (fun H locs hI => ?_)
      refine lv_if_ne (tgt := 38) hx hb dX7_ticksToRenewal_31 (by decide) (fun c14 => ?_) (fun c14 => ?_)
      · have h := x_iff h c14
        refine lv_iconst (v := 0) hx hb dX7_ticksToRenewal_38 (by decide) ?_
        obtain ⟨r20, h21, h⟩ := x_bnd h
        refine x_aci hI (x_runV (rest := []) F hI (mX7_refused l X σ _ u (0 : Int32) r20 h21) g_X7_97 ⟨rfl, hd_X7_refused⟩ ⟨by decide, by decide⟩ ⟨rfl, rfl⟩ (x_inO (by decide)) rfl rfl rfl rfl hl.1 rfl (Nat.le_of_ble_eq_true rfl) dX7_ticksToRenewal_39 ⟨Nat.zero_le _, Nat.zero_le _⟩) (fun H locs hI => ?_)
        refine lv_if_eq (tgt := 49) hx hb dX7_ticksToRenewal_42 (by decide) (fun c22 => ?_) (fun c22 => ?_)
        · have h := x_ift h c22
          refine lv_aload_n hx hb dX7_ticksToRenewal_49 rfl (lv_at hl 1 rfl) ?_
          refine lv_iload_n hx hb dX7_ticksToRenewal_50 rfl (lv_at hl 2 rfl) ?_
          obtain ⟨r23, h24, h⟩ := x_bnd h
          refine x_aci hI (x_runV (rest := []) F hI (mX7_askIn l X σ _ r20.2 a1 r23 h24) g_X7_200 ⟨rfl, hd_X7_askIn⟩ ⟨by decide, by decide⟩ ⟨rfl, rfl⟩ (x_inO (by decide)) rfl rfl rfl rfl hl.1 rfl (Nat.le_of_ble_eq_true rfl) dX7_ticksToRenewal_51 ⟨Nat.zero_le _, Nat.zero_le _⟩) (fun H locs hI => ?_)
          rw [x_some h]
          exact x_iret F hI dX7_ticksToRenewal_54
        · have h := x_iff h c22
          refine lv_iconst (v := 0) hx hb dX7_ticksToRenewal_45 (by decide) ?_
          refine lv_goto (tgt := 54) hx hb dX7_ticksToRenewal_46 (by decide) ?_
          rw [x_some h]
          exact x_iret F hI dX7_ticksToRenewal_54
      · have h := x_ift h c14
        refine lv_iconst (v := 2) hx hb dX7_ticksToRenewal_34 (by decide) ?_
        refine lv_goto (tgt := 39) hx hb dX7_ticksToRenewal_35 (by decide) ?_
        obtain ⟨r15, h16, h⟩ := x_bnd h
        refine x_aci hI (x_runV (rest := []) F hI (mX7_refused l X σ _ u (2 : Int32) r15 h16) g_X7_97 ⟨rfl, hd_X7_refused⟩ ⟨by decide, by decide⟩ ⟨rfl, rfl⟩ (x_inO (by decide)) rfl rfl rfl rfl hl.1 rfl (Nat.le_of_ble_eq_true rfl) dX7_ticksToRenewal_39 ⟨Nat.zero_le _, Nat.zero_le _⟩) (fun H locs hI => ?_)
        refine lv_if_eq (tgt := 49) hx hb dX7_ticksToRenewal_42 (by decide) (fun c17 => ?_) (fun c17 => ?_)
        · have h := x_ift h c17
          refine lv_aload_n hx hb dX7_ticksToRenewal_49 rfl (lv_at hl 1 rfl) ?_
          refine lv_iload_n hx hb dX7_ticksToRenewal_50 rfl (lv_at hl 2 rfl) ?_
          obtain ⟨r18, h19, h⟩ := x_bnd h
          refine x_aci hI (x_runV (rest := []) F hI (mX7_askIn l X σ _ r15.2 a1 r18 h19) g_X7_200 ⟨rfl, hd_X7_askIn⟩ ⟨by decide, by decide⟩ ⟨rfl, rfl⟩ (x_inO (by decide)) rfl rfl rfl rfl hl.1 rfl (Nat.le_of_ble_eq_true rfl) dX7_ticksToRenewal_51 ⟨Nat.zero_le _, Nat.zero_le _⟩) (fun H locs hI => ?_)
          rw [x_some h]
          exact x_iret F hI dX7_ticksToRenewal_54
        · have h := x_iff h c17
          refine lv_iconst (v := 0) hx hb dX7_ticksToRenewal_45 (by decide) ?_
          refine lv_goto (tgt := 54) hx hb dX7_ticksToRenewal_46 (by decide) ?_
          rw [x_some h]
          exact x_iret F hI dX7_ticksToRenewal_54
  · have h := x_ift h c3
    refine lv_iconst (v := 1) hx hb dX7_ticksToRenewal_10 (by decide) ?_
    refine lv_goto (tgt := 39) hx hb dX7_ticksToRenewal_11 (by decide) ?_
    obtain ⟨r4, h5, h⟩ := x_bnd h
    refine x_aci hI (x_runV (rest := []) F hI (mX7_refused l X σ _ u (1 : Int32) r4 h5) g_X7_97 ⟨rfl, hd_X7_refused⟩ ⟨by decide, by decide⟩ ⟨rfl, rfl⟩ (x_inO (by decide)) rfl rfl rfl rfl hl.1 rfl (Nat.le_of_ble_eq_true rfl) dX7_ticksToRenewal_39 ⟨Nat.zero_le _, Nat.zero_le _⟩) (fun H locs hI => ?_)
    refine lv_if_eq (tgt := 49) hx hb dX7_ticksToRenewal_42 (by decide) (fun c6 => ?_) (fun c6 => ?_)
    · have h := x_ift h c6
      refine lv_aload_n hx hb dX7_ticksToRenewal_49 rfl (lv_at hl 1 rfl) ?_
      refine lv_iload_n hx hb dX7_ticksToRenewal_50 rfl (lv_at hl 2 rfl) ?_
      obtain ⟨r7, h8, h⟩ := x_bnd h
      refine x_aci hI (x_runV (rest := []) F hI (mX7_askIn l X σ _ r4.2 a1 r7 h8) g_X7_200 ⟨rfl, hd_X7_askIn⟩ ⟨by decide, by decide⟩ ⟨rfl, rfl⟩ (x_inO (by decide)) rfl rfl rfl rfl hl.1 rfl (Nat.le_of_ble_eq_true rfl) dX7_ticksToRenewal_51 ⟨Nat.zero_le _, Nat.zero_le _⟩) (fun H locs hI => ?_)
      rw [x_some h]
      exact x_iret F hI dX7_ticksToRenewal_54
    · have h := x_iff h c6
      refine lv_iconst (v := 0) hx hb dX7_ticksToRenewal_45 (by decide) ?_
      refine lv_goto (tgt := 54) hx hb dX7_ticksToRenewal_46 (by decide) ?_
      rw [x_some h]
      exact x_iret F hI dX7_ticksToRenewal_54
abbrev rm_X7_haunted : Room := { frames := 1, cells := 0, slots := 0, locals := 21 }
def fX7_haunted (u : x_H) (a1 : Int32) : Option Int32 := (Option.bind (fX7_doing (u 41) a1) fun r1 => (if r1 = (3 : Int32) then (if x_in (((8 : Int32) * a1) + (1 : Int32)) 570 then (if x_in (((96 : Int32) + ((6 : Int32) * (u 41 (Int32.toNatClampNeg (((8 : Int32) * a1) + (1 : Int32)))))) + (5 : Int32)) 570 then (if (u 41 (Int32.toNatClampNeg (((96 : Int32) + ((6 : Int32) * (u 41 (Int32.toNatClampNeg (((8 : Int32) * a1) + (1 : Int32)))))) + (5 : Int32)))) = (1 : Int32) then some (1 : Int32) else some (0 : Int32)) else none) else none) else some (0 : Int32)))
set_option maxHeartbeats 4000000 in
set_option maxRecDepth 100000 in
theorem mX7_haunted (l : Launch) (X : x_T) (σ : x_S) (sz : Nat) (u : x_H) (a1 : Int32) (r : Int32) (h : fX7_haunted u a1 = some r) : Met l yX7_haunted (x_ws yX7_haunted cX7_haunted 2 (some .boolean)) rm_X7_haunted (x_Pc X (x_sh σ 11 u) sz [.ref (X.2.2 11 40), .int a1]) (x_Qi X r (x_sh σ 11 u) sz) 0 0 (x_A X sz) := by
  refine Met.ofW (cc := cX7_haunted) (maxL := 2) (ret := (some .boolean)) (by decide) rfl ?_
  intro p e s m args below meth c s₁ B hml hv
  obtain ⟨F, hI, rfl, rfl⟩ := x_begin B hml hv
  replace F : x_F p s m _ meth c cX7_haunted 2 RX7 (some .boolean) := F
  have hx := F.1
  have hb := F.2.1
  have hml := F.2.2.1
  have hown := F.2.2.2.1
  have hts := F.2.2.2.2.1
  refine x_entry (vs := [.ref (X.2.2 11 40), .int a1]) (n := 2) (Nat.le_of_ble_eq_true rfl) (fun ls hl => ?_)
  replace hl : lv_has ls 2 [(0, .ref (X.2.2 11 40)), (1, .int a1)] := hl
  unfold fX7_haunted at h
  refine lv_aload_n hx hb dX7_haunted_0 rfl (lv_at hl 0 rfl) ?_
  refine xg_7_1 F hI (x_inO (by decide)) u_fl_X7_7 dX7_haunted_1 ?_
  refine lv_iload_n hx hb dX7_haunted_4 rfl (lv_at hl 1 rfl) ?_
  obtain ⟨r1, h2, h⟩ := x_bnd h
  have hI := x_toV 41 hI
  refine x_aci hI (x_runS (rest := []) F hI (mX7_doing l X σ u 41 (x_inO (by decide)) (fun _ => rfl) _ (u 41) a1 r1 h2) g_X7_60 hd_X7_doing ⟨by decide, by decide⟩ ⟨rfl, rfl⟩ rfl hl.1 rfl (Nat.le_of_ble_eq_true rfl) dX7_haunted_5 ⟨Nat.zero_le _, Nat.zero_le _⟩) (fun H locs hI => ?_)
  rw [x_hs_self] at hI
  refine lv_iconst (v := 3) hx hb dX7_haunted_8 (by decide) ?_
  refine lv_icmp_ne (tgt := 44) hx hb dX7_haunted_9 (by decide) (fun c3 => ?_) (fun c3 => ?_)
  · have h := x_iff h c3
    refine lv_iconst (v := 0) hx hb dX7_haunted_44 (by decide) ?_
    rw [x_some h]
    exact x_zret (v := 0) F hI (by decide) dX7_haunted_45
  · have h := x_ift h c3
    refine lv_aload_n hx hb dX7_haunted_12 rfl (lv_at hl 0 rfl) ?_
    refine xg_7_1 F hI (x_inO (by decide)) u_fl_X7_7 dX7_haunted_13 ?_
    refine lv_bipush (v := 96) hx hb dX7_haunted_16 (by decide) ?_
    refine lv_bipush (v := 6) hx hb dX7_haunted_18 (by decide) ?_
    refine lv_aload_n hx hb dX7_haunted_20 rfl (lv_at hl 0 rfl) ?_
    refine xg_7_1 F hI (x_inO (by decide)) u_fl_X7_7 dX7_haunted_21 ?_
    refine lv_bipush (v := 8) hx hb dX7_haunted_24 (by decide) ?_
    refine lv_iload_n hx hb dX7_haunted_26 rfl (lv_at hl 1 rfl) ?_
    refine lv_imul hx hb dX7_haunted_27 ?_
    refine lv_iconst (v := 1) hx hb dX7_haunted_28 (by decide) ?_
    refine lv_iadd hx hb dX7_haunted_29 ?_
    obtain ⟨g4, h⟩ := x_chk h
    refine xh_iald (n := 570) F hI (x_inO (by decide)) (fun _ => rfl) g4 dX7_haunted_30 ?_
    refine lv_imul hx hb dX7_haunted_31 ?_
    refine lv_iadd hx hb dX7_haunted_32 ?_
    refine lv_iconst (v := 5) hx hb dX7_haunted_33 (by decide) ?_
    refine lv_iadd hx hb dX7_haunted_34 ?_
    obtain ⟨g5, h⟩ := x_chk h
    refine xh_iald (n := 570) F hI (x_inO (by decide)) (fun _ => rfl) g5 dX7_haunted_35 ?_
    refine lv_iconst (v := 1) hx hb dX7_haunted_36 (by decide) ?_
    refine lv_icmp_ne (tgt := 44) hx hb dX7_haunted_37 (by decide) (fun c6 => ?_) (fun c6 => ?_)
    · have h := x_iff h c6
      refine lv_iconst (v := 0) hx hb dX7_haunted_44 (by decide) ?_
      rw [x_some h]
      exact x_zret (v := 0) F hI (by decide) dX7_haunted_45
    · have h := x_ift h c6
      refine lv_iconst (v := 1) hx hb dX7_haunted_40 (by decide) ?_
      refine lv_goto (tgt := 45) hx hb dX7_haunted_41 (by decide) ?_
      rw [x_some h]
      exact x_zret (v := 1) F hI (by decide) dX7_haunted_45
abbrev rm_X7_isHaunted : Room := { frames := 3, cells := 0, slots := 0, locals := 66 }
def fX7_isHaunted (u : x_H) (a1 : Int32) : Option (Int32 × x_H) := (Option.bind (fX7_noGuest u a1) fun r1 => (if r1.1 = 0 then (Option.bind (fX7_haunted r1.2 a1) fun r4 => (if r4 = 0 then some ((0 : Int32), r1.2) else some ((1 : Int32), r1.2))) else some ((0 : Int32), r1.2)))
set_option maxHeartbeats 4000000 in
set_option maxRecDepth 100000 in
theorem mX7_isHaunted (l : Launch) (X : x_T) (σ : x_S) (sz : Nat) (u : x_H) (a1 : Int32) (r : (Int32 × x_H)) (h : fX7_isHaunted u a1 = some r) : Met l yX7_isHaunted (x_ws yX7_isHaunted cX7_isHaunted 2 (some .boolean)) rm_X7_isHaunted (x_Pc X (x_sh σ 11 u) sz [.ref (X.2.2 11 40), .int a1]) (x_Qi X r.1 (x_sh σ 11 r.2) sz) 0 0 (x_A X sz) := by
  refine Met.ofW (cc := cX7_isHaunted) (maxL := 2) (ret := (some .boolean)) (by decide) rfl ?_
  intro p e s m args below meth c s₁ B hml hv
  obtain ⟨F, hI, rfl, rfl⟩ := x_begin B hml hv
  replace F : x_F p s m _ meth c cX7_isHaunted 2 RX7 (some .boolean) := F
  have hx := F.1
  have hb := F.2.1
  have hml := F.2.2.1
  have hown := F.2.2.2.1
  have hts := F.2.2.2.2.1
  refine x_entry (vs := [.ref (X.2.2 11 40), .int a1]) (n := 2) (Nat.le_of_ble_eq_true rfl) (fun ls hl => ?_)
  replace hl : lv_has ls 2 [(0, .ref (X.2.2 11 40)), (1, .int a1)] := hl
  unfold fX7_isHaunted at h
  refine lv_aload_n hx hb dX7_isHaunted_0 rfl (lv_at hl 0 rfl) ?_
  refine lv_iload_n hx hb dX7_isHaunted_1 rfl (lv_at hl 1 rfl) ?_
  obtain ⟨r1, h2, h⟩ := x_bnd h
  refine x_aci hI (x_runV (rest := []) F hI (mX7_noGuest l X σ _ u a1 r1 h2) g_X7_194 ⟨rfl, hd_X7_noGuest⟩ ⟨by decide, by decide⟩ ⟨rfl, rfl⟩ (x_inO (by decide)) rfl rfl rfl rfl hl.1 rfl (Nat.le_of_ble_eq_true rfl) dX7_isHaunted_2 ⟨Nat.zero_le _, Nat.zero_le _⟩) (fun H locs hI => ?_)
  refine lv_if_ne (tgt := 20) hx hb dX7_isHaunted_5 (by decide) (fun c3 => ?_) (fun c3 => ?_)
  · have h := x_iff h c3
    refine lv_iconst (v := 0) hx hb dX7_isHaunted_20 (by decide) ?_
    rw [x_some h]
    exact x_zret (v := 0) F hI (by decide) dX7_isHaunted_21
  · have h := x_ift h c3
    refine lv_aload_n hx hb dX7_isHaunted_8 rfl (lv_at hl 0 rfl) ?_
    refine lv_iload_n hx hb dX7_isHaunted_9 rfl (lv_at hl 1 rfl) ?_
    obtain ⟨r4, h5, h⟩ := x_bnd h
    refine x_aci hI (x_runV (rest := []) F hI (mX7_haunted l X σ _ r1.2 a1 r4 h5) g_X7_203 ⟨rfl, hd_X7_haunted⟩ ⟨by decide, by decide⟩ ⟨rfl, rfl⟩ (x_inO (by decide)) rfl rfl rfl rfl hl.1 rfl (Nat.le_of_ble_eq_true rfl) dX7_isHaunted_10 ⟨Nat.zero_le _, Nat.zero_le _⟩) (fun H locs hI => ?_)
    refine lv_if_eq (tgt := 20) hx hb dX7_isHaunted_13 (by decide) (fun c6 => ?_) (fun c6 => ?_)
    · have h := x_ift h c6
      refine lv_iconst (v := 0) hx hb dX7_isHaunted_20 (by decide) ?_
      rw [x_some h]
      exact x_zret (v := 0) F hI (by decide) dX7_isHaunted_21
    · have h := x_iff h c6
      refine lv_iconst (v := 1) hx hb dX7_isHaunted_16 (by decide) ?_
      refine lv_goto (tgt := 21) hx hb dX7_isHaunted_17 (by decide) ?_
      rw [x_some h]
      exact x_zret (v := 1) F hI (by decide) dX7_isHaunted_21
abbrev rm_X7_staysOf : Room := { frames := 3, cells := 0, slots := 0, locals := 66 }
def fX7_staysOf (u : x_H) (a1 : Int32) : Option (Int32 × x_H) := (Option.bind (fX7_noGuest u a1) fun r1 => (if r1.1 = 0 then (if x_in (((8 : Int32) * a1) + (6 : Int32)) 570 then some ((r1.2 41 (Int32.toNatClampNeg (((8 : Int32) * a1) + (6 : Int32)))), r1.2) else none) else some ((0 : Int32), r1.2)))
set_option maxHeartbeats 4000000 in
set_option maxRecDepth 100000 in
theorem mX7_staysOf (l : Launch) (X : x_T) (σ : x_S) (sz : Nat) (u : x_H) (a1 : Int32) (r : (Int32 × x_H)) (h : fX7_staysOf u a1 = some r) : Met l yX7_staysOf (x_ws yX7_staysOf cX7_staysOf 2 (some .int)) rm_X7_staysOf (x_Pc X (x_sh σ 11 u) sz [.ref (X.2.2 11 40), .int a1]) (x_Qi X r.1 (x_sh σ 11 r.2) sz) 0 0 (x_A X sz) := by
  refine Met.ofW (cc := cX7_staysOf) (maxL := 2) (ret := (some .int)) (by decide) rfl ?_
  intro p e s m args below meth c s₁ B hml hv
  obtain ⟨F, hI, rfl, rfl⟩ := x_begin B hml hv
  replace F : x_F p s m _ meth c cX7_staysOf 2 RX7 (some .int) := F
  have hx := F.1
  have hb := F.2.1
  have hml := F.2.2.1
  have hown := F.2.2.2.1
  have hts := F.2.2.2.2.1
  refine x_entry (vs := [.ref (X.2.2 11 40), .int a1]) (n := 2) (Nat.le_of_ble_eq_true rfl) (fun ls hl => ?_)
  replace hl : lv_has ls 2 [(0, .ref (X.2.2 11 40)), (1, .int a1)] := hl
  unfold fX7_staysOf at h
  refine lv_aload_n hx hb dX7_staysOf_0 rfl (lv_at hl 0 rfl) ?_
  refine lv_iload_n hx hb dX7_staysOf_1 rfl (lv_at hl 1 rfl) ?_
  obtain ⟨r1, h2, h⟩ := x_bnd h
  refine x_aci hI (x_runV (rest := []) F hI (mX7_noGuest l X σ _ u a1 r1 h2) g_X7_194 ⟨rfl, hd_X7_noGuest⟩ ⟨by decide, by decide⟩ ⟨rfl, rfl⟩ (x_inO (by decide)) rfl rfl rfl rfl hl.1 rfl (Nat.le_of_ble_eq_true rfl) dX7_staysOf_2 ⟨Nat.zero_le _, Nat.zero_le _⟩) (fun H locs hI => ?_)
  refine lv_if_eq (tgt := 12) hx hb dX7_staysOf_5 (by decide) (fun c3 => ?_) (fun c3 => ?_)
  · have h := x_ift h c3
    refine lv_aload_n hx hb dX7_staysOf_12 rfl (lv_at hl 0 rfl) ?_
    refine xg_7_1 F hI (x_inO (by decide)) u_fl_X7_7 dX7_staysOf_13 ?_
    refine lv_bipush (v := 8) hx hb dX7_staysOf_16 (by decide) ?_
    refine lv_iload_n hx hb dX7_staysOf_18 rfl (lv_at hl 1 rfl) ?_
    refine lv_imul hx hb dX7_staysOf_19 ?_
    refine lv_bipush (v := 6) hx hb dX7_staysOf_20 (by decide) ?_
    refine lv_iadd hx hb dX7_staysOf_22 ?_
    obtain ⟨g4, h⟩ := x_chk h
    refine xh_iald (n := 570) F hI (x_inO (by decide)) (fun _ => rfl) g4 dX7_staysOf_23 ?_
    rw [x_some h]
    exact x_iret F hI dX7_staysOf_24
  · have h := x_iff h c3
    refine lv_iconst (v := 0) hx hb dX7_staysOf_8 (by decide) ?_
    refine lv_goto (tgt := 24) hx hb dX7_staysOf_9 (by decide) ?_
    rw [x_some h]
    exact x_iret F hI dX7_staysOf_24
abbrev rm_X7_housed : Room := { frames := 2, cells := 0, slots := 0, locals := 43 }
def fX7_housed (u : x_H) : Option (Int32 × x_H) := x_let (x_hu u 40 0 (0 : Int32)) fun u1 => (Option.bind (fX7_inRooms (u1 41) ) fun r3 => some (r3, u1))
set_option maxHeartbeats 4000000 in
set_option maxRecDepth 100000 in
theorem mX7_housed (l : Launch) (X : x_T) (σ : x_S) (sz : Nat) (u : x_H) (r : (Int32 × x_H)) (h : fX7_housed u  = some r) : Met l yX7_housed (x_ws yX7_housed cX7_housed 1 (some .int)) rm_X7_housed (x_Pc X (x_sh σ 11 u) sz [.ref (X.2.2 11 40)]) (x_Qi X r.1 (x_sh σ 11 r.2) sz) 0 0 (x_A X sz) := by
  refine Met.ofW (cc := cX7_housed) (maxL := 1) (ret := (some .int)) (by decide) rfl ?_
  intro p e s m args below meth c s₁ B hml hv
  obtain ⟨F, hI, rfl, rfl⟩ := x_begin B hml hv
  replace F : x_F p s m _ meth c cX7_housed 1 RX7 (some .int) := F
  have hx := F.1
  have hb := F.2.1
  have hml := F.2.2.1
  have hown := F.2.2.2.1
  have hts := F.2.2.2.2.1
  refine x_entry (vs := [.ref (X.2.2 11 40)]) (n := 1) (Nat.le_of_ble_eq_true rfl) (fun ls hl => ?_)
  replace hl : lv_has ls 1 [(0, .ref (X.2.2 11 40))] := hl
  unfold fX7_housed at h
  refine lv_aload_n hx hb dX7_housed_0 rfl (lv_at hl 0 rfl) ?_
  refine lv_iconst (v := 0) hx hb dX7_housed_1 (by decide) ?_
  refine xp_7_0 F hI (x_inO (by decide)) u_fl_X7_29 dX7_housed_2 (fun H locs u1 e2 hI => ?_)
  have h := x_let_at h e2
  refine lv_aload_n hx hb dX7_housed_5 rfl (lv_at hl 0 rfl) ?_
  refine xg_7_1 F hI (x_inO (by decide)) u_fl_X7_7 dX7_housed_6 ?_
  obtain ⟨r3, h4, h⟩ := x_bnd h
  have hI := x_toV 41 hI
  refine x_aci hI (x_runS (rest := []) F hI (mX7_inRooms l X σ u1 41 (x_inO (by decide)) (fun _ => rfl) _ (u1 41)  r3 h4) g_X7_188 hd_X7_inRooms ⟨by decide, by decide⟩ ⟨rfl, rfl⟩ rfl hl.1 rfl (Nat.le_of_ble_eq_true rfl) dX7_housed_9 ⟨Nat.zero_le _, Nat.zero_le _⟩) (fun H locs hI => ?_)
  rw [x_hs_self] at hI
  rw [x_some h]
  exact x_iret F hI dX7_housed_12
abbrev rm_X7_stateOf : Room := { frames := 3, cells := 0, slots := 0, locals := 66 }
def fX7_stateOf (u : x_H) (a1 : Int32) : Option (Int32 × x_H) := (Option.bind (fX7_noRoom u a1) fun r1 => (if r1.1 = 0 then (Option.bind (fX7_state (r1.2 41) a1) fun r4 => some (r4, r1.2)) else some ((0 : Int32), r1.2)))
set_option maxHeartbeats 4000000 in
set_option maxRecDepth 100000 in
theorem mX7_stateOf (l : Launch) (X : x_T) (σ : x_S) (sz : Nat) (u : x_H) (a1 : Int32) (r : (Int32 × x_H)) (h : fX7_stateOf u a1 = some r) : Met l yX7_stateOf (x_ws yX7_stateOf cX7_stateOf 2 (some .int)) rm_X7_stateOf (x_Pc X (x_sh σ 11 u) sz [.ref (X.2.2 11 40), .int a1]) (x_Qi X r.1 (x_sh σ 11 r.2) sz) 0 0 (x_A X sz) := by
  refine Met.ofW (cc := cX7_stateOf) (maxL := 2) (ret := (some .int)) (by decide) rfl ?_
  intro p e s m args below meth c s₁ B hml hv
  obtain ⟨F, hI, rfl, rfl⟩ := x_begin B hml hv
  replace F : x_F p s m _ meth c cX7_stateOf 2 RX7 (some .int) := F
  have hx := F.1
  have hb := F.2.1
  have hml := F.2.2.1
  have hown := F.2.2.2.1
  have hts := F.2.2.2.2.1
  refine x_entry (vs := [.ref (X.2.2 11 40), .int a1]) (n := 2) (Nat.le_of_ble_eq_true rfl) (fun ls hl => ?_)
  replace hl : lv_has ls 2 [(0, .ref (X.2.2 11 40)), (1, .int a1)] := hl
  unfold fX7_stateOf at h
  refine lv_aload_n hx hb dX7_stateOf_0 rfl (lv_at hl 0 rfl) ?_
  refine lv_iload_n hx hb dX7_stateOf_1 rfl (lv_at hl 1 rfl) ?_
  obtain ⟨r1, h2, h⟩ := x_bnd h
  refine x_aci hI (x_runV (rest := []) F hI (mX7_noRoom l X σ _ u a1 r1 h2) g_X7_121 ⟨rfl, hd_X7_noRoom⟩ ⟨by decide, by decide⟩ ⟨rfl, rfl⟩ (x_inO (by decide)) rfl rfl rfl rfl hl.1 rfl (Nat.le_of_ble_eq_true rfl) dX7_stateOf_2 ⟨Nat.zero_le _, Nat.zero_le _⟩) (fun H locs hI => ?_)
  refine lv_if_eq (tgt := 12) hx hb dX7_stateOf_5 (by decide) (fun c3 => ?_) (fun c3 => ?_)
  · have h := x_ift h c3
    refine lv_aload_n hx hb dX7_stateOf_12 rfl (lv_at hl 0 rfl) ?_
    refine xg_7_1 F hI (x_inO (by decide)) u_fl_X7_7 dX7_stateOf_13 ?_
    refine lv_iload_n hx hb dX7_stateOf_16 rfl (lv_at hl 1 rfl) ?_
    obtain ⟨r4, h5, h⟩ := x_bnd h
    have hI := x_toV 41 hI
    refine x_aci hI (x_runS (rest := []) F hI (mX7_state l X σ r1.2 41 (x_inO (by decide)) (fun _ => rfl) _ (r1.2 41) a1 r4 h5) g_X7_41 hd_X7_state ⟨by decide, by decide⟩ ⟨rfl, rfl⟩ rfl hl.1 rfl (Nat.le_of_ble_eq_true rfl) dX7_stateOf_17 ⟨Nat.zero_le _, Nat.zero_le _⟩) (fun H locs hI => ?_)
    rw [x_hs_self] at hI
    rw [x_some h]
    exact x_iret F hI dX7_stateOf_20
  · have h := x_iff h c3
    refine lv_iconst (v := 0) hx hb dX7_stateOf_8 (by decide) ?_
    refine lv_goto (tgt := 20) hx hb dX7_stateOf_9 (by decide) ?_
    rw [x_some h]
    exact x_iret F hI dX7_stateOf_20
abbrev rm_X7_hasWho : Room := { frames := 1, cells := 0, slots := 0, locals := 25 }
def fX7_hasWho (u : x_H) (a1 : Int32) : Option Int32 := (Option.bind (fX7_state (u 41) a1) fun r1 => (Option.bind (fX7_in r1.toInt64 (1 : Int64) (2 : Int64)) fun r3 => if vp_nar .boolean r3 = r3 then some (r3) else none))
set_option maxHeartbeats 4000000 in
set_option maxRecDepth 100000 in
theorem mX7_hasWho (l : Launch) (X : x_T) (σ : x_S) (sz : Nat) (u : x_H) (a1 : Int32) (r : Int32) (h : fX7_hasWho u a1 = some r) : Met l yX7_hasWho (x_ws yX7_hasWho cX7_hasWho 2 (some .boolean)) rm_X7_hasWho (x_Pc X (x_sh σ 11 u) sz [.ref (X.2.2 11 40), .int a1]) (x_Qi X r (x_sh σ 11 u) sz) 0 0 (x_A X sz) := by
  refine Met.ofW (cc := cX7_hasWho) (maxL := 2) (ret := (some .boolean)) (by decide) rfl ?_
  intro p e s m args below meth c s₁ B hml hv
  obtain ⟨F, hI, rfl, rfl⟩ := x_begin B hml hv
  replace F : x_F p s m _ meth c cX7_hasWho 2 RX7 (some .boolean) := F
  have hx := F.1
  have hb := F.2.1
  have hml := F.2.2.1
  have hown := F.2.2.2.1
  have hts := F.2.2.2.2.1
  refine x_entry (vs := [.ref (X.2.2 11 40), .int a1]) (n := 2) (Nat.le_of_ble_eq_true rfl) (fun ls hl => ?_)
  replace hl : lv_has ls 2 [(0, .ref (X.2.2 11 40)), (1, .int a1)] := hl
  unfold fX7_hasWho at h
  refine lv_aload_n hx hb dX7_hasWho_0 rfl (lv_at hl 0 rfl) ?_
  refine xg_7_1 F hI (x_inO (by decide)) u_fl_X7_7 dX7_hasWho_1 ?_
  refine lv_iload_n hx hb dX7_hasWho_4 rfl (lv_at hl 1 rfl) ?_
  obtain ⟨r1, h2, h⟩ := x_bnd h
  have hI := x_toV 41 hI
  refine x_aci hI (x_runS (rest := []) F hI (mX7_state l X σ u 41 (x_inO (by decide)) (fun _ => rfl) _ (u 41) a1 r1 h2) g_X7_41 hd_X7_state ⟨by decide, by decide⟩ ⟨rfl, rfl⟩ rfl hl.1 rfl (Nat.le_of_ble_eq_true rfl) dX7_hasWho_5 ⟨Nat.zero_le _, Nat.zero_le _⟩) (fun H locs hI => ?_)
  rw [x_hs_self] at hI
  refine lv_i2l hx hb dX7_hasWho_8 rfl ?_
  refine lv_lconst (v := 1) hx hb dX7_hasWho_9 (by decide) ?_
  refine lv_ldc2 (v := 2) hx hb hown (hts _ u_cl_X7_115) dX7_hasWho_10 ?_
  obtain ⟨r3, h4, h⟩ := x_bnd h
  refine x_aci hI (x_runS (rest := []) F hI (mX7_in l X (x_sh σ 11 u) _ r1.toInt64 (1 : Int64) (2 : Int64) r3 h4) g_X7_35 hd_X7_in ⟨by decide, by decide⟩ ⟨rfl, rfl⟩ rfl hl.1 rfl (Nat.le_of_ble_eq_true rfl) dX7_hasWho_13 ⟨Nat.zero_le _, Nat.zero_le _⟩) (fun H locs hI => ?_)
  obtain ⟨g, h⟩ := x_chk h
  rw [x_some h]
  exact x_zret (v := r3) F hI g dX7_hasWho_16
abbrev rm_X7_guestOf : Room := { frames := 2, cells := 0, slots := 0, locals := 46 }
def fX7_guestOf_j27 (u : x_H) (y1 : Int32) (z0 : Int32) : Option (Int32 × x_H) := (Option.bind (fX7_refused u z0) fun r7 => (if r7.1 = 0 then (if x_in (((96 : Int32) + ((6 : Int32) * y1)) + (2 : Int32)) 570 then some ((r7.2 41 (Int32.toNatClampNeg (((96 : Int32) + ((6 : Int32) * y1)) + (2 : Int32)))), r7.2) else none) else some ((0 : Int32), r7.2)))
set_option maxHeartbeats 4000000 in
set_option maxRecDepth 100000 in
theorem wX7_guestOf_j27 {p : Program} {l : Launch} {e : Env} {s : State} {m : MethodId} {args : Array Value} {below : List Frame} {meth : Method} {c : Code} {X : x_T} {σ : x_S} {r : (Int32 × x_H)} (F : x_F p s m args meth c cX7_guestOf 3 RX7 (some .int)) (u : x_H) (y1 : Int32) (z0 : Int32) (H : Heap) (locs : List Loc) (ls : Array Slot) (h : fX7_guestOf_j27 u y1 z0 = some r) (hI : x_I X (x_sh σ 11 u) s H locs) (hl : lv_has ls 3 [(0, .ref (X.2.2 11 40)), (1, .int y1)]) : W p l e rm_X7_guestOf s m args below meth c H locs 0 0 (MQ below (x_Qi X r.1 (x_sh σ 11 r.2) s.heap.size) args s 0 0 (x_A X s.heap.size)) (F0 m 27 ls [.int z0, .ref (X.2.2 11 40)]) := by
  have hx := F.1
  have hb := F.2.1
  have hml := F.2.2.1
  have hown := F.2.2.2.1
  have hts := F.2.2.2.2.1
  unfold fX7_guestOf_j27 at h
  obtain ⟨r7, h8, h⟩ := x_bnd h
  refine x_aci hI (x_runV (rest := []) F hI (mX7_refused l X σ _ u z0 r7 h8) g_X7_97 ⟨rfl, hd_X7_refused⟩ ⟨by decide, by decide⟩ ⟨rfl, rfl⟩ (x_inO (by decide)) rfl rfl rfl rfl hl.1 rfl (Nat.le_of_ble_eq_true rfl) dX7_guestOf_27 ⟨Nat.zero_le _, Nat.zero_le _⟩) (fun H locs hI => ?_)
  refine lv_if_eq (tgt := 37) hx hb dX7_guestOf_30 (by decide) (fun c9 => ?_) (fun c9 => ?_)
  · have h := x_ift h c9
    refine lv_aload_n hx hb dX7_guestOf_37 rfl (lv_at hl 0 rfl) ?_
    refine xg_7_1 F hI (x_inO (by decide)) u_fl_X7_7 dX7_guestOf_38 ?_
    refine lv_bipush (v := 96) hx hb dX7_guestOf_41 (by decide) ?_
    refine lv_bipush (v := 6) hx hb dX7_guestOf_43 (by decide) ?_
    refine lv_iload_n hx hb dX7_guestOf_45 rfl (lv_at hl 1 rfl) ?_
    refine lv_imul hx hb dX7_guestOf_46 ?_
    refine lv_iadd hx hb dX7_guestOf_47 ?_
    refine lv_iconst (v := 2) hx hb dX7_guestOf_48 (by decide) ?_
    refine lv_iadd hx hb dX7_guestOf_49 ?_
    obtain ⟨g10, h⟩ := x_chk h
    refine xh_iald (n := 570) F hI (x_inO (by decide)) (fun _ => rfl) g10 dX7_guestOf_50 ?_
    rw [x_some h]
    exact x_iret F hI dX7_guestOf_51
  · have h := x_iff h c9
    refine lv_iconst (v := 0) hx hb dX7_guestOf_33 (by decide) ?_
    refine lv_goto (tgt := 51) hx hb dX7_guestOf_34 (by decide) ?_
    rw [x_some h]
    exact x_iret F hI dX7_guestOf_51
def fX7_guestOf (u : x_H) (a1 : Int32) : Option (Int32 × x_H) := (Option.bind (fX7_isRoom a1) fun r1 => (if r1 = 0 then fX7_guestOf_j27 u a1 (1 : Int32) else (Option.bind (fX7_hasWho u a1) fun r4 => (if r4 = 0 then fX7_guestOf_j27 u a1 (2 : Int32) else fX7_guestOf_j27 u a1 (0 : Int32)))))
set_option maxHeartbeats 4000000 in
set_option maxRecDepth 100000 in
theorem mX7_guestOf (l : Launch) (X : x_T) (σ : x_S) (sz : Nat) (u : x_H) (a1 : Int32) (r : (Int32 × x_H)) (h : fX7_guestOf u a1 = some r) : Met l yX7_guestOf (x_ws yX7_guestOf cX7_guestOf 3 (some .int)) rm_X7_guestOf (x_Pc X (x_sh σ 11 u) sz [.ref (X.2.2 11 40), .int a1]) (x_Qi X r.1 (x_sh σ 11 r.2) sz) 0 0 (x_A X sz) := by
  refine Met.ofW (cc := cX7_guestOf) (maxL := 3) (ret := (some .int)) (by decide) rfl ?_
  intro p e s m args below meth c s₁ B hml hv
  obtain ⟨F, hI, rfl, rfl⟩ := x_begin B hml hv
  replace F : x_F p s m _ meth c cX7_guestOf 3 RX7 (some .int) := F
  have hx := F.1
  have hb := F.2.1
  have hml := F.2.2.1
  have hown := F.2.2.2.1
  have hts := F.2.2.2.2.1
  refine x_entry (vs := [.ref (X.2.2 11 40), .int a1]) (n := 3) (Nat.le_of_ble_eq_true rfl) (fun ls hl => ?_)
  replace hl : lv_has ls 3 [(0, .ref (X.2.2 11 40)), (1, .int a1)] := hl
  unfold fX7_guestOf at h
  refine lv_iload_n hx hb dX7_guestOf_0 rfl (lv_at hl 1 rfl) ?_
  obtain ⟨r1, h2, h⟩ := x_bnd h
  refine x_aci hI (x_runS (rest := []) F hI (mX7_isRoom l X (x_sh σ 11 u) _ a1 r1 h2) g_X7_100 hd_X7_isRoom ⟨by decide, by decide⟩ ⟨rfl, rfl⟩ rfl hl.1 rfl (Nat.le_of_ble_eq_true rfl) dX7_guestOf_1 ⟨Nat.zero_le _, Nat.zero_le _⟩) (fun H locs hI => ?_)
  refine lv_istore_n (lv' := [(2, .int r1), (0, .ref (X.2.2 11 40)), (1, .int a1)]) hx hb dX7_guestOf_4 rfl hl (by decide) rfl (fun ls hl => ?_)
  refine lv_aload_n hx hb dX7_guestOf_5 rfl (lv_at hl 1 rfl) ?_
  refine lv_iload_n hx hb dX7_guestOf_6 rfl (lv_at hl 0 rfl) ?_
  refine lv_if_ne (tgt := 14) hx hb dX7_guestOf_7 (by decide) (fun c3 => ?_) (fun c3 => ?_)
  · have h := x_iff h c3
    refine lv_aload_n hx hb dX7_guestOf_14 rfl (lv_at hl 1 rfl) ?_
    refine lv_iload_n hx hb dX7_guestOf_15 rfl (lv_at hl 2 rfl) ?_
    obtain ⟨r4, h5, h⟩ := x_bnd h
    refine x_aci hI (x_runV (rest := [.ref (X.2.2 11 40)]) F hI (mX7_hasWho l X σ _ u a1 r4 h5) g_X7_206 ⟨rfl, hd_X7_hasWho⟩ ⟨by decide, by decide⟩ ⟨rfl, rfl⟩ (x_inO (by decide)) rfl rfl rfl rfl hl.1 rfl (Nat.le_of_ble_eq_true rfl) dX7_guestOf_16 ⟨Nat.zero_le _, Nat.zero_le _⟩) (fun H locs hI => ?_)
    refine lv_if_ne (tgt := 26) hx hb dX7_guestOf_19 (by decide) (fun c6 => ?_) (fun c6 => ?_)
    · have h := x_iff h c6
      refine lv_iconst (v := 0) hx hb dX7_guestOf_26 (by decide) ?_
      exact wX7_guestOf_j27 F u a1 (0 : Int32) _ _ _ h hI (lv_sub hl [1, 2] rfl)
    · have h := x_ift h c6
      refine lv_iconst (v := 2) hx hb dX7_guestOf_22 (by decide) ?_
      refine lv_goto (tgt := 27) hx hb dX7_guestOf_23 (by decide) ?_
      exact wX7_guestOf_j27 F u a1 (2 : Int32) _ _ _ h hI (lv_sub hl [1, 2] rfl)
  · have h := x_ift h c3
    refine lv_iconst (v := 1) hx hb dX7_guestOf_10 (by decide) ?_
    refine lv_goto (tgt := 27) hx hb dX7_guestOf_11 (by decide) ?_
    exact wX7_guestOf_j27 F u a1 (1 : Int32) _ _ _ h hI (lv_sub hl [1, 2] rfl)
abbrev rm_X7_leftOf : Room := { frames := 1, cells := 0, slots := 0, locals := 21 }
def fX7_leftOf (u : x_H) (a1 : Int32) : Option Int32 := (Option.bind (fX7_state (u 41) a1) fun r1 => (if r1 = 0 then some (0 : Int32) else (if x_in (((96 : Int32) + ((6 : Int32) * a1)) + (1 : Int32)) 570 then some ((u 41 (Int32.toNatClampNeg (((96 : Int32) + ((6 : Int32) * a1)) + (1 : Int32)))) - (u 41 (Int32.toNatClampNeg (554 : Int32)))) else none)))
set_option maxHeartbeats 4000000 in
set_option maxRecDepth 100000 in
theorem mX7_leftOf (l : Launch) (X : x_T) (σ : x_S) (sz : Nat) (u : x_H) (a1 : Int32) (r : Int32) (h : fX7_leftOf u a1 = some r) : Met l yX7_leftOf (x_ws yX7_leftOf cX7_leftOf 2 (some .int)) rm_X7_leftOf (x_Pc X (x_sh σ 11 u) sz [.ref (X.2.2 11 40), .int a1]) (x_Qi X r (x_sh σ 11 u) sz) 0 0 (x_A X sz) := by
  refine Met.ofW (cc := cX7_leftOf) (maxL := 2) (ret := (some .int)) (by decide) rfl ?_
  intro p e s m args below meth c s₁ B hml hv
  obtain ⟨F, hI, rfl, rfl⟩ := x_begin B hml hv
  replace F : x_F p s m _ meth c cX7_leftOf 2 RX7 (some .int) := F
  have hx := F.1
  have hb := F.2.1
  have hml := F.2.2.1
  have hown := F.2.2.2.1
  have hts := F.2.2.2.2.1
  refine x_entry (vs := [.ref (X.2.2 11 40), .int a1]) (n := 2) (Nat.le_of_ble_eq_true rfl) (fun ls hl => ?_)
  replace hl : lv_has ls 2 [(0, .ref (X.2.2 11 40)), (1, .int a1)] := hl
  unfold fX7_leftOf at h
  refine lv_aload_n hx hb dX7_leftOf_0 rfl (lv_at hl 0 rfl) ?_
  refine xg_7_1 F hI (x_inO (by decide)) u_fl_X7_7 dX7_leftOf_1 ?_
  refine lv_iload_n hx hb dX7_leftOf_4 rfl (lv_at hl 1 rfl) ?_
  obtain ⟨r1, h2, h⟩ := x_bnd h
  have hI := x_toV 41 hI
  refine x_aci hI (x_runS (rest := []) F hI (mX7_state l X σ u 41 (x_inO (by decide)) (fun _ => rfl) _ (u 41) a1 r1 h2) g_X7_41 hd_X7_state ⟨by decide, by decide⟩ ⟨rfl, rfl⟩ rfl hl.1 rfl (Nat.le_of_ble_eq_true rfl) dX7_leftOf_5 ⟨Nat.zero_le _, Nat.zero_le _⟩) (fun H locs hI => ?_)
  rw [x_hs_self] at hI
  refine lv_if_ne (tgt := 15) hx hb dX7_leftOf_8 (by decide) (fun c3 => ?_) (fun c3 => ?_)
  · have h := x_iff h c3
    refine lv_aload_n hx hb dX7_leftOf_15 rfl (lv_at hl 0 rfl) ?_
    refine xg_7_1 F hI (x_inO (by decide)) u_fl_X7_7 dX7_leftOf_16 ?_
    refine lv_bipush (v := 96) hx hb dX7_leftOf_19 (by decide) ?_
    refine lv_bipush (v := 6) hx hb dX7_leftOf_21 (by decide) ?_
    refine lv_iload_n hx hb dX7_leftOf_23 rfl (lv_at hl 1 rfl) ?_
    refine lv_imul hx hb dX7_leftOf_24 ?_
    refine lv_iadd hx hb dX7_leftOf_25 ?_
    refine lv_iconst (v := 1) hx hb dX7_leftOf_26 (by decide) ?_
    refine lv_iadd hx hb dX7_leftOf_27 ?_
    obtain ⟨g4, h⟩ := x_chk h
    refine xh_iald (n := 570) F hI (x_inO (by decide)) (fun _ => rfl) g4 dX7_leftOf_28 ?_
    refine lv_aload_n hx hb dX7_leftOf_29 rfl (lv_at hl 0 rfl) ?_
    refine xg_7_1 F hI (x_inO (by decide)) u_fl_X7_7 dX7_leftOf_30 ?_
    refine lv_sipush (v := 554) hx hb dX7_leftOf_33 (by decide) ?_
    refine xh_iald (n := 570) F hI (x_inO (by decide)) (fun _ => rfl) (by decide) dX7_leftOf_36 ?_
    refine lv_isub hx hb dX7_leftOf_37 ?_
    rw [x_some h]
    exact x_iret F hI dX7_leftOf_38
  · have h := x_ift h c3
    refine lv_iconst (v := 0) hx hb dX7_leftOf_11 (by decide) ?_
    refine lv_goto (tgt := 38) hx hb dX7_leftOf_12 (by decide) ?_
    rw [x_some h]
    exact x_iret F hI dX7_leftOf_38
abbrev rm_X7_ticksOf : Room := { frames := 2, cells := 0, slots := 0, locals := 45 }
def fX7_ticksOf (u : x_H) (a1 : Int32) : Option (Int32 × x_H) := (Option.bind (fX7_isRoom a1) fun r1 => (if r1 = 0 then (Option.bind (fX7_refused u (1 : Int32)) fun r4 => (if r4.1 = 0 then (Option.bind (fX7_leftOf r4.2 a1) fun r7 => some (r7, r4.2)) else some ((0 : Int32), r4.2))) else (Option.bind (fX7_state (u 41) a1) fun r9 => (if r9 = 0 then (Option.bind (fX7_refused u (2 : Int32)) fun r12 => (if r12.1 = 0 then (Option.bind (fX7_leftOf r12.2 a1) fun r15 => some (r15, r12.2)) else some ((0 : Int32), r12.2))) else (Option.bind (fX7_refused u (0 : Int32)) fun r17 => (if r17.1 = 0 then (Option.bind (fX7_leftOf r17.2 a1) fun r20 => some (r20, r17.2)) else some ((0 : Int32), r17.2)))))))
set_option maxHeartbeats 4000000 in
set_option maxRecDepth 100000 in
theorem mX7_ticksOf (l : Launch) (X : x_T) (σ : x_S) (sz : Nat) (u : x_H) (a1 : Int32) (r : (Int32 × x_H)) (h : fX7_ticksOf u a1 = some r) : Met l yX7_ticksOf (x_ws yX7_ticksOf cX7_ticksOf 3 (some .int)) rm_X7_ticksOf (x_Pc X (x_sh σ 11 u) sz [.ref (X.2.2 11 40), .int a1]) (x_Qi X r.1 (x_sh σ 11 r.2) sz) 0 0 (x_A X sz) := by
  refine Met.ofW (cc := cX7_ticksOf) (maxL := 3) (ret := (some .int)) (by decide) rfl ?_
  intro p e s m args below meth c s₁ B hml hv
  obtain ⟨F, hI, rfl, rfl⟩ := x_begin B hml hv
  replace F : x_F p s m _ meth c cX7_ticksOf 3 RX7 (some .int) := F
  have hx := F.1
  have hb := F.2.1
  have hml := F.2.2.1
  have hown := F.2.2.2.1
  have hts := F.2.2.2.2.1
  refine x_entry (vs := [.ref (X.2.2 11 40), .int a1]) (n := 3) (Nat.le_of_ble_eq_true rfl) (fun ls hl => ?_)
  replace hl : lv_has ls 3 [(0, .ref (X.2.2 11 40)), (1, .int a1)] := hl
  unfold fX7_ticksOf at h
  refine lv_iload_n hx hb dX7_ticksOf_0 rfl (lv_at hl 1 rfl) ?_
  obtain ⟨r1, h2, h⟩ := x_bnd h
  refine x_aci hI (x_runS (rest := []) F hI (mX7_isRoom l X (x_sh σ 11 u) _ a1 r1 h2) g_X7_100 hd_X7_isRoom ⟨by decide, by decide⟩ ⟨rfl, rfl⟩ rfl hl.1 rfl (Nat.le_of_ble_eq_true rfl) dX7_ticksOf_1 ⟨Nat.zero_le _, Nat.zero_le _⟩) (fun H locs hI => ?_)
  refine lv_istore_n (lv' := [(2, .int r1), (0, .ref (X.2.2 11 40)), (1, .int a1)]) hx hb dX7_ticksOf_4 rfl hl (by decide) rfl (fun ls hl => ?_)
  refine lv_aload_n hx hb dX7_ticksOf_5 rfl (lv_at hl 1 rfl) ?_
  refine lv_iload_n hx hb dX7_ticksOf_6 rfl (lv_at hl 0 rfl) ?_
  refine lv_if_ne (tgt := 14) hx hb dX7_ticksOf_7 (by decide) (fun c3 => ?_) (fun c3 => ?_)
  · have h := x_iff h c3
    refine lv_aload_n hx hb dX7_ticksOf_14 rfl (lv_at hl 1 rfl) ?_
    refine xg_7_1 F hI (x_inO (by decide)) u_fl_X7_7 dX7_ticksOf_15 ?_
    refine lv_iload_n hx hb dX7_ticksOf_18 rfl (lv_at hl 2 rfl) ?_
    obtain ⟨r9, h10, h⟩ := x_bnd h
    have hI := x_toV 41 hI
    refine x_aci hI (x_runS (rest := [.ref (X.2.2 11 40)]) F hI (mX7_state l X σ u 41 (x_inO (by decide)) (fun _ => rfl) _ (u 41) a1 r9 h10) g_X7_41 hd_X7_state ⟨by decide, by decide⟩ ⟨rfl, rfl⟩ rfl hl.1 rfl (Nat.le_of_ble_eq_true rfl) dX7_ticksOf_19 ⟨Nat.zero_le _, Nat.zero_le _⟩) (fun H locs hI => ?_)
    rw [x_hs_self] at hI
    refine lv_if_ne (tgt := 29) hx hb dX7_ticksOf_22 (by decide) (fun c11 => ?_) (fun c11 => ?_)
    · have h := x_iff h c11
      refine lv_iconst (v := 0) hx hb dX7_ticksOf_29 (by decide) ?_
      obtain ⟨r17, h18, h⟩ := x_bnd h
      refine x_aci hI (x_runV (rest := []) F hI (mX7_refused l X σ _ u (0 : Int32) r17 h18) g_X7_97 ⟨rfl, hd_X7_refused⟩ ⟨by decide, by decide⟩ ⟨rfl, rfl⟩ (x_inO (by decide)) rfl rfl rfl rfl hl.1 rfl (Nat.le_of_ble_eq_true rfl) dX7_ticksOf_30 ⟨Nat.zero_le _, Nat.zero_le _⟩) (fun H locs hI => ?_)
      refine lv_if_eq (tgt := 40) hx hb dX7_ticksOf_33 (by decide) (fun c19 => ?_) (fun c19 => ?_)
      · have h := x_ift h c19
        refine lv_aload_n hx hb dX7_ticksOf_40 rfl (lv_at hl 1 rfl) ?_
        refine lv_iload_n hx hb dX7_ticksOf_41 rfl (lv_at hl 2 rfl) ?_
        obtain ⟨r20, h21, h⟩ := x_bnd h
        refine x_aci hI (x_runV (rest := []) F hI (mX7_leftOf l X σ _ r17.2 a1 r20 h21) g_X7_209 ⟨rfl, hd_X7_leftOf⟩ ⟨by decide, by decide⟩ ⟨rfl, rfl⟩ (x_inO (by decide)) rfl rfl rfl rfl hl.1 rfl (Nat.le_of_ble_eq_true rfl) dX7_ticksOf_42 ⟨Nat.zero_le _, Nat.zero_le _⟩) (fun H locs hI => ?_)
        rw [x_some h]
        exact x_iret F hI dX7_ticksOf_45
      · have h := x_iff h c19
        refine lv_iconst (v := 0) hx hb dX7_ticksOf_36 (by decide) ?_
        refine lv_goto (tgt := 45) hx hb dX7_ticksOf_37 (by decide) ?_
        rw [x_some h]
        exact x_iret F hI dX7_ticksOf_45
    · have h := x_ift h c11
      refine lv_iconst (v := 2) hx hb dX7_ticksOf_25 (by decide) ?_
      refine lv_goto (tgt := 30) hx hb dX7_ticksOf_26 (by decide) ?_
      obtain ⟨r12, h13, h⟩ := x_bnd h
      refine x_aci hI (x_runV (rest := []) F hI (mX7_refused l X σ _ u (2 : Int32) r12 h13) g_X7_97 ⟨rfl, hd_X7_refused⟩ ⟨by decide, by decide⟩ ⟨rfl, rfl⟩ (x_inO (by decide)) rfl rfl rfl rfl hl.1 rfl (Nat.le_of_ble_eq_true rfl) dX7_ticksOf_30 ⟨Nat.zero_le _, Nat.zero_le _⟩) (fun H locs hI => ?_)
      refine lv_if_eq (tgt := 40) hx hb dX7_ticksOf_33 (by decide) (fun c14 => ?_) (fun c14 => ?_)
      · have h := x_ift h c14
        refine lv_aload_n hx hb dX7_ticksOf_40 rfl (lv_at hl 1 rfl) ?_
        refine lv_iload_n hx hb dX7_ticksOf_41 rfl (lv_at hl 2 rfl) ?_
        obtain ⟨r15, h16, h⟩ := x_bnd h
        refine x_aci hI (x_runV (rest := []) F hI (mX7_leftOf l X σ _ r12.2 a1 r15 h16) g_X7_209 ⟨rfl, hd_X7_leftOf⟩ ⟨by decide, by decide⟩ ⟨rfl, rfl⟩ (x_inO (by decide)) rfl rfl rfl rfl hl.1 rfl (Nat.le_of_ble_eq_true rfl) dX7_ticksOf_42 ⟨Nat.zero_le _, Nat.zero_le _⟩) (fun H locs hI => ?_)
        rw [x_some h]
        exact x_iret F hI dX7_ticksOf_45
      · have h := x_iff h c14
        refine lv_iconst (v := 0) hx hb dX7_ticksOf_36 (by decide) ?_
        refine lv_goto (tgt := 45) hx hb dX7_ticksOf_37 (by decide) ?_
        rw [x_some h]
        exact x_iret F hI dX7_ticksOf_45
  · have h := x_ift h c3
    refine lv_iconst (v := 1) hx hb dX7_ticksOf_10 (by decide) ?_
    refine lv_goto (tgt := 30) hx hb dX7_ticksOf_11 (by decide) ?_
    obtain ⟨r4, h5, h⟩ := x_bnd h
    refine x_aci hI (x_runV (rest := []) F hI (mX7_refused l X σ _ u (1 : Int32) r4 h5) g_X7_97 ⟨rfl, hd_X7_refused⟩ ⟨by decide, by decide⟩ ⟨rfl, rfl⟩ (x_inO (by decide)) rfl rfl rfl rfl hl.1 rfl (Nat.le_of_ble_eq_true rfl) dX7_ticksOf_30 ⟨Nat.zero_le _, Nat.zero_le _⟩) (fun H locs hI => ?_)
    refine lv_if_eq (tgt := 40) hx hb dX7_ticksOf_33 (by decide) (fun c6 => ?_) (fun c6 => ?_)
    · have h := x_ift h c6
      refine lv_aload_n hx hb dX7_ticksOf_40 rfl (lv_at hl 1 rfl) ?_
      refine lv_iload_n hx hb dX7_ticksOf_41 rfl (lv_at hl 2 rfl) ?_
      obtain ⟨r7, h8, h⟩ := x_bnd h
      refine x_aci hI (x_runV (rest := []) F hI (mX7_leftOf l X σ _ r4.2 a1 r7 h8) g_X7_209 ⟨rfl, hd_X7_leftOf⟩ ⟨by decide, by decide⟩ ⟨rfl, rfl⟩ (x_inO (by decide)) rfl rfl rfl rfl hl.1 rfl (Nat.le_of_ble_eq_true rfl) dX7_ticksOf_42 ⟨Nat.zero_le _, Nat.zero_le _⟩) (fun H locs hI => ?_)
      rw [x_some h]
      exact x_iret F hI dX7_ticksOf_45
    · have h := x_iff h c6
      refine lv_iconst (v := 0) hx hb dX7_ticksOf_36 (by decide) ?_
      refine lv_goto (tgt := 45) hx hb dX7_ticksOf_37 (by decide) ?_
      rw [x_some h]
      exact x_iret F hI dX7_ticksOf_45
abbrev rm_X7_reservedFor : Room := { frames := 2, cells := 0, slots := 0, locals := 45 }
def fX7_reservedFor_j36 (u : x_H) (y1 : Int32) (z0 : Int32) : Option (Int32 × x_H) := (Option.bind (fX7_refused u z0) fun r6 => (if r6.1 = 0 then (if x_in (((96 : Int32) + ((6 : Int32) * y1)) + (4 : Int32)) 570 then some (((r6.2 41 (Int32.toNatClampNeg (((96 : Int32) + ((6 : Int32) * y1)) + (4 : Int32)))) - (1 : Int32)), r6.2) else none) else some ((0 : Int32), r6.2)))
set_option maxHeartbeats 4000000 in
set_option maxRecDepth 100000 in
theorem wX7_reservedFor_j36 {p : Program} {l : Launch} {e : Env} {s : State} {m : MethodId} {args : Array Value} {below : List Frame} {meth : Method} {c : Code} {X : x_T} {σ : x_S} {r : (Int32 × x_H)} (F : x_F p s m args meth c cX7_reservedFor 3 RX7 (some .int)) (u : x_H) (y1 : Int32) (z0 : Int32) (H : Heap) (locs : List Loc) (ls : Array Slot) (h : fX7_reservedFor_j36 u y1 z0 = some r) (hI : x_I X (x_sh σ 11 u) s H locs) (hl : lv_has ls 3 [(0, .ref (X.2.2 11 40)), (1, .int y1)]) : W p l e rm_X7_reservedFor s m args below meth c H locs 0 0 (MQ below (x_Qi X r.1 (x_sh σ 11 r.2) s.heap.size) args s 0 0 (x_A X s.heap.size)) (F0 m 36 ls [.int z0, .ref (X.2.2 11 40)]) := by
  have hx := F.1
  have hb := F.2.1
  have hml := F.2.2.1
  have hown := F.2.2.2.1
  have hts := F.2.2.2.2.1
  unfold fX7_reservedFor_j36 at h
  obtain ⟨r6, h7, h⟩ := x_bnd h
  refine x_aci hI (x_runV (rest := []) F hI (mX7_refused l X σ _ u z0 r6 h7) g_X7_97 ⟨rfl, hd_X7_refused⟩ ⟨by decide, by decide⟩ ⟨rfl, rfl⟩ (x_inO (by decide)) rfl rfl rfl rfl hl.1 rfl (Nat.le_of_ble_eq_true rfl) dX7_reservedFor_36 ⟨Nat.zero_le _, Nat.zero_le _⟩) (fun H locs hI => ?_)
  refine lv_if_eq (tgt := 46) hx hb dX7_reservedFor_39 (by decide) (fun c8 => ?_) (fun c8 => ?_)
  · have h := x_ift h c8
    refine lv_aload_n hx hb dX7_reservedFor_46 rfl (lv_at hl 0 rfl) ?_
    refine xg_7_1 F hI (x_inO (by decide)) u_fl_X7_7 dX7_reservedFor_47 ?_
    refine lv_bipush (v := 96) hx hb dX7_reservedFor_50 (by decide) ?_
    refine lv_bipush (v := 6) hx hb dX7_reservedFor_52 (by decide) ?_
    refine lv_iload_n hx hb dX7_reservedFor_54 rfl (lv_at hl 1 rfl) ?_
    refine lv_imul hx hb dX7_reservedFor_55 ?_
    refine lv_iadd hx hb dX7_reservedFor_56 ?_
    refine lv_iconst (v := 4) hx hb dX7_reservedFor_57 (by decide) ?_
    refine lv_iadd hx hb dX7_reservedFor_58 ?_
    obtain ⟨g9, h⟩ := x_chk h
    refine xh_iald (n := 570) F hI (x_inO (by decide)) (fun _ => rfl) g9 dX7_reservedFor_59 ?_
    refine lv_iconst (v := 1) hx hb dX7_reservedFor_60 (by decide) ?_
    refine lv_isub hx hb dX7_reservedFor_61 ?_
    rw [x_some h]
    exact x_iret F hI dX7_reservedFor_62
  · have h := x_iff h c8
    refine lv_iconst (v := 0) hx hb dX7_reservedFor_42 (by decide) ?_
    refine lv_goto (tgt := 62) hx hb dX7_reservedFor_43 (by decide) ?_
    rw [x_some h]
    exact x_iret F hI dX7_reservedFor_62
def fX7_reservedFor (u : x_H) (a1 : Int32) : Option (Int32 × x_H) := (Option.bind (fX7_isRoom a1) fun r1 => (if r1 = 0 then fX7_reservedFor_j36 u a1 (1 : Int32) else (if x_in (((96 : Int32) + ((6 : Int32) * a1)) + (4 : Int32)) 570 then (if (u 41 (Int32.toNatClampNeg (((96 : Int32) + ((6 : Int32) * a1)) + (4 : Int32)))) = 0 then fX7_reservedFor_j36 u a1 (2 : Int32) else fX7_reservedFor_j36 u a1 (0 : Int32)) else none)))
set_option maxHeartbeats 4000000 in
set_option maxRecDepth 100000 in
theorem mX7_reservedFor (l : Launch) (X : x_T) (σ : x_S) (sz : Nat) (u : x_H) (a1 : Int32) (r : (Int32 × x_H)) (h : fX7_reservedFor u a1 = some r) : Met l yX7_reservedFor (x_ws yX7_reservedFor cX7_reservedFor 3 (some .int)) rm_X7_reservedFor (x_Pc X (x_sh σ 11 u) sz [.ref (X.2.2 11 40), .int a1]) (x_Qi X r.1 (x_sh σ 11 r.2) sz) 0 0 (x_A X sz) := by
  refine Met.ofW (cc := cX7_reservedFor) (maxL := 3) (ret := (some .int)) (by decide) rfl ?_
  intro p e s m args below meth c s₁ B hml hv
  obtain ⟨F, hI, rfl, rfl⟩ := x_begin B hml hv
  replace F : x_F p s m _ meth c cX7_reservedFor 3 RX7 (some .int) := F
  have hx := F.1
  have hb := F.2.1
  have hml := F.2.2.1
  have hown := F.2.2.2.1
  have hts := F.2.2.2.2.1
  refine x_entry (vs := [.ref (X.2.2 11 40), .int a1]) (n := 3) (Nat.le_of_ble_eq_true rfl) (fun ls hl => ?_)
  replace hl : lv_has ls 3 [(0, .ref (X.2.2 11 40)), (1, .int a1)] := hl
  unfold fX7_reservedFor at h
  refine lv_iload_n hx hb dX7_reservedFor_0 rfl (lv_at hl 1 rfl) ?_
  obtain ⟨r1, h2, h⟩ := x_bnd h
  refine x_aci hI (x_runS (rest := []) F hI (mX7_isRoom l X (x_sh σ 11 u) _ a1 r1 h2) g_X7_100 hd_X7_isRoom ⟨by decide, by decide⟩ ⟨rfl, rfl⟩ rfl hl.1 rfl (Nat.le_of_ble_eq_true rfl) dX7_reservedFor_1 ⟨Nat.zero_le _, Nat.zero_le _⟩) (fun H locs hI => ?_)
  refine lv_istore_n (lv' := [(2, .int r1), (0, .ref (X.2.2 11 40)), (1, .int a1)]) hx hb dX7_reservedFor_4 rfl hl (by decide) rfl (fun ls hl => ?_)
  refine lv_aload_n hx hb dX7_reservedFor_5 rfl (lv_at hl 1 rfl) ?_
  refine lv_iload_n hx hb dX7_reservedFor_6 rfl (lv_at hl 0 rfl) ?_
  refine lv_if_ne (tgt := 14) hx hb dX7_reservedFor_7 (by decide) (fun c3 => ?_) (fun c3 => ?_)
  · have h := x_iff h c3
    refine lv_aload_n hx hb dX7_reservedFor_14 rfl (lv_at hl 1 rfl) ?_
    refine xg_7_1 F hI (x_inO (by decide)) u_fl_X7_7 dX7_reservedFor_15 ?_
    refine lv_bipush (v := 96) hx hb dX7_reservedFor_18 (by decide) ?_
    refine lv_bipush (v := 6) hx hb dX7_reservedFor_20 (by decide) ?_
    refine lv_iload_n hx hb dX7_reservedFor_22 rfl (lv_at hl 2 rfl) ?_
    refine lv_imul hx hb dX7_reservedFor_23 ?_
    refine lv_iadd hx hb dX7_reservedFor_24 ?_
    refine lv_iconst (v := 4) hx hb dX7_reservedFor_25 (by decide) ?_
    refine lv_iadd hx hb dX7_reservedFor_26 ?_
    obtain ⟨g4, h⟩ := x_chk h
    refine xh_iald (n := 570) F hI (x_inO (by decide)) (fun _ => rfl) g4 dX7_reservedFor_27 ?_
    refine lv_if_ne (tgt := 35) hx hb dX7_reservedFor_28 (by decide) (fun c5 => ?_) (fun c5 => ?_)
    · have h := x_iff h c5
      refine lv_iconst (v := 0) hx hb dX7_reservedFor_35 (by decide) ?_
      exact wX7_reservedFor_j36 F u a1 (0 : Int32) _ _ _ h hI (lv_sub hl [1, 2] rfl)
    · have h := x_ift h c5
      refine lv_iconst (v := 2) hx hb dX7_reservedFor_31 (by decide) ?_
      refine lv_goto (tgt := 36) hx hb dX7_reservedFor_32 (by decide) ?_
      exact wX7_reservedFor_j36 F u a1 (2 : Int32) _ _ _ h hI (lv_sub hl [1, 2] rfl)
  · have h := x_ift h c3
    refine lv_iconst (v := 1) hx hb dX7_reservedFor_10 (by decide) ?_
    refine lv_goto (tgt := 36) hx hb dX7_reservedFor_11 (by decide) ?_
    exact wX7_reservedFor_j36 F u a1 (1 : Int32) _ _ _ h hI (lv_sub hl [1, 2] rfl)
abbrev rm_X7_hasGhost : Room := { frames := 3, cells := 0, slots := 0, locals := 66 }
def fX7_hasGhost (u : x_H) (a1 : Int32) : Option (Int32 × x_H) := (Option.bind (fX7_noRoom u a1) fun r1 => (if r1.1 = 0 then (if x_in (((96 : Int32) + ((6 : Int32) * a1)) + (5 : Int32)) 570 then (if (r1.2 41 (Int32.toNatClampNeg (((96 : Int32) + ((6 : Int32) * a1)) + (5 : Int32)))) = (1 : Int32) then some ((1 : Int32), r1.2) else some ((0 : Int32), r1.2)) else none) else some ((0 : Int32), r1.2)))
set_option maxHeartbeats 4000000 in
set_option maxRecDepth 100000 in
theorem mX7_hasGhost (l : Launch) (X : x_T) (σ : x_S) (sz : Nat) (u : x_H) (a1 : Int32) (r : (Int32 × x_H)) (h : fX7_hasGhost u a1 = some r) : Met l yX7_hasGhost (x_ws yX7_hasGhost cX7_hasGhost 2 (some .boolean)) rm_X7_hasGhost (x_Pc X (x_sh σ 11 u) sz [.ref (X.2.2 11 40), .int a1]) (x_Qi X r.1 (x_sh σ 11 r.2) sz) 0 0 (x_A X sz) := by
  refine Met.ofW (cc := cX7_hasGhost) (maxL := 2) (ret := (some .boolean)) (by decide) rfl ?_
  intro p e s m args below meth c s₁ B hml hv
  obtain ⟨F, hI, rfl, rfl⟩ := x_begin B hml hv
  replace F : x_F p s m _ meth c cX7_hasGhost 2 RX7 (some .boolean) := F
  have hx := F.1
  have hb := F.2.1
  have hml := F.2.2.1
  have hown := F.2.2.2.1
  have hts := F.2.2.2.2.1
  refine x_entry (vs := [.ref (X.2.2 11 40), .int a1]) (n := 2) (Nat.le_of_ble_eq_true rfl) (fun ls hl => ?_)
  replace hl : lv_has ls 2 [(0, .ref (X.2.2 11 40)), (1, .int a1)] := hl
  unfold fX7_hasGhost at h
  refine lv_aload_n hx hb dX7_hasGhost_0 rfl (lv_at hl 0 rfl) ?_
  refine lv_iload_n hx hb dX7_hasGhost_1 rfl (lv_at hl 1 rfl) ?_
  obtain ⟨r1, h2, h⟩ := x_bnd h
  refine x_aci hI (x_runV (rest := []) F hI (mX7_noRoom l X σ _ u a1 r1 h2) g_X7_121 ⟨rfl, hd_X7_noRoom⟩ ⟨by decide, by decide⟩ ⟨rfl, rfl⟩ (x_inO (by decide)) rfl rfl rfl rfl hl.1 rfl (Nat.le_of_ble_eq_true rfl) dX7_hasGhost_2 ⟨Nat.zero_le _, Nat.zero_le _⟩) (fun H locs hI => ?_)
  refine lv_if_ne (tgt := 30) hx hb dX7_hasGhost_5 (by decide) (fun c3 => ?_) (fun c3 => ?_)
  · have h := x_iff h c3
    refine lv_iconst (v := 0) hx hb dX7_hasGhost_30 (by decide) ?_
    rw [x_some h]
    exact x_zret (v := 0) F hI (by decide) dX7_hasGhost_31
  · have h := x_ift h c3
    refine lv_aload_n hx hb dX7_hasGhost_8 rfl (lv_at hl 0 rfl) ?_
    refine xg_7_1 F hI (x_inO (by decide)) u_fl_X7_7 dX7_hasGhost_9 ?_
    refine lv_bipush (v := 96) hx hb dX7_hasGhost_12 (by decide) ?_
    refine lv_bipush (v := 6) hx hb dX7_hasGhost_14 (by decide) ?_
    refine lv_iload_n hx hb dX7_hasGhost_16 rfl (lv_at hl 1 rfl) ?_
    refine lv_imul hx hb dX7_hasGhost_17 ?_
    refine lv_iadd hx hb dX7_hasGhost_18 ?_
    refine lv_iconst (v := 5) hx hb dX7_hasGhost_19 (by decide) ?_
    refine lv_iadd hx hb dX7_hasGhost_20 ?_
    obtain ⟨g4, h⟩ := x_chk h
    refine xh_iald (n := 570) F hI (x_inO (by decide)) (fun _ => rfl) g4 dX7_hasGhost_21 ?_
    refine lv_iconst (v := 1) hx hb dX7_hasGhost_22 (by decide) ?_
    refine lv_icmp_ne (tgt := 30) hx hb dX7_hasGhost_23 (by decide) (fun c5 => ?_) (fun c5 => ?_)
    · have h := x_iff h c5
      refine lv_iconst (v := 0) hx hb dX7_hasGhost_30 (by decide) ?_
      rw [x_some h]
      exact x_zret (v := 0) F hI (by decide) dX7_hasGhost_31
    · have h := x_ift h c5
      refine lv_iconst (v := 1) hx hb dX7_hasGhost_26 (by decide) ?_
      refine lv_goto (tgt := 31) hx hb dX7_hasGhost_27 (by decide) ?_
      rw [x_some h]
      exact x_zret (v := 1) F hI (by decide) dX7_hasGhost_31
abbrev rm_X7_roomFor : Room := { frames := 3, cells := 0, slots := 0, locals := 70 }
def fX7_roomFor (u : x_H) (a1 : Int32) : Option (Int32 × x_H) := (Option.bind (fX7_isGuest a1) fun r1 => (if r1 = 0 then (Option.bind (fX7_refused u (1 : Int32)) fun r4 => (if r4.1 = 0 then (Option.bind (fX7_choice (r4.2 41) a1) fun r7 => some (r7, r4.2)) else some ((0 : Int32), r4.2))) else (Option.bind (fX7_choice (u 41) a1) fun r9 => (if r9 = (-1 : Int32) then (Option.bind (fX7_refused u (2 : Int32)) fun r12 => (if r12.1 = 0 then (Option.bind (fX7_choice (r12.2 41) a1) fun r15 => some (r15, r12.2)) else some ((0 : Int32), r12.2))) else (Option.bind (fX7_refused u (0 : Int32)) fun r17 => (if r17.1 = 0 then (Option.bind (fX7_choice (r17.2 41) a1) fun r20 => some (r20, r17.2)) else some ((0 : Int32), r17.2)))))))
set_option maxHeartbeats 4000000 in
set_option maxRecDepth 100000 in
theorem mX7_roomFor (l : Launch) (X : x_T) (σ : x_S) (sz : Nat) (u : x_H) (a1 : Int32) (r : (Int32 × x_H)) (h : fX7_roomFor u a1 = some r) : Met l yX7_roomFor (x_ws yX7_roomFor cX7_roomFor 3 (some .int)) rm_X7_roomFor (x_Pc X (x_sh σ 11 u) sz [.ref (X.2.2 11 40), .int a1]) (x_Qi X r.1 (x_sh σ 11 r.2) sz) 0 0 (x_A X sz) := by
  refine Met.ofW (cc := cX7_roomFor) (maxL := 3) (ret := (some .int)) (by decide) rfl ?_
  intro p e s m args below meth c s₁ B hml hv
  obtain ⟨F, hI, rfl, rfl⟩ := x_begin B hml hv
  replace F : x_F p s m _ meth c cX7_roomFor 3 RX7 (some .int) := F
  have hx := F.1
  have hb := F.2.1
  have hml := F.2.2.1
  have hown := F.2.2.2.1
  have hts := F.2.2.2.2.1
  refine x_entry (vs := [.ref (X.2.2 11 40), .int a1]) (n := 3) (Nat.le_of_ble_eq_true rfl) (fun ls hl => ?_)
  replace hl : lv_has ls 3 [(0, .ref (X.2.2 11 40)), (1, .int a1)] := hl
  unfold fX7_roomFor at h
  refine lv_iload_n hx hb dX7_roomFor_0 rfl (lv_at hl 1 rfl) ?_
  obtain ⟨r1, h2, h⟩ := x_bnd h
  refine x_aci hI (x_runS (rest := []) F hI (mX7_isGuest l X (x_sh σ 11 u) _ a1 r1 h2) g_X7_93 hd_X7_isGuest ⟨by decide, by decide⟩ ⟨rfl, rfl⟩ rfl hl.1 rfl (Nat.le_of_ble_eq_true rfl) dX7_roomFor_1 ⟨Nat.zero_le _, Nat.zero_le _⟩) (fun H locs hI => ?_)
  refine lv_istore_n (lv' := [(2, .int r1), (0, .ref (X.2.2 11 40)), (1, .int a1)]) hx hb dX7_roomFor_4 rfl hl (by decide) rfl (fun ls hl => ?_)
  refine lv_aload_n hx hb dX7_roomFor_5 rfl (lv_at hl 1 rfl) ?_
  refine lv_iload_n hx hb dX7_roomFor_6 rfl (lv_at hl 0 rfl) ?_
  refine lv_if_ne (tgt := 14) hx hb dX7_roomFor_7 (by decide) (fun c3 => ?_) (fun c3 => ?_)
  · have h := x_iff h c3
    refine lv_aload_n hx hb dX7_roomFor_14 rfl (lv_at hl 1 rfl) ?_
    refine xg_7_1 F hI (x_inO (by decide)) u_fl_X7_7 dX7_roomFor_15 ?_
    refine lv_iload_n hx hb dX7_roomFor_18 rfl (lv_at hl 2 rfl) ?_
    obtain ⟨r9, h10, h⟩ := x_bnd h
    have hI := x_toV 41 hI
    refine x_aci hI (x_runS (rest := [.ref (X.2.2 11 40)]) F hI (mX7_choice l X σ u 41 (x_inO (by decide)) (fun _ => rfl) _ (u 41) a1 r9 h10) g_X7_53 hd_X7_choice ⟨by decide, by decide⟩ ⟨rfl, rfl⟩ rfl hl.1 rfl (Nat.le_of_ble_eq_true rfl) dX7_roomFor_19 ⟨Nat.zero_le _, Nat.zero_le _⟩) (fun H locs hI => ?_)
    rw [x_hs_self] at hI
    refine lv_iconst (v := (-1)) hx hb dX7_roomFor_22 (by decide) ?_
    refine lv_icmp_ne (tgt := 30) hx hb dX7_roomFor_23 (by decide) (fun c11 => ?_) (fun c11 => ?_)
    · have h := x_iff h c11
      refine lv_iconst (v := 0) hx hb dX7_roomFor_30 (by decide) ?_
      obtain ⟨r17, h18, h⟩ := x_bnd h
      refine x_aci hI (x_runV (rest := []) F hI (mX7_refused l X σ _ u (0 : Int32) r17 h18) g_X7_97 ⟨rfl, hd_X7_refused⟩ ⟨by decide, by decide⟩ ⟨rfl, rfl⟩ (x_inO (by decide)) rfl rfl rfl rfl hl.1 rfl (Nat.le_of_ble_eq_true rfl) dX7_roomFor_31 ⟨Nat.zero_le _, Nat.zero_le _⟩) (fun H locs hI => ?_)
      refine lv_if_eq (tgt := 41) hx hb dX7_roomFor_34 (by decide) (fun c19 => ?_) (fun c19 => ?_)
      · have h := x_ift h c19
        refine lv_aload_n hx hb dX7_roomFor_41 rfl (lv_at hl 1 rfl) ?_
        refine xg_7_1 F hI (x_inO (by decide)) u_fl_X7_7 dX7_roomFor_42 ?_
        refine lv_iload_n hx hb dX7_roomFor_45 rfl (lv_at hl 2 rfl) ?_
        obtain ⟨r20, h21, h⟩ := x_bnd h
        have hI := x_toV 41 hI
        refine x_aci hI (x_runS (rest := []) F hI (mX7_choice l X σ r17.2 41 (x_inO (by decide)) (fun _ => rfl) _ (r17.2 41) a1 r20 h21) g_X7_53 hd_X7_choice ⟨by decide, by decide⟩ ⟨rfl, rfl⟩ rfl hl.1 rfl (Nat.le_of_ble_eq_true rfl) dX7_roomFor_46 ⟨Nat.zero_le _, Nat.zero_le _⟩) (fun H locs hI => ?_)
        rw [x_hs_self] at hI
        rw [x_some h]
        exact x_iret F hI dX7_roomFor_49
      · have h := x_iff h c19
        refine lv_iconst (v := 0) hx hb dX7_roomFor_37 (by decide) ?_
        refine lv_goto (tgt := 49) hx hb dX7_roomFor_38 (by decide) ?_
        rw [x_some h]
        exact x_iret F hI dX7_roomFor_49
    · have h := x_ift h c11
      refine lv_iconst (v := 2) hx hb dX7_roomFor_26 (by decide) ?_
      refine lv_goto (tgt := 31) hx hb dX7_roomFor_27 (by decide) ?_
      obtain ⟨r12, h13, h⟩ := x_bnd h
      refine x_aci hI (x_runV (rest := []) F hI (mX7_refused l X σ _ u (2 : Int32) r12 h13) g_X7_97 ⟨rfl, hd_X7_refused⟩ ⟨by decide, by decide⟩ ⟨rfl, rfl⟩ (x_inO (by decide)) rfl rfl rfl rfl hl.1 rfl (Nat.le_of_ble_eq_true rfl) dX7_roomFor_31 ⟨Nat.zero_le _, Nat.zero_le _⟩) (fun H locs hI => ?_)
      refine lv_if_eq (tgt := 41) hx hb dX7_roomFor_34 (by decide) (fun c14 => ?_) (fun c14 => ?_)
      · have h := x_ift h c14
        refine lv_aload_n hx hb dX7_roomFor_41 rfl (lv_at hl 1 rfl) ?_
        refine xg_7_1 F hI (x_inO (by decide)) u_fl_X7_7 dX7_roomFor_42 ?_
        refine lv_iload_n hx hb dX7_roomFor_45 rfl (lv_at hl 2 rfl) ?_
        obtain ⟨r15, h16, h⟩ := x_bnd h
        have hI := x_toV 41 hI
        refine x_aci hI (x_runS (rest := []) F hI (mX7_choice l X σ r12.2 41 (x_inO (by decide)) (fun _ => rfl) _ (r12.2 41) a1 r15 h16) g_X7_53 hd_X7_choice ⟨by decide, by decide⟩ ⟨rfl, rfl⟩ rfl hl.1 rfl (Nat.le_of_ble_eq_true rfl) dX7_roomFor_46 ⟨Nat.zero_le _, Nat.zero_le _⟩) (fun H locs hI => ?_)
        rw [x_hs_self] at hI
        rw [x_some h]
        exact x_iret F hI dX7_roomFor_49
      · have h := x_iff h c14
        refine lv_iconst (v := 0) hx hb dX7_roomFor_37 (by decide) ?_
        refine lv_goto (tgt := 49) hx hb dX7_roomFor_38 (by decide) ?_
        rw [x_some h]
        exact x_iret F hI dX7_roomFor_49
  · have h := x_ift h c3
    refine lv_iconst (v := 1) hx hb dX7_roomFor_10 (by decide) ?_
    refine lv_goto (tgt := 31) hx hb dX7_roomFor_11 (by decide) ?_
    obtain ⟨r4, h5, h⟩ := x_bnd h
    refine x_aci hI (x_runV (rest := []) F hI (mX7_refused l X σ _ u (1 : Int32) r4 h5) g_X7_97 ⟨rfl, hd_X7_refused⟩ ⟨by decide, by decide⟩ ⟨rfl, rfl⟩ (x_inO (by decide)) rfl rfl rfl rfl hl.1 rfl (Nat.le_of_ble_eq_true rfl) dX7_roomFor_31 ⟨Nat.zero_le _, Nat.zero_le _⟩) (fun H locs hI => ?_)
    refine lv_if_eq (tgt := 41) hx hb dX7_roomFor_34 (by decide) (fun c6 => ?_) (fun c6 => ?_)
    · have h := x_ift h c6
      refine lv_aload_n hx hb dX7_roomFor_41 rfl (lv_at hl 1 rfl) ?_
      refine xg_7_1 F hI (x_inO (by decide)) u_fl_X7_7 dX7_roomFor_42 ?_
      refine lv_iload_n hx hb dX7_roomFor_45 rfl (lv_at hl 2 rfl) ?_
      obtain ⟨r7, h8, h⟩ := x_bnd h
      have hI := x_toV 41 hI
      refine x_aci hI (x_runS (rest := []) F hI (mX7_choice l X σ r4.2 41 (x_inO (by decide)) (fun _ => rfl) _ (r4.2 41) a1 r7 h8) g_X7_53 hd_X7_choice ⟨by decide, by decide⟩ ⟨rfl, rfl⟩ rfl hl.1 rfl (Nat.le_of_ble_eq_true rfl) dX7_roomFor_46 ⟨Nat.zero_le _, Nat.zero_le _⟩) (fun H locs hI => ?_)
      rw [x_hs_self] at hI
      rw [x_some h]
      exact x_iret F hI dX7_roomFor_49
    · have h := x_iff h c6
      refine lv_iconst (v := 0) hx hb dX7_roomFor_37 (by decide) ?_
      refine lv_goto (tgt := 49) hx hb dX7_roomFor_38 (by decide) ?_
      rw [x_some h]
      exact x_iret F hI dX7_roomFor_49
abbrev rm_X7_rooms : Room := { frames := 1, cells := 0, slots := 0, locals := 21 }
def fX7_rooms_b4 : Nat → x_H → Int32 → Int32 → Int32 → Option Int32
  | 0, _, _, _, _ => none
  | n + 1, u, y1, y2, y3 => (if (16 : Int32) ≤ y3 then some (y2) else (Option.bind (fX7_state (u 41) y3) fun r2 => (if r2 = y1 then x_let (y2 + (1 : Int32)) fun x5 => x_let (y3 + (1 : Int32)) fun x7 => fX7_rooms_b4 n u y1 x5 x7 else x_let (y2 + (0 : Int32)) fun x9 => x_let (y3 + (1 : Int32)) fun x11 => fX7_rooms_b4 n u y1 x9 x11)))
set_option maxHeartbeats 4000000 in
set_option maxRecDepth 100000 in
theorem wX7_rooms_b4 {p : Program} {l : Launch} {e : Env} {s : State} {m : MethodId} {args : Array Value} {below : List Frame} {meth : Method} {c : Code} {X : x_T} {σ : x_S} {r : Int32} (F : x_F p s m args meth c cX7_rooms 4 RX7 (some .int)) : ∀ (n : Nat) (u : x_H) (y1 : Int32) (y2 : Int32) (y3 : Int32) (H : Heap) (locs : List Loc) (ls : Array Slot), fX7_rooms_b4 n u y1 y2 y3 = some r → x_I X (x_sh σ 11 u) s H locs → lv_has ls 4 [(0, .ref (X.2.2 11 40)), (1, .int y1), (2, .int y2), (3, .int y3)] → W p l e rm_X7_rooms s m args below meth c H locs 0 0 (MQ below (x_Qi X r (x_sh σ 11 u) s.heap.size) args s 0 0 (x_A X s.heap.size)) (F0 m 4 ls []) := by
  have hx := F.1
  have hb := F.2.1
  have hml := F.2.2.1
  have hown := F.2.2.2.1
  have hts := F.2.2.2.2.1
  intro n
  induction n with
  | zero =>
    intro u y1 y2 y3 H locs ls h
    rw [fX7_rooms_b4] at h
    cases h
  | succ n ih =>
    intro u y1 y2 y3 H locs ls h hI hl
    rw [fX7_rooms_b4] at h
    refine lv_iload_n hx hb dX7_rooms_4 rfl (lv_at hl 3 rfl) ?_
    refine lv_bipush (v := 16) hx hb dX7_rooms_5 (by decide) ?_
    refine lv_icmp_ge (tgt := 36) hx hb dX7_rooms_7 (by decide) (fun c1 => ?_) (fun c1 => ?_)
    · have h := x_ift h c1
      refine lv_iload_n hx hb dX7_rooms_36 rfl (lv_at hl 2 rfl) ?_
      rw [x_some h]
      exact x_iret F hI dX7_rooms_37
    · have h := x_iff h c1
      refine lv_iload_n hx hb dX7_rooms_10 rfl (lv_at hl 2 rfl) ?_
      refine lv_aload_n hx hb dX7_rooms_11 rfl (lv_at hl 0 rfl) ?_
      refine xg_7_1 F hI (x_inO (by decide)) u_fl_X7_7 dX7_rooms_12 ?_
      refine lv_iload_n hx hb dX7_rooms_15 rfl (lv_at hl 3 rfl) ?_
      obtain ⟨r2, h3, h⟩ := x_bnd h
      have hI := x_toV 41 hI
      refine x_aci hI (x_runS (rest := [.int y2]) F hI (mX7_state l X σ u 41 (x_inO (by decide)) (fun _ => rfl) _ (u 41) y3 r2 h3) g_X7_41 hd_X7_state ⟨by decide, by decide⟩ ⟨rfl, rfl⟩ rfl hl.1 rfl (Nat.le_of_ble_eq_true rfl) dX7_rooms_16 ⟨Nat.zero_le _, Nat.zero_le _⟩) (fun H locs hI => ?_)
      rw [x_hs_self] at hI
      refine lv_iload_n hx hb dX7_rooms_19 rfl (lv_at hl 1 rfl) ?_
      refine lv_icmp_ne (tgt := 27) hx hb dX7_rooms_20 (by decide) (fun c4 => ?_) (fun c4 => ?_)
      · have h := x_iff h c4
        refine lv_iconst (v := 0) hx hb dX7_rooms_27 (by decide) ?_
        refine lv_iadd hx hb dX7_rooms_28 ?_
        refine lv_topi (fun x9 e10 => ?_)
        have h := x_let_at h e10
        refine lv_istore_n (lv' := [(2, .int x9), (0, .ref (X.2.2 11 40)), (1, .int y1), (3, .int y3)]) hx hb dX7_rooms_29 rfl hl (by decide) rfl (fun ls hl => ?_)
        obtain ⟨x11, e12⟩ : ∃ z : Int32, z = (y3 + (1 : Int32)) := ⟨_, rfl⟩
        have h := x_let_at h e12
        refine lv_iinc (v := x11) (lv' := [(3, .int x11), (2, .int x9), (0, .ref (X.2.2 11 40)), (1, .int y1)]) hx hb dX7_rooms_30 hl (k := 3) rfl (by rw [e12]; rfl) (by decide) rfl (fun ls hl => ?_)
        refine lv_goto (tgt := 4) hx hb dX7_rooms_33 (by decide) ?_
        exact ih u y1 x9 x11 _ _ _ h hI (lv_sub hl [2, 3, 1, 0] rfl)
      · have h := x_ift h c4
        refine lv_iconst (v := 1) hx hb dX7_rooms_23 (by decide) ?_
        refine lv_goto (tgt := 28) hx hb dX7_rooms_24 (by decide) ?_
        refine lv_iadd hx hb dX7_rooms_28 ?_
        refine lv_topi (fun x5 e6 => ?_)
        have h := x_let_at h e6
        refine lv_istore_n (lv' := [(2, .int x5), (0, .ref (X.2.2 11 40)), (1, .int y1), (3, .int y3)]) hx hb dX7_rooms_29 rfl hl (by decide) rfl (fun ls hl => ?_)
        obtain ⟨x7, e8⟩ : ∃ z : Int32, z = (y3 + (1 : Int32)) := ⟨_, rfl⟩
        have h := x_let_at h e8
        refine lv_iinc (v := x7) (lv' := [(3, .int x7), (2, .int x5), (0, .ref (X.2.2 11 40)), (1, .int y1)]) hx hb dX7_rooms_30 hl (k := 3) rfl (by rw [e8]; rfl) (by decide) rfl (fun ls hl => ?_)
        refine lv_goto (tgt := 4) hx hb dX7_rooms_33 (by decide) ?_
        exact ih u y1 x5 x7 _ _ _ h hI (lv_sub hl [2, 3, 1, 0] rfl)
def fX7_rooms (u : x_H) (a1 : Int32) : Option Int32 := fX7_rooms_b4 400 u a1 (0 : Int32) (0 : Int32)
set_option maxHeartbeats 4000000 in
set_option maxRecDepth 100000 in
theorem mX7_rooms (l : Launch) (X : x_T) (σ : x_S) (sz : Nat) (u : x_H) (a1 : Int32) (r : Int32) (h : fX7_rooms u a1 = some r) : Met l yX7_rooms (x_ws yX7_rooms cX7_rooms 4 (some .int)) rm_X7_rooms (x_Pc X (x_sh σ 11 u) sz [.ref (X.2.2 11 40), .int a1]) (x_Qi X r (x_sh σ 11 u) sz) 0 0 (x_A X sz) := by
  refine Met.ofW (cc := cX7_rooms) (maxL := 4) (ret := (some .int)) (by decide) rfl ?_
  intro p e s m args below meth c s₁ B hml hv
  obtain ⟨F, hI, rfl, rfl⟩ := x_begin B hml hv
  replace F : x_F p s m _ meth c cX7_rooms 4 RX7 (some .int) := F
  have hx := F.1
  have hb := F.2.1
  have hml := F.2.2.1
  have hown := F.2.2.2.1
  have hts := F.2.2.2.2.1
  refine x_entry (vs := [.ref (X.2.2 11 40), .int a1]) (n := 4) (Nat.le_of_ble_eq_true rfl) (fun ls hl => ?_)
  replace hl : lv_has ls 4 [(0, .ref (X.2.2 11 40)), (1, .int a1)] := hl
  unfold fX7_rooms at h
  refine lv_iconst (v := 0) hx hb dX7_rooms_0 (by decide) ?_
  refine lv_istore_n (lv' := [(2, .int (0)), (0, .ref (X.2.2 11 40)), (1, .int a1)]) hx hb dX7_rooms_1 rfl hl (by decide) rfl (fun ls hl => ?_)
  refine lv_iconst (v := 0) hx hb dX7_rooms_2 (by decide) ?_
  refine lv_istore_n (lv' := [(3, .int (0)), (2, .int (0)), (0, .ref (X.2.2 11 40)), (1, .int a1)]) hx hb dX7_rooms_3 rfl hl (by decide) rfl (fun ls hl => ?_)
  exact wX7_rooms_b4 F 400 u a1 (0 : Int32) (0 : Int32) _ _ _ h hI (lv_sub hl [2, 3, 1, 0] rfl)
abbrev rm_X7_leasedByRooms : Room := { frames := 2, cells := 0, slots := 0, locals := 44 }
def fX7_leasedByRooms (u : x_H) : Option (Int32 × x_H) := x_let (x_hu u 40 0 (0 : Int32)) fun u1 => (Option.bind (fX7_rooms u1 (2 : Int32)) fun r3 => some (r3, u1))
set_option maxHeartbeats 4000000 in
set_option maxRecDepth 100000 in
theorem mX7_leasedByRooms (l : Launch) (X : x_T) (σ : x_S) (sz : Nat) (u : x_H) (r : (Int32 × x_H)) (h : fX7_leasedByRooms u  = some r) : Met l yX7_leasedByRooms (x_ws yX7_leasedByRooms cX7_leasedByRooms 1 (some .int)) rm_X7_leasedByRooms (x_Pc X (x_sh σ 11 u) sz [.ref (X.2.2 11 40)]) (x_Qi X r.1 (x_sh σ 11 r.2) sz) 0 0 (x_A X sz) := by
  refine Met.ofW (cc := cX7_leasedByRooms) (maxL := 1) (ret := (some .int)) (by decide) rfl ?_
  intro p e s m args below meth c s₁ B hml hv
  obtain ⟨F, hI, rfl, rfl⟩ := x_begin B hml hv
  replace F : x_F p s m _ meth c cX7_leasedByRooms 1 RX7 (some .int) := F
  have hx := F.1
  have hb := F.2.1
  have hml := F.2.2.1
  have hown := F.2.2.2.1
  have hts := F.2.2.2.2.1
  refine x_entry (vs := [.ref (X.2.2 11 40)]) (n := 1) (Nat.le_of_ble_eq_true rfl) (fun ls hl => ?_)
  replace hl : lv_has ls 1 [(0, .ref (X.2.2 11 40))] := hl
  unfold fX7_leasedByRooms at h
  refine lv_aload_n hx hb dX7_leasedByRooms_0 rfl (lv_at hl 0 rfl) ?_
  refine lv_iconst (v := 0) hx hb dX7_leasedByRooms_1 (by decide) ?_
  refine xp_7_0 F hI (x_inO (by decide)) u_fl_X7_29 dX7_leasedByRooms_2 (fun H locs u1 e2 hI => ?_)
  have h := x_let_at h e2
  refine lv_aload_n hx hb dX7_leasedByRooms_5 rfl (lv_at hl 0 rfl) ?_
  refine lv_iconst (v := 2) hx hb dX7_leasedByRooms_6 (by decide) ?_
  obtain ⟨r3, h4, h⟩ := x_bnd h
  refine x_aci hI (x_runV (rest := []) F hI (mX7_rooms l X σ _ u1 (2 : Int32) r3 h4) g_X7_212 ⟨rfl, hd_X7_rooms⟩ ⟨by decide, by decide⟩ ⟨rfl, rfl⟩ (x_inO (by decide)) rfl rfl rfl rfl hl.1 rfl (Nat.le_of_ble_eq_true rfl) dX7_leasedByRooms_7 ⟨Nat.zero_le _, Nat.zero_le _⟩) (fun H locs hI => ?_)
  rw [x_some h]
  exact x_iret F hI dX7_leasedByRooms_10
abbrev rm_X7_leasedByGuests : Room := { frames := 2, cells := 0, slots := 0, locals := 44 }
def fX7_leasedByGuests (u : x_H) : Option (Int32 × x_H) := x_let (x_hu u 40 0 (0 : Int32)) fun u1 => (Option.bind (fX7_rooms u1 (2 : Int32)) fun r3 => some (r3, u1))
set_option maxHeartbeats 4000000 in
set_option maxRecDepth 100000 in
theorem mX7_leasedByGuests (l : Launch) (X : x_T) (σ : x_S) (sz : Nat) (u : x_H) (r : (Int32 × x_H)) (h : fX7_leasedByGuests u  = some r) : Met l yX7_leasedByGuests (x_ws yX7_leasedByGuests cX7_leasedByGuests 1 (some .int)) rm_X7_leasedByGuests (x_Pc X (x_sh σ 11 u) sz [.ref (X.2.2 11 40)]) (x_Qi X r.1 (x_sh σ 11 r.2) sz) 0 0 (x_A X sz) := by
  refine Met.ofW (cc := cX7_leasedByGuests) (maxL := 1) (ret := (some .int)) (by decide) rfl ?_
  intro p e s m args below meth c s₁ B hml hv
  obtain ⟨F, hI, rfl, rfl⟩ := x_begin B hml hv
  replace F : x_F p s m _ meth c cX7_leasedByGuests 1 RX7 (some .int) := F
  have hx := F.1
  have hb := F.2.1
  have hml := F.2.2.1
  have hown := F.2.2.2.1
  have hts := F.2.2.2.2.1
  refine x_entry (vs := [.ref (X.2.2 11 40)]) (n := 1) (Nat.le_of_ble_eq_true rfl) (fun ls hl => ?_)
  replace hl : lv_has ls 1 [(0, .ref (X.2.2 11 40))] := hl
  unfold fX7_leasedByGuests at h
  refine lv_aload_n hx hb dX7_leasedByGuests_0 rfl (lv_at hl 0 rfl) ?_
  refine lv_iconst (v := 0) hx hb dX7_leasedByGuests_1 (by decide) ?_
  refine xp_7_0 F hI (x_inO (by decide)) u_fl_X7_29 dX7_leasedByGuests_2 (fun H locs u1 e2 hI => ?_)
  have h := x_let_at h e2
  refine lv_aload_n hx hb dX7_leasedByGuests_5 rfl (lv_at hl 0 rfl) ?_
  refine lv_iconst (v := 2) hx hb dX7_leasedByGuests_6 (by decide) ?_
  obtain ⟨r3, h4, h⟩ := x_bnd h
  refine x_aci hI (x_runV (rest := []) F hI (mX7_rooms l X σ _ u1 (2 : Int32) r3 h4) g_X7_212 ⟨rfl, hd_X7_rooms⟩ ⟨by decide, by decide⟩ ⟨rfl, rfl⟩ (x_inO (by decide)) rfl rfl rfl rfl hl.1 rfl (Nat.le_of_ble_eq_true rfl) dX7_leasedByGuests_7 ⟨Nat.zero_le _, Nat.zero_le _⟩) (fun H locs hI => ?_)
  rw [x_some h]
  exact x_iret F hI dX7_leasedByGuests_10
abbrev rm_X7_freeRooms : Room := { frames := 2, cells := 0, slots := 0, locals := 44 }
def fX7_freeRooms (u : x_H) : Option (Int32 × x_H) := x_let (x_hu u 40 0 (0 : Int32)) fun u1 => (Option.bind (fX7_rooms u1 (0 : Int32)) fun r3 => some (r3, u1))
set_option maxHeartbeats 4000000 in
set_option maxRecDepth 100000 in
theorem mX7_freeRooms (l : Launch) (X : x_T) (σ : x_S) (sz : Nat) (u : x_H) (r : (Int32 × x_H)) (h : fX7_freeRooms u  = some r) : Met l yX7_freeRooms (x_ws yX7_freeRooms cX7_freeRooms 1 (some .int)) rm_X7_freeRooms (x_Pc X (x_sh σ 11 u) sz [.ref (X.2.2 11 40)]) (x_Qi X r.1 (x_sh σ 11 r.2) sz) 0 0 (x_A X sz) := by
  refine Met.ofW (cc := cX7_freeRooms) (maxL := 1) (ret := (some .int)) (by decide) rfl ?_
  intro p e s m args below meth c s₁ B hml hv
  obtain ⟨F, hI, rfl, rfl⟩ := x_begin B hml hv
  replace F : x_F p s m _ meth c cX7_freeRooms 1 RX7 (some .int) := F
  have hx := F.1
  have hb := F.2.1
  have hml := F.2.2.1
  have hown := F.2.2.2.1
  have hts := F.2.2.2.2.1
  refine x_entry (vs := [.ref (X.2.2 11 40)]) (n := 1) (Nat.le_of_ble_eq_true rfl) (fun ls hl => ?_)
  replace hl : lv_has ls 1 [(0, .ref (X.2.2 11 40))] := hl
  unfold fX7_freeRooms at h
  refine lv_aload_n hx hb dX7_freeRooms_0 rfl (lv_at hl 0 rfl) ?_
  refine lv_iconst (v := 0) hx hb dX7_freeRooms_1 (by decide) ?_
  refine xp_7_0 F hI (x_inO (by decide)) u_fl_X7_29 dX7_freeRooms_2 (fun H locs u1 e2 hI => ?_)
  have h := x_let_at h e2
  refine lv_aload_n hx hb dX7_freeRooms_5 rfl (lv_at hl 0 rfl) ?_
  refine lv_iconst (v := 0) hx hb dX7_freeRooms_6 (by decide) ?_
  obtain ⟨r3, h4, h⟩ := x_bnd h
  refine x_aci hI (x_runV (rest := []) F hI (mX7_rooms l X σ _ u1 (0 : Int32) r3 h4) g_X7_212 ⟨rfl, hd_X7_rooms⟩ ⟨by decide, by decide⟩ ⟨rfl, rfl⟩ (x_inO (by decide)) rfl rfl rfl rfl hl.1 rfl (Nat.le_of_ble_eq_true rfl) dX7_freeRooms_7 ⟨Nat.zero_le _, Nat.zero_le _⟩) (fun H locs hI => ?_)
  rw [x_some h]
  exact x_iret F hI dX7_freeRooms_10
abbrev rm_X7_next : Room := { frames := 2, cells := 0, slots := 0, locals := 42 }
def fX7_next_b4 : Nat → x_H → Int32 → Int32 → Option Int32
  | 0, _, _, _ => none
  | n + 1, u, y1, y2 => (if (16 : Int32) ≤ y2 then some (y1) else (Option.bind (fX7_leftOf u y2) fun r2 => (if r2 ≤ 0 then x_let (y2 + (1 : Int32)) fun x5 => fX7_next_b4 n u y1 x5 else (if y1 = 0 then x_let (y2 + (1 : Int32)) fun x8 => fX7_next_b4 n u r2 x8 else (if y1 ≤ r2 then x_let (y2 + (1 : Int32)) fun x11 => fX7_next_b4 n u y1 x11 else x_let (y2 + (1 : Int32)) fun x13 => fX7_next_b4 n u r2 x13)))))
set_option maxHeartbeats 4000000 in
set_option maxRecDepth 100000 in
theorem wX7_next_b4 {p : Program} {l : Launch} {e : Env} {s : State} {m : MethodId} {args : Array Value} {below : List Frame} {meth : Method} {c : Code} {X : x_T} {σ : x_S} {r : Int32} (F : x_F p s m args meth c cX7_next 4 RX7 (some .int)) : ∀ (n : Nat) (u : x_H) (y1 : Int32) (y2 : Int32) (H : Heap) (locs : List Loc) (ls : Array Slot), fX7_next_b4 n u y1 y2 = some r → x_I X (x_sh σ 11 u) s H locs → lv_has ls 4 [(0, .ref (X.2.2 11 40)), (1, .int y1), (2, .int y2)] → W p l e rm_X7_next s m args below meth c H locs 0 0 (MQ below (x_Qi X r (x_sh σ 11 u) s.heap.size) args s 0 0 (x_A X s.heap.size)) (F0 m 4 ls []) := by
  have hx := F.1
  have hb := F.2.1
  have hml := F.2.2.1
  have hown := F.2.2.2.1
  have hts := F.2.2.2.2.1
  intro n
  induction n with
  | zero =>
    intro u y1 y2 H locs ls h
    rw [fX7_next_b4] at h
    cases h
  | succ n ih =>
    intro u y1 y2 H locs ls h hI hl
    rw [fX7_next_b4] at h
    refine lv_iload_n hx hb dX7_next_4 rfl (lv_at hl 2 rfl) ?_
    refine lv_bipush (v := 16) hx hb dX7_next_5 (by decide) ?_
    refine lv_icmp_ge (tgt := 41) hx hb dX7_next_7 (by decide) (fun c1 => ?_) (fun c1 => ?_)
    · have h := x_ift h c1
      refine lv_iload_n hx hb dX7_next_41 rfl (lv_at hl 1 rfl) ?_
      rw [x_some h]
      exact x_iret F hI dX7_next_42
    · have h := x_iff h c1
      refine lv_aload_n hx hb dX7_next_10 rfl (lv_at hl 0 rfl) ?_
      refine lv_iload_n hx hb dX7_next_11 rfl (lv_at hl 2 rfl) ?_
      obtain ⟨r2, h3, h⟩ := x_bnd h
      refine x_aci hI (x_runV (rest := []) F hI (mX7_leftOf l X σ _ u y2 r2 h3) g_X7_209 ⟨rfl, hd_X7_leftOf⟩ ⟨by decide, by decide⟩ ⟨rfl, rfl⟩ (x_inO (by decide)) rfl rfl rfl rfl hl.1 rfl (Nat.le_of_ble_eq_true rfl) dX7_next_12 ⟨Nat.zero_le _, Nat.zero_le _⟩) (fun H locs hI => ?_)
      refine lv_istore_n (lv' := [(3, .int r2), (0, .ref (X.2.2 11 40)), (1, .int y1), (2, .int y2)]) hx hb dX7_next_15 rfl hl (by decide) rfl (fun ls hl => ?_)
      refine lv_iload_n hx hb dX7_next_16 rfl (lv_at hl 0 rfl) ?_
      refine lv_if_le (tgt := 33) hx hb dX7_next_17 (by decide) (fun c4 => ?_) (fun c4 => ?_)
      · have h := x_ift h c4
        refine lv_iload_n hx hb dX7_next_33 rfl (lv_at hl 2 rfl) ?_
        refine lv_istore_n (lv' := [(1, .int y1), (3, .int r2), (0, .ref (X.2.2 11 40)), (2, .int y2)]) hx hb dX7_next_34 rfl hl (by decide) rfl (fun ls hl => ?_)
        obtain ⟨x5, e6⟩ : ∃ z : Int32, z = (y2 + (1 : Int32)) := ⟨_, rfl⟩
        have h := x_let_at h e6
        refine lv_iinc (v := x5) (lv' := [(2, .int x5), (1, .int y1), (3, .int r2), (0, .ref (X.2.2 11 40))]) hx hb dX7_next_35 hl (k := 3) rfl (by rw [e6]; rfl) (by decide) rfl (fun ls hl => ?_)
        refine lv_goto (tgt := 4) hx hb dX7_next_38 (by decide) ?_
        exact ih u y1 x5 _ _ _ h hI (lv_sub hl [3, 1, 0] rfl)
      · have h := x_iff h c4
        refine lv_iload_n hx hb dX7_next_20 rfl (lv_at hl 2 rfl) ?_
        refine lv_if_eq (tgt := 29) hx hb dX7_next_21 (by decide) (fun c7 => ?_) (fun c7 => ?_)
        · have h := x_ift h c7
          refine lv_iload_n hx hb dX7_next_29 rfl (lv_at hl 0 rfl) ?_
          refine lv_goto (tgt := 34) hx hb dX7_next_30 (by decide) ?_
          refine lv_istore_n (lv' := [(1, .int r2), (3, .int r2), (0, .ref (X.2.2 11 40)), (2, .int y2)]) hx hb dX7_next_34 rfl hl (by decide) rfl (fun ls hl => ?_)
          obtain ⟨x8, e9⟩ : ∃ z : Int32, z = (y2 + (1 : Int32)) := ⟨_, rfl⟩
          have h := x_let_at h e9
          refine lv_iinc (v := x8) (lv' := [(2, .int x8), (1, .int r2), (3, .int r2), (0, .ref (X.2.2 11 40))]) hx hb dX7_next_35 hl (k := 3) rfl (by rw [e9]; rfl) (by decide) rfl (fun ls hl => ?_)
          refine lv_goto (tgt := 4) hx hb dX7_next_38 (by decide) ?_
          exact ih u r2 x8 _ _ _ h hI (lv_sub hl [3, 1, 0] rfl)
        · have h := x_iff h c7
          refine lv_iload_n hx hb dX7_next_24 rfl (lv_at hl 0 rfl) ?_
          refine lv_iload_n hx hb dX7_next_25 rfl (lv_at hl 2 rfl) ?_
          refine lv_icmp_ge (tgt := 33) hx hb dX7_next_26 (by decide) (fun c10 => ?_) (fun c10 => ?_)
          · have h := x_ift h c10
            refine lv_iload_n hx hb dX7_next_33 rfl (lv_at hl 2 rfl) ?_
            refine lv_istore_n (lv' := [(1, .int y1), (3, .int r2), (0, .ref (X.2.2 11 40)), (2, .int y2)]) hx hb dX7_next_34 rfl hl (by decide) rfl (fun ls hl => ?_)
            obtain ⟨x11, e12⟩ : ∃ z : Int32, z = (y2 + (1 : Int32)) := ⟨_, rfl⟩
            have h := x_let_at h e12
            refine lv_iinc (v := x11) (lv' := [(2, .int x11), (1, .int y1), (3, .int r2), (0, .ref (X.2.2 11 40))]) hx hb dX7_next_35 hl (k := 3) rfl (by rw [e12]; rfl) (by decide) rfl (fun ls hl => ?_)
            refine lv_goto (tgt := 4) hx hb dX7_next_38 (by decide) ?_
            exact ih u y1 x11 _ _ _ h hI (lv_sub hl [3, 1, 0] rfl)
          · have h := x_iff h c10
            refine lv_iload_n hx hb dX7_next_29 rfl (lv_at hl 0 rfl) ?_
            refine lv_goto (tgt := 34) hx hb dX7_next_30 (by decide) ?_
            refine lv_istore_n (lv' := [(1, .int r2), (3, .int r2), (0, .ref (X.2.2 11 40)), (2, .int y2)]) hx hb dX7_next_34 rfl hl (by decide) rfl (fun ls hl => ?_)
            obtain ⟨x13, e14⟩ : ∃ z : Int32, z = (y2 + (1 : Int32)) := ⟨_, rfl⟩
            have h := x_let_at h e14
            refine lv_iinc (v := x13) (lv' := [(2, .int x13), (1, .int r2), (3, .int r2), (0, .ref (X.2.2 11 40))]) hx hb dX7_next_35 hl (k := 3) rfl (by rw [e14]; rfl) (by decide) rfl (fun ls hl => ?_)
            refine lv_goto (tgt := 4) hx hb dX7_next_38 (by decide) ?_
            exact ih u r2 x13 _ _ _ h hI (lv_sub hl [3, 1, 0] rfl)
def fX7_next (u : x_H) : Option Int32 := fX7_next_b4 400 u (0 : Int32) (0 : Int32)
set_option maxHeartbeats 4000000 in
set_option maxRecDepth 100000 in
theorem mX7_next (l : Launch) (X : x_T) (σ : x_S) (sz : Nat) (u : x_H) (r : Int32) (h : fX7_next u  = some r) : Met l yX7_next (x_ws yX7_next cX7_next 4 (some .int)) rm_X7_next (x_Pc X (x_sh σ 11 u) sz [.ref (X.2.2 11 40)]) (x_Qi X r (x_sh σ 11 u) sz) 0 0 (x_A X sz) := by
  refine Met.ofW (cc := cX7_next) (maxL := 4) (ret := (some .int)) (by decide) rfl ?_
  intro p e s m args below meth c s₁ B hml hv
  obtain ⟨F, hI, rfl, rfl⟩ := x_begin B hml hv
  replace F : x_F p s m _ meth c cX7_next 4 RX7 (some .int) := F
  have hx := F.1
  have hb := F.2.1
  have hml := F.2.2.1
  have hown := F.2.2.2.1
  have hts := F.2.2.2.2.1
  refine x_entry (vs := [.ref (X.2.2 11 40)]) (n := 4) (Nat.le_of_ble_eq_true rfl) (fun ls hl => ?_)
  replace hl : lv_has ls 4 [(0, .ref (X.2.2 11 40))] := hl
  unfold fX7_next at h
  refine lv_iconst (v := 0) hx hb dX7_next_0 (by decide) ?_
  refine lv_istore_n (lv' := [(1, .int (0)), (0, .ref (X.2.2 11 40))]) hx hb dX7_next_1 rfl hl (by decide) rfl (fun ls hl => ?_)
  refine lv_iconst (v := 0) hx hb dX7_next_2 (by decide) ?_
  refine lv_istore_n (lv' := [(2, .int (0)), (1, .int (0)), (0, .ref (X.2.2 11 40))]) hx hb dX7_next_3 rfl hl (by decide) rfl (fun ls hl => ?_)
  exact wX7_next_b4 F 400 u (0 : Int32) (0 : Int32) _ _ _ h hI (lv_sub hl [2, 1, 0] rfl)
abbrev rm_X7_nextFreeByRooms : Room := { frames := 3, cells := 0, slots := 0, locals := 65 }
def fX7_nextFreeByRooms (u : x_H) : Option (Int32 × x_H) := (Option.bind (fX7_next u ) fun r1 => (if r1 = 0 then (Option.bind (fX7_refused u (1 : Int32)) fun r4 => (if r4.1 = 0 then (Option.bind (fX7_next r4.2 ) fun r7 => some (r7, r4.2)) else some ((0 : Int32), r4.2))) else (Option.bind (fX7_refused u (0 : Int32)) fun r9 => (if r9.1 = 0 then (Option.bind (fX7_next r9.2 ) fun r12 => some (r12, r9.2)) else some ((0 : Int32), r9.2)))))
set_option maxHeartbeats 4000000 in
set_option maxRecDepth 100000 in
theorem mX7_nextFreeByRooms (l : Launch) (X : x_T) (σ : x_S) (sz : Nat) (u : x_H) (r : (Int32 × x_H)) (h : fX7_nextFreeByRooms u  = some r) : Met l yX7_nextFreeByRooms (x_ws yX7_nextFreeByRooms cX7_nextFreeByRooms 1 (some .int)) rm_X7_nextFreeByRooms (x_Pc X (x_sh σ 11 u) sz [.ref (X.2.2 11 40)]) (x_Qi X r.1 (x_sh σ 11 r.2) sz) 0 0 (x_A X sz) := by
  refine Met.ofW (cc := cX7_nextFreeByRooms) (maxL := 1) (ret := (some .int)) (by decide) rfl ?_
  intro p e s m args below meth c s₁ B hml hv
  obtain ⟨F, hI, rfl, rfl⟩ := x_begin B hml hv
  replace F : x_F p s m _ meth c cX7_nextFreeByRooms 1 RX7 (some .int) := F
  have hx := F.1
  have hb := F.2.1
  have hml := F.2.2.1
  have hown := F.2.2.2.1
  have hts := F.2.2.2.2.1
  refine x_entry (vs := [.ref (X.2.2 11 40)]) (n := 1) (Nat.le_of_ble_eq_true rfl) (fun ls hl => ?_)
  replace hl : lv_has ls 1 [(0, .ref (X.2.2 11 40))] := hl
  unfold fX7_nextFreeByRooms at h
  refine lv_aload_n hx hb dX7_nextFreeByRooms_0 rfl (lv_at hl 0 rfl) ?_
  refine lv_aload_n hx hb dX7_nextFreeByRooms_1 rfl (lv_at hl 0 rfl) ?_
  obtain ⟨r1, h2, h⟩ := x_bnd h
  refine x_aci hI (x_runV (rest := [.ref (X.2.2 11 40)]) F hI (mX7_next l X σ _ u  r1 h2) g_X7_215 ⟨rfl, hd_X7_next⟩ ⟨by decide, by decide⟩ ⟨rfl, rfl⟩ (x_inO (by decide)) rfl rfl rfl rfl hl.1 rfl (Nat.le_of_ble_eq_true rfl) dX7_nextFreeByRooms_2 ⟨Nat.zero_le _, Nat.zero_le _⟩) (fun H locs hI => ?_)
  refine lv_if_ne (tgt := 12) hx hb dX7_nextFreeByRooms_5 (by decide) (fun c3 => ?_) (fun c3 => ?_)
  · have h := x_iff h c3
    refine lv_iconst (v := 0) hx hb dX7_nextFreeByRooms_12 (by decide) ?_
    obtain ⟨r9, h10, h⟩ := x_bnd h
    refine x_aci hI (x_runV (rest := []) F hI (mX7_refused l X σ _ u (0 : Int32) r9 h10) g_X7_97 ⟨rfl, hd_X7_refused⟩ ⟨by decide, by decide⟩ ⟨rfl, rfl⟩ (x_inO (by decide)) rfl rfl rfl rfl hl.1 rfl (Nat.le_of_ble_eq_true rfl) dX7_nextFreeByRooms_13 ⟨Nat.zero_le _, Nat.zero_le _⟩) (fun H locs hI => ?_)
    refine lv_if_eq (tgt := 23) hx hb dX7_nextFreeByRooms_16 (by decide) (fun c11 => ?_) (fun c11 => ?_)
    · have h := x_ift h c11
      refine lv_aload_n hx hb dX7_nextFreeByRooms_23 rfl (lv_at hl 0 rfl) ?_
      obtain ⟨r12, h13, h⟩ := x_bnd h
      refine x_aci hI (x_runV (rest := []) F hI (mX7_next l X σ _ r9.2  r12 h13) g_X7_215 ⟨rfl, hd_X7_next⟩ ⟨by decide, by decide⟩ ⟨rfl, rfl⟩ (x_inO (by decide)) rfl rfl rfl rfl hl.1 rfl (Nat.le_of_ble_eq_true rfl) dX7_nextFreeByRooms_24 ⟨Nat.zero_le _, Nat.zero_le _⟩) (fun H locs hI => ?_)
      rw [x_some h]
      exact x_iret F hI dX7_nextFreeByRooms_27
    · have h := x_iff h c11
      refine lv_iconst (v := 0) hx hb dX7_nextFreeByRooms_19 (by decide) ?_
      refine lv_goto (tgt := 27) hx hb dX7_nextFreeByRooms_20 (by decide) ?_
      rw [x_some h]
      exact x_iret F hI dX7_nextFreeByRooms_27
  · have h := x_ift h c3
    refine lv_iconst (v := 1) hx hb dX7_nextFreeByRooms_8 (by decide) ?_
    refine lv_goto (tgt := 13) hx hb dX7_nextFreeByRooms_9 (by decide) ?_
    obtain ⟨r4, h5, h⟩ := x_bnd h
    refine x_aci hI (x_runV (rest := []) F hI (mX7_refused l X σ _ u (1 : Int32) r4 h5) g_X7_97 ⟨rfl, hd_X7_refused⟩ ⟨by decide, by decide⟩ ⟨rfl, rfl⟩ (x_inO (by decide)) rfl rfl rfl rfl hl.1 rfl (Nat.le_of_ble_eq_true rfl) dX7_nextFreeByRooms_13 ⟨Nat.zero_le _, Nat.zero_le _⟩) (fun H locs hI => ?_)
    refine lv_if_eq (tgt := 23) hx hb dX7_nextFreeByRooms_16 (by decide) (fun c6 => ?_) (fun c6 => ?_)
    · have h := x_ift h c6
      refine lv_aload_n hx hb dX7_nextFreeByRooms_23 rfl (lv_at hl 0 rfl) ?_
      obtain ⟨r7, h8, h⟩ := x_bnd h
      refine x_aci hI (x_runV (rest := []) F hI (mX7_next l X σ _ r4.2  r7 h8) g_X7_215 ⟨rfl, hd_X7_next⟩ ⟨by decide, by decide⟩ ⟨rfl, rfl⟩ (x_inO (by decide)) rfl rfl rfl rfl hl.1 rfl (Nat.le_of_ble_eq_true rfl) dX7_nextFreeByRooms_24 ⟨Nat.zero_le _, Nat.zero_le _⟩) (fun H locs hI => ?_)
      rw [x_some h]
      exact x_iret F hI dX7_nextFreeByRooms_27
    · have h := x_iff h c6
      refine lv_iconst (v := 0) hx hb dX7_nextFreeByRooms_19 (by decide) ?_
      refine lv_goto (tgt := 27) hx hb dX7_nextFreeByRooms_20 (by decide) ?_
      rw [x_some h]
      exact x_iret F hI dX7_nextFreeByRooms_27
abbrev rm_X7_nextFreeByTicks : Room := { frames := 3, cells := 0, slots := 0, locals := 65 }
def fX7_nextFreeByTicks (u : x_H) : Option (Int32 × x_H) := (Option.bind (fX7_next u ) fun r1 => (if r1 = 0 then (Option.bind (fX7_refused u (1 : Int32)) fun r4 => (if r4.1 = 0 then (Option.bind (fX7_next r4.2 ) fun r7 => some (r7, r4.2)) else some ((0 : Int32), r4.2))) else (Option.bind (fX7_refused u (0 : Int32)) fun r9 => (if r9.1 = 0 then (Option.bind (fX7_next r9.2 ) fun r12 => some (r12, r9.2)) else some ((0 : Int32), r9.2)))))
set_option maxHeartbeats 4000000 in
set_option maxRecDepth 100000 in
theorem mX7_nextFreeByTicks (l : Launch) (X : x_T) (σ : x_S) (sz : Nat) (u : x_H) (r : (Int32 × x_H)) (h : fX7_nextFreeByTicks u  = some r) : Met l yX7_nextFreeByTicks (x_ws yX7_nextFreeByTicks cX7_nextFreeByTicks 1 (some .int)) rm_X7_nextFreeByTicks (x_Pc X (x_sh σ 11 u) sz [.ref (X.2.2 11 40)]) (x_Qi X r.1 (x_sh σ 11 r.2) sz) 0 0 (x_A X sz) := by
  refine Met.ofW (cc := cX7_nextFreeByTicks) (maxL := 1) (ret := (some .int)) (by decide) rfl ?_
  intro p e s m args below meth c s₁ B hml hv
  obtain ⟨F, hI, rfl, rfl⟩ := x_begin B hml hv
  replace F : x_F p s m _ meth c cX7_nextFreeByTicks 1 RX7 (some .int) := F
  have hx := F.1
  have hb := F.2.1
  have hml := F.2.2.1
  have hown := F.2.2.2.1
  have hts := F.2.2.2.2.1
  refine x_entry (vs := [.ref (X.2.2 11 40)]) (n := 1) (Nat.le_of_ble_eq_true rfl) (fun ls hl => ?_)
  replace hl : lv_has ls 1 [(0, .ref (X.2.2 11 40))] := hl
  unfold fX7_nextFreeByTicks at h
  refine lv_aload_n hx hb dX7_nextFreeByTicks_0 rfl (lv_at hl 0 rfl) ?_
  refine lv_aload_n hx hb dX7_nextFreeByTicks_1 rfl (lv_at hl 0 rfl) ?_
  obtain ⟨r1, h2, h⟩ := x_bnd h
  refine x_aci hI (x_runV (rest := [.ref (X.2.2 11 40)]) F hI (mX7_next l X σ _ u  r1 h2) g_X7_215 ⟨rfl, hd_X7_next⟩ ⟨by decide, by decide⟩ ⟨rfl, rfl⟩ (x_inO (by decide)) rfl rfl rfl rfl hl.1 rfl (Nat.le_of_ble_eq_true rfl) dX7_nextFreeByTicks_2 ⟨Nat.zero_le _, Nat.zero_le _⟩) (fun H locs hI => ?_)
  refine lv_if_ne (tgt := 12) hx hb dX7_nextFreeByTicks_5 (by decide) (fun c3 => ?_) (fun c3 => ?_)
  · have h := x_iff h c3
    refine lv_iconst (v := 0) hx hb dX7_nextFreeByTicks_12 (by decide) ?_
    obtain ⟨r9, h10, h⟩ := x_bnd h
    refine x_aci hI (x_runV (rest := []) F hI (mX7_refused l X σ _ u (0 : Int32) r9 h10) g_X7_97 ⟨rfl, hd_X7_refused⟩ ⟨by decide, by decide⟩ ⟨rfl, rfl⟩ (x_inO (by decide)) rfl rfl rfl rfl hl.1 rfl (Nat.le_of_ble_eq_true rfl) dX7_nextFreeByTicks_13 ⟨Nat.zero_le _, Nat.zero_le _⟩) (fun H locs hI => ?_)
    refine lv_if_eq (tgt := 23) hx hb dX7_nextFreeByTicks_16 (by decide) (fun c11 => ?_) (fun c11 => ?_)
    · have h := x_ift h c11
      refine lv_aload_n hx hb dX7_nextFreeByTicks_23 rfl (lv_at hl 0 rfl) ?_
      obtain ⟨r12, h13, h⟩ := x_bnd h
      refine x_aci hI (x_runV (rest := []) F hI (mX7_next l X σ _ r9.2  r12 h13) g_X7_215 ⟨rfl, hd_X7_next⟩ ⟨by decide, by decide⟩ ⟨rfl, rfl⟩ (x_inO (by decide)) rfl rfl rfl rfl hl.1 rfl (Nat.le_of_ble_eq_true rfl) dX7_nextFreeByTicks_24 ⟨Nat.zero_le _, Nat.zero_le _⟩) (fun H locs hI => ?_)
      rw [x_some h]
      exact x_iret F hI dX7_nextFreeByTicks_27
    · have h := x_iff h c11
      refine lv_iconst (v := 0) hx hb dX7_nextFreeByTicks_19 (by decide) ?_
      refine lv_goto (tgt := 27) hx hb dX7_nextFreeByTicks_20 (by decide) ?_
      rw [x_some h]
      exact x_iret F hI dX7_nextFreeByTicks_27
  · have h := x_ift h c3
    refine lv_iconst (v := 1) hx hb dX7_nextFreeByTicks_8 (by decide) ?_
    refine lv_goto (tgt := 13) hx hb dX7_nextFreeByTicks_9 (by decide) ?_
    obtain ⟨r4, h5, h⟩ := x_bnd h
    refine x_aci hI (x_runV (rest := []) F hI (mX7_refused l X σ _ u (1 : Int32) r4 h5) g_X7_97 ⟨rfl, hd_X7_refused⟩ ⟨by decide, by decide⟩ ⟨rfl, rfl⟩ (x_inO (by decide)) rfl rfl rfl rfl hl.1 rfl (Nat.le_of_ble_eq_true rfl) dX7_nextFreeByTicks_13 ⟨Nat.zero_le _, Nat.zero_le _⟩) (fun H locs hI => ?_)
    refine lv_if_eq (tgt := 23) hx hb dX7_nextFreeByTicks_16 (by decide) (fun c6 => ?_) (fun c6 => ?_)
    · have h := x_ift h c6
      refine lv_aload_n hx hb dX7_nextFreeByTicks_23 rfl (lv_at hl 0 rfl) ?_
      obtain ⟨r7, h8, h⟩ := x_bnd h
      refine x_aci hI (x_runV (rest := []) F hI (mX7_next l X σ _ r4.2  r7 h8) g_X7_215 ⟨rfl, hd_X7_next⟩ ⟨by decide, by decide⟩ ⟨rfl, rfl⟩ (x_inO (by decide)) rfl rfl rfl rfl hl.1 rfl (Nat.le_of_ble_eq_true rfl) dX7_nextFreeByTicks_24 ⟨Nat.zero_le _, Nat.zero_le _⟩) (fun H locs hI => ?_)
      rw [x_some h]
      exact x_iret F hI dX7_nextFreeByTicks_27
    · have h := x_iff h c6
      refine lv_iconst (v := 0) hx hb dX7_nextFreeByTicks_19 (by decide) ?_
      refine lv_goto (tgt := 27) hx hb dX7_nextFreeByTicks_20 (by decide) ?_
      rw [x_some h]
      exact x_iret F hI dX7_nextFreeByTicks_27
abbrev rm_X7_tell : Room := { frames := 0, cells := 0, slots := 0, locals := 0 }
def fX7_tell (u : x_H) (a1 : Int32) : Option (Int32 × x_H) := x_let (x_hu u 40 0 (0 : Int32)) fun u1 => (if x_in a1 570 then some ((u1 41 (Int32.toNatClampNeg a1)), u1) else none)
set_option maxHeartbeats 4000000 in
set_option maxRecDepth 100000 in
theorem mX7_tell (l : Launch) (X : x_T) (σ : x_S) (sz : Nat) (u : x_H) (a1 : Int32) (r : (Int32 × x_H)) (h : fX7_tell u a1 = some r) : Met l yX7_tell (x_ws yX7_tell cX7_tell 2 (some .int)) rm_X7_tell (x_Pc X (x_sh σ 11 u) sz [.ref (X.2.2 11 40), .int a1]) (x_Qi X r.1 (x_sh σ 11 r.2) sz) 0 0 (x_A X sz) := by
  refine Met.ofW (cc := cX7_tell) (maxL := 2) (ret := (some .int)) (by decide) rfl ?_
  intro p e s m args below meth c s₁ B hml hv
  obtain ⟨F, hI, rfl, rfl⟩ := x_begin B hml hv
  replace F : x_F p s m _ meth c cX7_tell 2 RX7 (some .int) := F
  have hx := F.1
  have hb := F.2.1
  have hml := F.2.2.1
  have hown := F.2.2.2.1
  have hts := F.2.2.2.2.1
  refine x_entry (vs := [.ref (X.2.2 11 40), .int a1]) (n := 2) (Nat.le_of_ble_eq_true rfl) (fun ls hl => ?_)
  replace hl : lv_has ls 2 [(0, .ref (X.2.2 11 40)), (1, .int a1)] := hl
  unfold fX7_tell at h
  refine lv_aload_n hx hb dX7_tell_0 rfl (lv_at hl 0 rfl) ?_
  refine lv_iconst (v := 0) hx hb dX7_tell_1 (by decide) ?_
  refine xp_7_0 F hI (x_inO (by decide)) u_fl_X7_29 dX7_tell_2 (fun H locs u1 e2 hI => ?_)
  have h := x_let_at h e2
  refine lv_aload_n hx hb dX7_tell_5 rfl (lv_at hl 0 rfl) ?_
  refine xg_7_1 F hI (x_inO (by decide)) u_fl_X7_7 dX7_tell_6 ?_
  refine lv_iload_n hx hb dX7_tell_9 rfl (lv_at hl 1 rfl) ?_
  obtain ⟨g3, h⟩ := x_chk h
  refine xh_iald (n := 570) F hI (x_inO (by decide)) (fun _ => rfl) g3 dX7_tell_10 ?_
  rw [x_some h]
  exact x_iret F hI dX7_tell_11
abbrev rm_X7_leaseTicks : Room := { frames := 1, cells := 0, slots := 0, locals := 21 }
def fX7_leaseTicks (u : x_H) : Option (Int32 × x_H) := (Option.bind (fX7_tell u (555 : Int32)) fun r1 => some (r1.1, r1.2))
set_option maxHeartbeats 4000000 in
set_option maxRecDepth 100000 in
theorem mX7_leaseTicks (l : Launch) (X : x_T) (σ : x_S) (sz : Nat) (u : x_H) (r : (Int32 × x_H)) (h : fX7_leaseTicks u  = some r) : Met l yX7_leaseTicks (x_ws yX7_leaseTicks cX7_leaseTicks 1 (some .int)) rm_X7_leaseTicks (x_Pc X (x_sh σ 11 u) sz [.ref (X.2.2 11 40)]) (x_Qi X r.1 (x_sh σ 11 r.2) sz) 0 0 (x_A X sz) := by
  refine Met.ofW (cc := cX7_leaseTicks) (maxL := 1) (ret := (some .int)) (by decide) rfl ?_
  intro p e s m args below meth c s₁ B hml hv
  obtain ⟨F, hI, rfl, rfl⟩ := x_begin B hml hv
  replace F : x_F p s m _ meth c cX7_leaseTicks 1 RX7 (some .int) := F
  have hx := F.1
  have hb := F.2.1
  have hml := F.2.2.1
  have hown := F.2.2.2.1
  have hts := F.2.2.2.2.1
  refine x_entry (vs := [.ref (X.2.2 11 40)]) (n := 1) (Nat.le_of_ble_eq_true rfl) (fun ls hl => ?_)
  replace hl : lv_has ls 1 [(0, .ref (X.2.2 11 40))] := hl
  unfold fX7_leaseTicks at h
  refine lv_aload_n hx hb dX7_leaseTicks_0 rfl (lv_at hl 0 rfl) ?_
  refine lv_sipush (v := 555) hx hb dX7_leaseTicks_1 (by decide) ?_
  obtain ⟨r1, h2, h⟩ := x_bnd h
  refine x_aci hI (x_runV (rest := []) F hI (mX7_tell l X σ _ u (555 : Int32) r1 h2) g_X7_218 ⟨rfl, hd_X7_tell⟩ ⟨by decide, by decide⟩ ⟨rfl, rfl⟩ (x_inO (by decide)) rfl rfl rfl rfl hl.1 rfl (Nat.le_of_ble_eq_true rfl) dX7_leaseTicks_4 ⟨Nat.zero_le _, Nat.zero_le _⟩) (fun H locs hI => ?_)
  rw [x_some h]
  exact x_iret F hI dX7_leaseTicks_7
abbrev rm_X7_holdTicks : Room := { frames := 1, cells := 0, slots := 0, locals := 21 }
def fX7_holdTicks (u : x_H) : Option (Int32 × x_H) := (Option.bind (fX7_tell u (556 : Int32)) fun r1 => some (r1.1, r1.2))
set_option maxHeartbeats 4000000 in
set_option maxRecDepth 100000 in
theorem mX7_holdTicks (l : Launch) (X : x_T) (σ : x_S) (sz : Nat) (u : x_H) (r : (Int32 × x_H)) (h : fX7_holdTicks u  = some r) : Met l yX7_holdTicks (x_ws yX7_holdTicks cX7_holdTicks 1 (some .int)) rm_X7_holdTicks (x_Pc X (x_sh σ 11 u) sz [.ref (X.2.2 11 40)]) (x_Qi X r.1 (x_sh σ 11 r.2) sz) 0 0 (x_A X sz) := by
  refine Met.ofW (cc := cX7_holdTicks) (maxL := 1) (ret := (some .int)) (by decide) rfl ?_
  intro p e s m args below meth c s₁ B hml hv
  obtain ⟨F, hI, rfl, rfl⟩ := x_begin B hml hv
  replace F : x_F p s m _ meth c cX7_holdTicks 1 RX7 (some .int) := F
  have hx := F.1
  have hb := F.2.1
  have hml := F.2.2.1
  have hown := F.2.2.2.1
  have hts := F.2.2.2.2.1
  refine x_entry (vs := [.ref (X.2.2 11 40)]) (n := 1) (Nat.le_of_ble_eq_true rfl) (fun ls hl => ?_)
  replace hl : lv_has ls 1 [(0, .ref (X.2.2 11 40))] := hl
  unfold fX7_holdTicks at h
  refine lv_aload_n hx hb dX7_holdTicks_0 rfl (lv_at hl 0 rfl) ?_
  refine lv_sipush (v := 556) hx hb dX7_holdTicks_1 (by decide) ?_
  obtain ⟨r1, h2, h⟩ := x_bnd h
  refine x_aci hI (x_runV (rest := []) F hI (mX7_tell l X σ _ u (556 : Int32) r1 h2) g_X7_218 ⟨rfl, hd_X7_tell⟩ ⟨by decide, by decide⟩ ⟨rfl, rfl⟩ (x_inO (by decide)) rfl rfl rfl rfl hl.1 rfl (Nat.le_of_ble_eq_true rfl) dX7_holdTicks_4 ⟨Nat.zero_le _, Nat.zero_le _⟩) (fun H locs hI => ?_)
  rw [x_some h]
  exact x_iret F hI dX7_holdTicks_7
abbrev rm_X7_shutTicks : Room := { frames := 1, cells := 0, slots := 0, locals := 21 }
def fX7_shutTicks (u : x_H) : Option (Int32 × x_H) := (Option.bind (fX7_tell u (557 : Int32)) fun r1 => some (r1.1, r1.2))
set_option maxHeartbeats 4000000 in
set_option maxRecDepth 100000 in
theorem mX7_shutTicks (l : Launch) (X : x_T) (σ : x_S) (sz : Nat) (u : x_H) (r : (Int32 × x_H)) (h : fX7_shutTicks u  = some r) : Met l yX7_shutTicks (x_ws yX7_shutTicks cX7_shutTicks 1 (some .int)) rm_X7_shutTicks (x_Pc X (x_sh σ 11 u) sz [.ref (X.2.2 11 40)]) (x_Qi X r.1 (x_sh σ 11 r.2) sz) 0 0 (x_A X sz) := by
  refine Met.ofW (cc := cX7_shutTicks) (maxL := 1) (ret := (some .int)) (by decide) rfl ?_
  intro p e s m args below meth c s₁ B hml hv
  obtain ⟨F, hI, rfl, rfl⟩ := x_begin B hml hv
  replace F : x_F p s m _ meth c cX7_shutTicks 1 RX7 (some .int) := F
  have hx := F.1
  have hb := F.2.1
  have hml := F.2.2.1
  have hown := F.2.2.2.1
  have hts := F.2.2.2.2.1
  refine x_entry (vs := [.ref (X.2.2 11 40)]) (n := 1) (Nat.le_of_ble_eq_true rfl) (fun ls hl => ?_)
  replace hl : lv_has ls 1 [(0, .ref (X.2.2 11 40))] := hl
  unfold fX7_shutTicks at h
  refine lv_aload_n hx hb dX7_shutTicks_0 rfl (lv_at hl 0 rfl) ?_
  refine lv_sipush (v := 557) hx hb dX7_shutTicks_1 (by decide) ?_
  obtain ⟨r1, h2, h⟩ := x_bnd h
  refine x_aci hI (x_runV (rest := []) F hI (mX7_tell l X σ _ u (557 : Int32) r1 h2) g_X7_218 ⟨rfl, hd_X7_tell⟩ ⟨by decide, by decide⟩ ⟨rfl, rfl⟩ (x_inO (by decide)) rfl rfl rfl rfl hl.1 rfl (Nat.le_of_ble_eq_true rfl) dX7_shutTicks_4 ⟨Nat.zero_le _, Nat.zero_le _⟩) (fun H locs hI => ?_)
  rw [x_some h]
  exact x_iret F hI dX7_shutTicks_7
abbrev rm_X7_messages : Room := { frames := 1, cells := 0, slots := 0, locals := 21 }
def fX7_messages (u : x_H) : Option (Int32 × x_H) := (Option.bind (fX7_tell u (552 : Int32)) fun r1 => some (r1.1, r1.2))
set_option maxHeartbeats 4000000 in
set_option maxRecDepth 100000 in
theorem mX7_messages (l : Launch) (X : x_T) (σ : x_S) (sz : Nat) (u : x_H) (r : (Int32 × x_H)) (h : fX7_messages u  = some r) : Met l yX7_messages (x_ws yX7_messages cX7_messages 1 (some .int)) rm_X7_messages (x_Pc X (x_sh σ 11 u) sz [.ref (X.2.2 11 40)]) (x_Qi X r.1 (x_sh σ 11 r.2) sz) 0 0 (x_A X sz) := by
  refine Met.ofW (cc := cX7_messages) (maxL := 1) (ret := (some .int)) (by decide) rfl ?_
  intro p e s m args below meth c s₁ B hml hv
  obtain ⟨F, hI, rfl, rfl⟩ := x_begin B hml hv
  replace F : x_F p s m _ meth c cX7_messages 1 RX7 (some .int) := F
  have hx := F.1
  have hb := F.2.1
  have hml := F.2.2.1
  have hown := F.2.2.2.1
  have hts := F.2.2.2.2.1
  refine x_entry (vs := [.ref (X.2.2 11 40)]) (n := 1) (Nat.le_of_ble_eq_true rfl) (fun ls hl => ?_)
  replace hl : lv_has ls 1 [(0, .ref (X.2.2 11 40))] := hl
  unfold fX7_messages at h
  refine lv_aload_n hx hb dX7_messages_0 rfl (lv_at hl 0 rfl) ?_
  refine lv_sipush (v := 552) hx hb dX7_messages_1 (by decide) ?_
  obtain ⟨r1, h2, h⟩ := x_bnd h
  refine x_aci hI (x_runV (rest := []) F hI (mX7_tell l X σ _ u (552 : Int32) r1 h2) g_X7_218 ⟨rfl, hd_X7_tell⟩ ⟨by decide, by decide⟩ ⟨rfl, rfl⟩ (x_inO (by decide)) rfl rfl rfl rfl hl.1 rfl (Nat.le_of_ble_eq_true rfl) dX7_messages_4 ⟨Nat.zero_le _, Nat.zero_le _⟩) (fun H locs hI => ?_)
  rw [x_some h]
  exact x_iret F hI dX7_messages_7
abbrev rm_X7_kindAt : Room := { frames := 2, cells := 0, slots := 0, locals := 46 }
def fX7_kindAt (u : x_H) (a1 : Int32) : Option (Int32 × x_H) := (Option.bind (fX7_noPlace u a1) fun r1 => (if r1.1 = 0 then (if x_in ((192 : Int32) + ((6 : Int32) * a1)) 570 then some ((r1.2 41 (Int32.toNatClampNeg ((192 : Int32) + ((6 : Int32) * a1)))), r1.2) else none) else some ((0 : Int32), r1.2)))
set_option maxHeartbeats 4000000 in
set_option maxRecDepth 100000 in
theorem mX7_kindAt (l : Launch) (X : x_T) (σ : x_S) (sz : Nat) (u : x_H) (a1 : Int32) (r : (Int32 × x_H)) (h : fX7_kindAt u a1 = some r) : Met l yX7_kindAt (x_ws yX7_kindAt cX7_kindAt 2 (some .int)) rm_X7_kindAt (x_Pc X (x_sh σ 11 u) sz [.ref (X.2.2 11 40), .int a1]) (x_Qi X r.1 (x_sh σ 11 r.2) sz) 0 0 (x_A X sz) := by
  refine Met.ofW (cc := cX7_kindAt) (maxL := 2) (ret := (some .int)) (by decide) rfl ?_
  intro p e s m args below meth c s₁ B hml hv
  obtain ⟨F, hI, rfl, rfl⟩ := x_begin B hml hv
  replace F : x_F p s m _ meth c cX7_kindAt 2 RX7 (some .int) := F
  have hx := F.1
  have hb := F.2.1
  have hml := F.2.2.1
  have hown := F.2.2.2.1
  have hts := F.2.2.2.2.1
  refine x_entry (vs := [.ref (X.2.2 11 40), .int a1]) (n := 2) (Nat.le_of_ble_eq_true rfl) (fun ls hl => ?_)
  replace hl : lv_has ls 2 [(0, .ref (X.2.2 11 40)), (1, .int a1)] := hl
  unfold fX7_kindAt at h
  refine lv_aload_n hx hb dX7_kindAt_0 rfl (lv_at hl 0 rfl) ?_
  refine lv_iload_n hx hb dX7_kindAt_1 rfl (lv_at hl 1 rfl) ?_
  obtain ⟨r1, h2, h⟩ := x_bnd h
  refine x_aci hI (x_runV (rest := []) F hI (mX7_noPlace l X σ _ u a1 r1 h2) g_X7_128 ⟨rfl, hd_X7_noPlace⟩ ⟨by decide, by decide⟩ ⟨rfl, rfl⟩ (x_inO (by decide)) rfl rfl rfl rfl hl.1 rfl (Nat.le_of_ble_eq_true rfl) dX7_kindAt_2 ⟨Nat.zero_le _, Nat.zero_le _⟩) (fun H locs hI => ?_)
  refine lv_if_eq (tgt := 12) hx hb dX7_kindAt_5 (by decide) (fun c3 => ?_) (fun c3 => ?_)
  · have h := x_ift h c3
    refine lv_aload_n hx hb dX7_kindAt_12 rfl (lv_at hl 0 rfl) ?_
    refine xg_7_1 F hI (x_inO (by decide)) u_fl_X7_7 dX7_kindAt_13 ?_
    refine lv_sipush (v := 192) hx hb dX7_kindAt_16 (by decide) ?_
    refine lv_bipush (v := 6) hx hb dX7_kindAt_19 (by decide) ?_
    refine lv_iload_n hx hb dX7_kindAt_21 rfl (lv_at hl 1 rfl) ?_
    refine lv_imul hx hb dX7_kindAt_22 ?_
    refine lv_iadd hx hb dX7_kindAt_23 ?_
    obtain ⟨g4, h⟩ := x_chk h
    refine xh_iald (n := 570) F hI (x_inO (by decide)) (fun _ => rfl) g4 dX7_kindAt_24 ?_
    rw [x_some h]
    exact x_iret F hI dX7_kindAt_25
  · have h := x_iff h c3
    refine lv_iconst (v := 0) hx hb dX7_kindAt_8 (by decide) ?_
    refine lv_goto (tgt := 25) hx hb dX7_kindAt_9 (by decide) ?_
    rw [x_some h]
    exact x_iret F hI dX7_kindAt_25
abbrev rm_X7_guestAt : Room := { frames := 2, cells := 0, slots := 0, locals := 46 }
def fX7_guestAt (u : x_H) (a1 : Int32) : Option (Int32 × x_H) := (Option.bind (fX7_noPlace u a1) fun r1 => (if r1.1 = 0 then (if x_in (((192 : Int32) + ((6 : Int32) * a1)) + (1 : Int32)) 570 then some ((r1.2 41 (Int32.toNatClampNeg (((192 : Int32) + ((6 : Int32) * a1)) + (1 : Int32)))), r1.2) else none) else some ((0 : Int32), r1.2)))
set_option maxHeartbeats 4000000 in
set_option maxRecDepth 100000 in
theorem mX7_guestAt (l : Launch) (X : x_T) (σ : x_S) (sz : Nat) (u : x_H) (a1 : Int32) (r : (Int32 × x_H)) (h : fX7_guestAt u a1 = some r) : Met l yX7_guestAt (x_ws yX7_guestAt cX7_guestAt 2 (some .int)) rm_X7_guestAt (x_Pc X (x_sh σ 11 u) sz [.ref (X.2.2 11 40), .int a1]) (x_Qi X r.1 (x_sh σ 11 r.2) sz) 0 0 (x_A X sz) := by
  refine Met.ofW (cc := cX7_guestAt) (maxL := 2) (ret := (some .int)) (by decide) rfl ?_
  intro p e s m args below meth c s₁ B hml hv
  obtain ⟨F, hI, rfl, rfl⟩ := x_begin B hml hv
  replace F : x_F p s m _ meth c cX7_guestAt 2 RX7 (some .int) := F
  have hx := F.1
  have hb := F.2.1
  have hml := F.2.2.1
  have hown := F.2.2.2.1
  have hts := F.2.2.2.2.1
  refine x_entry (vs := [.ref (X.2.2 11 40), .int a1]) (n := 2) (Nat.le_of_ble_eq_true rfl) (fun ls hl => ?_)
  replace hl : lv_has ls 2 [(0, .ref (X.2.2 11 40)), (1, .int a1)] := hl
  unfold fX7_guestAt at h
  refine lv_aload_n hx hb dX7_guestAt_0 rfl (lv_at hl 0 rfl) ?_
  refine lv_iload_n hx hb dX7_guestAt_1 rfl (lv_at hl 1 rfl) ?_
  obtain ⟨r1, h2, h⟩ := x_bnd h
  refine x_aci hI (x_runV (rest := []) F hI (mX7_noPlace l X σ _ u a1 r1 h2) g_X7_128 ⟨rfl, hd_X7_noPlace⟩ ⟨by decide, by decide⟩ ⟨rfl, rfl⟩ (x_inO (by decide)) rfl rfl rfl rfl hl.1 rfl (Nat.le_of_ble_eq_true rfl) dX7_guestAt_2 ⟨Nat.zero_le _, Nat.zero_le _⟩) (fun H locs hI => ?_)
  refine lv_if_eq (tgt := 12) hx hb dX7_guestAt_5 (by decide) (fun c3 => ?_) (fun c3 => ?_)
  · have h := x_ift h c3
    refine lv_aload_n hx hb dX7_guestAt_12 rfl (lv_at hl 0 rfl) ?_
    refine xg_7_1 F hI (x_inO (by decide)) u_fl_X7_7 dX7_guestAt_13 ?_
    refine lv_sipush (v := 192) hx hb dX7_guestAt_16 (by decide) ?_
    refine lv_bipush (v := 6) hx hb dX7_guestAt_19 (by decide) ?_
    refine lv_iload_n hx hb dX7_guestAt_21 rfl (lv_at hl 1 rfl) ?_
    refine lv_imul hx hb dX7_guestAt_22 ?_
    refine lv_iadd hx hb dX7_guestAt_23 ?_
    refine lv_iconst (v := 1) hx hb dX7_guestAt_24 (by decide) ?_
    refine lv_iadd hx hb dX7_guestAt_25 ?_
    obtain ⟨g4, h⟩ := x_chk h
    refine xh_iald (n := 570) F hI (x_inO (by decide)) (fun _ => rfl) g4 dX7_guestAt_26 ?_
    rw [x_some h]
    exact x_iret F hI dX7_guestAt_27
  · have h := x_iff h c3
    refine lv_iconst (v := 0) hx hb dX7_guestAt_8 (by decide) ?_
    refine lv_goto (tgt := 27) hx hb dX7_guestAt_9 (by decide) ?_
    rw [x_some h]
    exact x_iret F hI dX7_guestAt_27
abbrev rm_X7_roomAt : Room := { frames := 1, cells := 0, slots := 0, locals := 25 }
def fX7_roomAt_j48 (u : x_H) (y1 : Int32) (z0 : Int32) : Option (Int32 × x_H) := (Option.bind (fX7_refused u z0) fun r6 => (if r6.1 = 0 then (if x_in (((192 : Int32) + ((6 : Int32) * y1)) + (2 : Int32)) 570 then some ((r6.2 41 (Int32.toNatClampNeg (((192 : Int32) + ((6 : Int32) * y1)) + (2 : Int32)))), r6.2) else none) else some ((0 : Int32), r6.2)))
set_option maxHeartbeats 4000000 in
set_option maxRecDepth 100000 in
theorem wX7_roomAt_j48 {p : Program} {l : Launch} {e : Env} {s : State} {m : MethodId} {args : Array Value} {below : List Frame} {meth : Method} {c : Code} {X : x_T} {σ : x_S} {r : (Int32 × x_H)} (F : x_F p s m args meth c cX7_roomAt 3 RX7 (some .int)) (u : x_H) (y1 : Int32) (z0 : Int32) (H : Heap) (locs : List Loc) (ls : Array Slot) (h : fX7_roomAt_j48 u y1 z0 = some r) (hI : x_I X (x_sh σ 11 u) s H locs) (hl : lv_has ls 3 [(0, .ref (X.2.2 11 40)), (1, .int y1)]) : W p l e rm_X7_roomAt s m args below meth c H locs 0 0 (MQ below (x_Qi X r.1 (x_sh σ 11 r.2) s.heap.size) args s 0 0 (x_A X s.heap.size)) (F0 m 48 ls [.int z0, .ref (X.2.2 11 40)]) := by
  have hx := F.1
  have hb := F.2.1
  have hml := F.2.2.1
  have hown := F.2.2.2.1
  have hts := F.2.2.2.2.1
  unfold fX7_roomAt_j48 at h
  obtain ⟨r6, h7, h⟩ := x_bnd h
  refine x_aci hI (x_runV (rest := []) F hI (mX7_refused l X σ _ u z0 r6 h7) g_X7_97 ⟨rfl, hd_X7_refused⟩ ⟨by decide, by decide⟩ ⟨rfl, rfl⟩ (x_inO (by decide)) rfl rfl rfl rfl hl.1 rfl (Nat.le_of_ble_eq_true rfl) dX7_roomAt_48 ⟨Nat.zero_le _, Nat.zero_le _⟩) (fun H locs hI => ?_)
  refine lv_if_eq (tgt := 58) hx hb dX7_roomAt_51 (by decide) (fun c8 => ?_) (fun c8 => ?_)
  · have h := x_ift h c8
    refine lv_aload_n hx hb dX7_roomAt_58 rfl (lv_at hl 0 rfl) ?_
    refine xg_7_1 F hI (x_inO (by decide)) u_fl_X7_7 dX7_roomAt_59 ?_
    refine lv_sipush (v := 192) hx hb dX7_roomAt_62 (by decide) ?_
    refine lv_bipush (v := 6) hx hb dX7_roomAt_65 (by decide) ?_
    refine lv_iload_n hx hb dX7_roomAt_67 rfl (lv_at hl 1 rfl) ?_
    refine lv_imul hx hb dX7_roomAt_68 ?_
    refine lv_iadd hx hb dX7_roomAt_69 ?_
    refine lv_iconst (v := 2) hx hb dX7_roomAt_70 (by decide) ?_
    refine lv_iadd hx hb dX7_roomAt_71 ?_
    obtain ⟨g9, h⟩ := x_chk h
    refine xh_iald (n := 570) F hI (x_inO (by decide)) (fun _ => rfl) g9 dX7_roomAt_72 ?_
    rw [x_some h]
    exact x_iret F hI dX7_roomAt_73
  · have h := x_iff h c8
    refine lv_iconst (v := 0) hx hb dX7_roomAt_54 (by decide) ?_
    refine lv_goto (tgt := 73) hx hb dX7_roomAt_55 (by decide) ?_
    rw [x_some h]
    exact x_iret F hI dX7_roomAt_73
def fX7_roomAt (u : x_H) (a1 : Int32) : Option (Int32 × x_H) := (Option.bind (fX7_in a1.toInt64 (0 : Int64) (((u 41 (Int32.toNatClampNeg (552 : Int32))) - (1 : Int32))).toInt64) fun r1 => (if r1 = 0 then fX7_roomAt_j48 u a1 (1 : Int32) else (if x_in ((192 : Int32) + ((6 : Int32) * a1)) 570 then (if (u 41 (Int32.toNatClampNeg ((192 : Int32) + ((6 : Int32) * a1)))) = 0 then fX7_roomAt_j48 u a1 (2 : Int32) else fX7_roomAt_j48 u a1 (0 : Int32)) else none)))
set_option maxHeartbeats 4000000 in
set_option maxRecDepth 100000 in
theorem mX7_roomAt (l : Launch) (X : x_T) (σ : x_S) (sz : Nat) (u : x_H) (a1 : Int32) (r : (Int32 × x_H)) (h : fX7_roomAt u a1 = some r) : Met l yX7_roomAt (x_ws yX7_roomAt cX7_roomAt 3 (some .int)) rm_X7_roomAt (x_Pc X (x_sh σ 11 u) sz [.ref (X.2.2 11 40), .int a1]) (x_Qi X r.1 (x_sh σ 11 r.2) sz) 0 0 (x_A X sz) := by
  refine Met.ofW (cc := cX7_roomAt) (maxL := 3) (ret := (some .int)) (by decide) rfl ?_
  intro p e s m args below meth c s₁ B hml hv
  obtain ⟨F, hI, rfl, rfl⟩ := x_begin B hml hv
  replace F : x_F p s m _ meth c cX7_roomAt 3 RX7 (some .int) := F
  have hx := F.1
  have hb := F.2.1
  have hml := F.2.2.1
  have hown := F.2.2.2.1
  have hts := F.2.2.2.2.1
  refine x_entry (vs := [.ref (X.2.2 11 40), .int a1]) (n := 3) (Nat.le_of_ble_eq_true rfl) (fun ls hl => ?_)
  replace hl : lv_has ls 3 [(0, .ref (X.2.2 11 40)), (1, .int a1)] := hl
  unfold fX7_roomAt at h
  refine lv_iload_n hx hb dX7_roomAt_0 rfl (lv_at hl 1 rfl) ?_
  refine lv_i2l hx hb dX7_roomAt_1 rfl ?_
  refine lv_lconst (v := 0) hx hb dX7_roomAt_2 (by decide) ?_
  refine lv_aload_n hx hb dX7_roomAt_3 rfl (lv_at hl 0 rfl) ?_
  refine xg_7_1 F hI (x_inO (by decide)) u_fl_X7_7 dX7_roomAt_4 ?_
  refine lv_sipush (v := 552) hx hb dX7_roomAt_7 (by decide) ?_
  refine xh_iald (n := 570) F hI (x_inO (by decide)) (fun _ => rfl) (by decide) dX7_roomAt_10 ?_
  refine lv_iconst (v := 1) hx hb dX7_roomAt_11 (by decide) ?_
  refine lv_isub hx hb dX7_roomAt_12 ?_
  refine lv_i2l hx hb dX7_roomAt_13 rfl ?_
  obtain ⟨r1, h2, h⟩ := x_bnd h
  refine x_aci hI (x_runS (rest := []) F hI (mX7_in l X (x_sh σ 11 u) _ a1.toInt64 (0 : Int64) (((u 41 (Int32.toNatClampNeg (552 : Int32))) - (1 : Int32))).toInt64 r1 h2) g_X7_35 hd_X7_in ⟨by decide, by decide⟩ ⟨rfl, rfl⟩ rfl hl.1 rfl (Nat.le_of_ble_eq_true rfl) dX7_roomAt_14 ⟨Nat.zero_le _, Nat.zero_le _⟩) (fun H locs hI => ?_)
  refine lv_istore_n (lv' := [(2, .int r1), (0, .ref (X.2.2 11 40)), (1, .int a1)]) hx hb dX7_roomAt_17 rfl hl (by decide) rfl (fun ls hl => ?_)
  refine lv_aload_n hx hb dX7_roomAt_18 rfl (lv_at hl 1 rfl) ?_
  refine lv_iload_n hx hb dX7_roomAt_19 rfl (lv_at hl 0 rfl) ?_
  refine lv_if_ne (tgt := 27) hx hb dX7_roomAt_20 (by decide) (fun c3 => ?_) (fun c3 => ?_)
  · have h := x_iff h c3
    refine lv_aload_n hx hb dX7_roomAt_27 rfl (lv_at hl 1 rfl) ?_
    refine xg_7_1 F hI (x_inO (by decide)) u_fl_X7_7 dX7_roomAt_28 ?_
    refine lv_sipush (v := 192) hx hb dX7_roomAt_31 (by decide) ?_
    refine lv_bipush (v := 6) hx hb dX7_roomAt_34 (by decide) ?_
    refine lv_iload_n hx hb dX7_roomAt_36 rfl (lv_at hl 2 rfl) ?_
    refine lv_imul hx hb dX7_roomAt_37 ?_
    refine lv_iadd hx hb dX7_roomAt_38 ?_
    obtain ⟨g4, h⟩ := x_chk h
    refine xh_iald (n := 570) F hI (x_inO (by decide)) (fun _ => rfl) g4 dX7_roomAt_39 ?_
    refine lv_if_ne (tgt := 47) hx hb dX7_roomAt_40 (by decide) (fun c5 => ?_) (fun c5 => ?_)
    · have h := x_iff h c5
      refine lv_iconst (v := 0) hx hb dX7_roomAt_47 (by decide) ?_
      exact wX7_roomAt_j48 F u a1 (0 : Int32) _ _ _ h hI (lv_sub hl [1, 2] rfl)
    · have h := x_ift h c5
      refine lv_iconst (v := 2) hx hb dX7_roomAt_43 (by decide) ?_
      refine lv_goto (tgt := 48) hx hb dX7_roomAt_44 (by decide) ?_
      exact wX7_roomAt_j48 F u a1 (2 : Int32) _ _ _ h hI (lv_sub hl [1, 2] rfl)
  · have h := x_ift h c3
    refine lv_iconst (v := 1) hx hb dX7_roomAt_23 (by decide) ?_
    refine lv_goto (tgt := 48) hx hb dX7_roomAt_24 (by decide) ?_
    exact wX7_roomAt_j48 F u a1 (1 : Int32) _ _ _ h hI (lv_sub hl [1, 2] rfl)
abbrev rm_X7_time : Room := { frames := 1, cells := 0, slots := 0, locals := 21 }
def fX7_time (u : x_H) : Option (Int32 × x_H) := (Option.bind (fX7_tell u (554 : Int32)) fun r1 => some (r1.1, r1.2))
set_option maxHeartbeats 4000000 in
set_option maxRecDepth 100000 in
theorem mX7_time (l : Launch) (X : x_T) (σ : x_S) (sz : Nat) (u : x_H) (r : (Int32 × x_H)) (h : fX7_time u  = some r) : Met l yX7_time (x_ws yX7_time cX7_time 1 (some .int)) rm_X7_time (x_Pc X (x_sh σ 11 u) sz [.ref (X.2.2 11 40)]) (x_Qi X r.1 (x_sh σ 11 r.2) sz) 0 0 (x_A X sz) := by
  refine Met.ofW (cc := cX7_time) (maxL := 1) (ret := (some .int)) (by decide) rfl ?_
  intro p e s m args below meth c s₁ B hml hv
  obtain ⟨F, hI, rfl, rfl⟩ := x_begin B hml hv
  replace F : x_F p s m _ meth c cX7_time 1 RX7 (some .int) := F
  have hx := F.1
  have hb := F.2.1
  have hml := F.2.2.1
  have hown := F.2.2.2.1
  have hts := F.2.2.2.2.1
  refine x_entry (vs := [.ref (X.2.2 11 40)]) (n := 1) (Nat.le_of_ble_eq_true rfl) (fun ls hl => ?_)
  replace hl : lv_has ls 1 [(0, .ref (X.2.2 11 40))] := hl
  unfold fX7_time at h
  refine lv_aload_n hx hb dX7_time_0 rfl (lv_at hl 0 rfl) ?_
  refine lv_sipush (v := 554) hx hb dX7_time_1 (by decide) ?_
  obtain ⟨r1, h2, h⟩ := x_bnd h
  refine x_aci hI (x_runV (rest := []) F hI (mX7_tell l X σ _ u (554 : Int32) r1 h2) g_X7_218 ⟨rfl, hd_X7_tell⟩ ⟨by decide, by decide⟩ ⟨rfl, rfl⟩ (x_inO (by decide)) rfl rfl rfl rfl hl.1 rfl (Nat.le_of_ble_eq_true rfl) dX7_time_4 ⟨Nat.zero_le _, Nat.zero_le _⟩) (fun H locs hI => ?_)
  rw [x_some h]
  exact x_iret F hI dX7_time_7
abbrev rm_X7_sent : Room := { frames := 1, cells := 0, slots := 0, locals := 25 }
def fX7_sent (u : x_H) (a1 : Int32) : Option (Int32 × x_H) := (Option.bind (fX7_in a1.toInt64 (0 : Int64) (6 : Int64)) fun r1 => (if r1 = 0 then (Option.bind (fX7_refused u (1 : Int32)) fun r4 => (if r4.1 = 0 then (if x_in ((563 : Int32) + a1) 570 then some ((r4.2 41 (Int32.toNatClampNeg ((563 : Int32) + a1))), r4.2) else none) else some ((0 : Int32), r4.2))) else (Option.bind (fX7_refused u (0 : Int32)) fun r8 => (if r8.1 = 0 then (if x_in ((563 : Int32) + a1) 570 then some ((r8.2 41 (Int32.toNatClampNeg ((563 : Int32) + a1))), r8.2) else none) else some ((0 : Int32), r8.2)))))
set_option maxHeartbeats 4000000 in
set_option maxRecDepth 100000 in
theorem mX7_sent (l : Launch) (X : x_T) (σ : x_S) (sz : Nat) (u : x_H) (a1 : Int32) (r : (Int32 × x_H)) (h : fX7_sent u a1 = some r) : Met l yX7_sent (x_ws yX7_sent cX7_sent 2 (some .int)) rm_X7_sent (x_Pc X (x_sh σ 11 u) sz [.ref (X.2.2 11 40), .int a1]) (x_Qi X r.1 (x_sh σ 11 r.2) sz) 0 0 (x_A X sz) := by
  refine Met.ofW (cc := cX7_sent) (maxL := 2) (ret := (some .int)) (by decide) rfl ?_
  intro p e s m args below meth c s₁ B hml hv
  obtain ⟨F, hI, rfl, rfl⟩ := x_begin B hml hv
  replace F : x_F p s m _ meth c cX7_sent 2 RX7 (some .int) := F
  have hx := F.1
  have hb := F.2.1
  have hml := F.2.2.1
  have hown := F.2.2.2.1
  have hts := F.2.2.2.2.1
  refine x_entry (vs := [.ref (X.2.2 11 40), .int a1]) (n := 2) (Nat.le_of_ble_eq_true rfl) (fun ls hl => ?_)
  replace hl : lv_has ls 2 [(0, .ref (X.2.2 11 40)), (1, .int a1)] := hl
  unfold fX7_sent at h
  refine lv_aload_n hx hb dX7_sent_0 rfl (lv_at hl 0 rfl) ?_
  refine lv_iload_n hx hb dX7_sent_1 rfl (lv_at hl 1 rfl) ?_
  refine lv_i2l hx hb dX7_sent_2 rfl ?_
  refine lv_lconst (v := 0) hx hb dX7_sent_3 (by decide) ?_
  refine lv_ldc2 (v := 6) hx hb hown (hts _ u_cl_X7_221) dX7_sent_4 ?_
  obtain ⟨r1, h2, h⟩ := x_bnd h
  refine x_aci hI (x_runS (rest := [.ref (X.2.2 11 40)]) F hI (mX7_in l X (x_sh σ 11 u) _ a1.toInt64 (0 : Int64) (6 : Int64) r1 h2) g_X7_35 hd_X7_in ⟨by decide, by decide⟩ ⟨rfl, rfl⟩ rfl hl.1 rfl (Nat.le_of_ble_eq_true rfl) dX7_sent_7 ⟨Nat.zero_le _, Nat.zero_le _⟩) (fun H locs hI => ?_)
  refine lv_if_eq (tgt := 17) hx hb dX7_sent_10 (by decide) (fun c3 => ?_) (fun c3 => ?_)
  · have h := x_ift h c3
    refine lv_iconst (v := 1) hx hb dX7_sent_17 (by decide) ?_
    obtain ⟨r4, h5, h⟩ := x_bnd h
    refine x_aci hI (x_runV (rest := []) F hI (mX7_refused l X σ _ u (1 : Int32) r4 h5) g_X7_97 ⟨rfl, hd_X7_refused⟩ ⟨by decide, by decide⟩ ⟨rfl, rfl⟩ (x_inO (by decide)) rfl rfl rfl rfl hl.1 rfl (Nat.le_of_ble_eq_true rfl) dX7_sent_18 ⟨Nat.zero_le _, Nat.zero_le _⟩) (fun H locs hI => ?_)
    refine lv_if_eq (tgt := 28) hx hb dX7_sent_21 (by decide) (fun c6 => ?_) (fun c6 => ?_)
    · have h := x_ift h c6
      refine lv_aload_n hx hb dX7_sent_28 rfl (lv_at hl 0 rfl) ?_
      refine xg_7_1 F hI (x_inO (by decide)) u_fl_X7_7 dX7_sent_29 ?_
      refine lv_sipush (v := 563) hx hb dX7_sent_32 (by decide) ?_
      refine lv_iload_n hx hb dX7_sent_35 rfl (lv_at hl 1 rfl) ?_
      refine lv_iadd hx hb dX7_sent_36 ?_
      obtain ⟨g7, h⟩ := x_chk h
      refine xh_iald (n := 570) F hI (x_inO (by decide)) (fun _ => rfl) g7 dX7_sent_37 ?_
      rw [x_some h]
      exact x_iret F hI dX7_sent_38
    · have h := x_iff h c6
      refine lv_iconst (v := 0) hx hb dX7_sent_24 (by decide) ?_
      refine lv_goto (tgt := 38) hx hb dX7_sent_25 (by decide) ?_
      rw [x_some h]
      exact x_iret F hI dX7_sent_38
  · have h := x_iff h c3
    refine lv_iconst (v := 0) hx hb dX7_sent_13 (by decide) ?_
    refine lv_goto (tgt := 18) hx hb dX7_sent_14 (by decide) ?_
    obtain ⟨r8, h9, h⟩ := x_bnd h
    refine x_aci hI (x_runV (rest := []) F hI (mX7_refused l X σ _ u (0 : Int32) r8 h9) g_X7_97 ⟨rfl, hd_X7_refused⟩ ⟨by decide, by decide⟩ ⟨rfl, rfl⟩ (x_inO (by decide)) rfl rfl rfl rfl hl.1 rfl (Nat.le_of_ble_eq_true rfl) dX7_sent_18 ⟨Nat.zero_le _, Nat.zero_le _⟩) (fun H locs hI => ?_)
    refine lv_if_eq (tgt := 28) hx hb dX7_sent_21 (by decide) (fun c10 => ?_) (fun c10 => ?_)
    · have h := x_ift h c10
      refine lv_aload_n hx hb dX7_sent_28 rfl (lv_at hl 0 rfl) ?_
      refine xg_7_1 F hI (x_inO (by decide)) u_fl_X7_7 dX7_sent_29 ?_
      refine lv_sipush (v := 563) hx hb dX7_sent_32 (by decide) ?_
      refine lv_iload_n hx hb dX7_sent_35 rfl (lv_at hl 1 rfl) ?_
      refine lv_iadd hx hb dX7_sent_36 ?_
      obtain ⟨g11, h⟩ := x_chk h
      refine xh_iald (n := 570) F hI (x_inO (by decide)) (fun _ => rfl) g11 dX7_sent_37 ?_
      rw [x_some h]
      exact x_iret F hI dX7_sent_38
    · have h := x_iff h c10
      refine lv_iconst (v := 0) hx hb dX7_sent_24 (by decide) ?_
      refine lv_goto (tgt := 38) hx hb dX7_sent_25 (by decide) ?_
      rw [x_some h]
      exact x_iret F hI dX7_sent_38
abbrev rm_X7_lost : Room := { frames := 1, cells := 0, slots := 0, locals := 21 }
def fX7_lost (u : x_H) : Option (Int32 × x_H) := (Option.bind (fX7_tell u (558 : Int32)) fun r1 => some (r1.1, r1.2))
set_option maxHeartbeats 4000000 in
set_option maxRecDepth 100000 in
theorem mX7_lost (l : Launch) (X : x_T) (σ : x_S) (sz : Nat) (u : x_H) (r : (Int32 × x_H)) (h : fX7_lost u  = some r) : Met l yX7_lost (x_ws yX7_lost cX7_lost 1 (some .int)) rm_X7_lost (x_Pc X (x_sh σ 11 u) sz [.ref (X.2.2 11 40)]) (x_Qi X r.1 (x_sh σ 11 r.2) sz) 0 0 (x_A X sz) := by
  refine Met.ofW (cc := cX7_lost) (maxL := 1) (ret := (some .int)) (by decide) rfl ?_
  intro p e s m args below meth c s₁ B hml hv
  obtain ⟨F, hI, rfl, rfl⟩ := x_begin B hml hv
  replace F : x_F p s m _ meth c cX7_lost 1 RX7 (some .int) := F
  have hx := F.1
  have hb := F.2.1
  have hml := F.2.2.1
  have hown := F.2.2.2.1
  have hts := F.2.2.2.2.1
  refine x_entry (vs := [.ref (X.2.2 11 40)]) (n := 1) (Nat.le_of_ble_eq_true rfl) (fun ls hl => ?_)
  replace hl : lv_has ls 1 [(0, .ref (X.2.2 11 40))] := hl
  unfold fX7_lost at h
  refine lv_aload_n hx hb dX7_lost_0 rfl (lv_at hl 0 rfl) ?_
  refine lv_sipush (v := 558) hx hb dX7_lost_1 (by decide) ?_
  obtain ⟨r1, h2, h⟩ := x_bnd h
  refine x_aci hI (x_runV (rest := []) F hI (mX7_tell l X σ _ u (558 : Int32) r1 h2) g_X7_218 ⟨rfl, hd_X7_tell⟩ ⟨by decide, by decide⟩ ⟨rfl, rfl⟩ (x_inO (by decide)) rfl rfl rfl rfl hl.1 rfl (Nat.le_of_ble_eq_true rfl) dX7_lost_4 ⟨Nat.zero_le _, Nat.zero_le _⟩) (fun H locs hI => ?_)
  rw [x_some h]
  exact x_iret F hI dX7_lost_7
abbrev rm_X7_delivered : Room := { frames := 1, cells := 0, slots := 0, locals := 21 }
def fX7_delivered (u : x_H) : Option (Int32 × x_H) := (Option.bind (fX7_tell u (559 : Int32)) fun r1 => some (r1.1, r1.2))
set_option maxHeartbeats 4000000 in
set_option maxRecDepth 100000 in
theorem mX7_delivered (l : Launch) (X : x_T) (σ : x_S) (sz : Nat) (u : x_H) (r : (Int32 × x_H)) (h : fX7_delivered u  = some r) : Met l yX7_delivered (x_ws yX7_delivered cX7_delivered 1 (some .int)) rm_X7_delivered (x_Pc X (x_sh σ 11 u) sz [.ref (X.2.2 11 40)]) (x_Qi X r.1 (x_sh σ 11 r.2) sz) 0 0 (x_A X sz) := by
  refine Met.ofW (cc := cX7_delivered) (maxL := 1) (ret := (some .int)) (by decide) rfl ?_
  intro p e s m args below meth c s₁ B hml hv
  obtain ⟨F, hI, rfl, rfl⟩ := x_begin B hml hv
  replace F : x_F p s m _ meth c cX7_delivered 1 RX7 (some .int) := F
  have hx := F.1
  have hb := F.2.1
  have hml := F.2.2.1
  have hown := F.2.2.2.1
  have hts := F.2.2.2.2.1
  refine x_entry (vs := [.ref (X.2.2 11 40)]) (n := 1) (Nat.le_of_ble_eq_true rfl) (fun ls hl => ?_)
  replace hl : lv_has ls 1 [(0, .ref (X.2.2 11 40))] := hl
  unfold fX7_delivered at h
  refine lv_aload_n hx hb dX7_delivered_0 rfl (lv_at hl 0 rfl) ?_
  refine lv_sipush (v := 559) hx hb dX7_delivered_1 (by decide) ?_
  obtain ⟨r1, h2, h⟩ := x_bnd h
  refine x_aci hI (x_runV (rest := []) F hI (mX7_tell l X σ _ u (559 : Int32) r1 h2) g_X7_218 ⟨rfl, hd_X7_tell⟩ ⟨by decide, by decide⟩ ⟨rfl, rfl⟩ (x_inO (by decide)) rfl rfl rfl rfl hl.1 rfl (Nat.le_of_ble_eq_true rfl) dX7_delivered_4 ⟨Nat.zero_le _, Nat.zero_le _⟩) (fun H locs hI => ?_)
  rw [x_some h]
  exact x_iret F hI dX7_delivered_7
abbrev rm_X7_leases : Room := { frames := 1, cells := 0, slots := 0, locals := 21 }
def fX7_leases (u : x_H) : Option (Int32 × x_H) := (Option.bind (fX7_tell u (560 : Int32)) fun r1 => some (r1.1, r1.2))
set_option maxHeartbeats 4000000 in
set_option maxRecDepth 100000 in
theorem mX7_leases (l : Launch) (X : x_T) (σ : x_S) (sz : Nat) (u : x_H) (r : (Int32 × x_H)) (h : fX7_leases u  = some r) : Met l yX7_leases (x_ws yX7_leases cX7_leases 1 (some .int)) rm_X7_leases (x_Pc X (x_sh σ 11 u) sz [.ref (X.2.2 11 40)]) (x_Qi X r.1 (x_sh σ 11 r.2) sz) 0 0 (x_A X sz) := by
  refine Met.ofW (cc := cX7_leases) (maxL := 1) (ret := (some .int)) (by decide) rfl ?_
  intro p e s m args below meth c s₁ B hml hv
  obtain ⟨F, hI, rfl, rfl⟩ := x_begin B hml hv
  replace F : x_F p s m _ meth c cX7_leases 1 RX7 (some .int) := F
  have hx := F.1
  have hb := F.2.1
  have hml := F.2.2.1
  have hown := F.2.2.2.1
  have hts := F.2.2.2.2.1
  refine x_entry (vs := [.ref (X.2.2 11 40)]) (n := 1) (Nat.le_of_ble_eq_true rfl) (fun ls hl => ?_)
  replace hl : lv_has ls 1 [(0, .ref (X.2.2 11 40))] := hl
  unfold fX7_leases at h
  refine lv_aload_n hx hb dX7_leases_0 rfl (lv_at hl 0 rfl) ?_
  refine lv_sipush (v := 560) hx hb dX7_leases_1 (by decide) ?_
  obtain ⟨r1, h2, h⟩ := x_bnd h
  refine x_aci hI (x_runV (rest := []) F hI (mX7_tell l X σ _ u (560 : Int32) r1 h2) g_X7_218 ⟨rfl, hd_X7_tell⟩ ⟨by decide, by decide⟩ ⟨rfl, rfl⟩ (x_inO (by decide)) rfl rfl rfl rfl hl.1 rfl (Nat.le_of_ble_eq_true rfl) dX7_leases_4 ⟨Nat.zero_le _, Nat.zero_le _⟩) (fun H locs hI => ?_)
  rw [x_some h]
  exact x_iret F hI dX7_leases_7
abbrev rm_X7_evicted : Room := { frames := 1, cells := 0, slots := 0, locals := 21 }
def fX7_evicted (u : x_H) : Option (Int32 × x_H) := (Option.bind (fX7_tell u (561 : Int32)) fun r1 => some (r1.1, r1.2))
set_option maxHeartbeats 4000000 in
set_option maxRecDepth 100000 in
theorem mX7_evicted (l : Launch) (X : x_T) (σ : x_S) (sz : Nat) (u : x_H) (r : (Int32 × x_H)) (h : fX7_evicted u  = some r) : Met l yX7_evicted (x_ws yX7_evicted cX7_evicted 1 (some .int)) rm_X7_evicted (x_Pc X (x_sh σ 11 u) sz [.ref (X.2.2 11 40)]) (x_Qi X r.1 (x_sh σ 11 r.2) sz) 0 0 (x_A X sz) := by
  refine Met.ofW (cc := cX7_evicted) (maxL := 1) (ret := (some .int)) (by decide) rfl ?_
  intro p e s m args below meth c s₁ B hml hv
  obtain ⟨F, hI, rfl, rfl⟩ := x_begin B hml hv
  replace F : x_F p s m _ meth c cX7_evicted 1 RX7 (some .int) := F
  have hx := F.1
  have hb := F.2.1
  have hml := F.2.2.1
  have hown := F.2.2.2.1
  have hts := F.2.2.2.2.1
  refine x_entry (vs := [.ref (X.2.2 11 40)]) (n := 1) (Nat.le_of_ble_eq_true rfl) (fun ls hl => ?_)
  replace hl : lv_has ls 1 [(0, .ref (X.2.2 11 40))] := hl
  unfold fX7_evicted at h
  refine lv_aload_n hx hb dX7_evicted_0 rfl (lv_at hl 0 rfl) ?_
  refine lv_sipush (v := 561) hx hb dX7_evicted_1 (by decide) ?_
  obtain ⟨r1, h2, h⟩ := x_bnd h
  refine x_aci hI (x_runV (rest := []) F hI (mX7_tell l X σ _ u (561 : Int32) r1 h2) g_X7_218 ⟨rfl, hd_X7_tell⟩ ⟨by decide, by decide⟩ ⟨rfl, rfl⟩ (x_inO (by decide)) rfl rfl rfl rfl hl.1 rfl (Nat.le_of_ble_eq_true rfl) dX7_evicted_4 ⟨Nat.zero_le _, Nat.zero_le _⟩) (fun H locs hI => ?_)
  rw [x_some h]
  exact x_iret F hI dX7_evicted_7
abbrev rm_X7_shutSoFar : Room := { frames := 1, cells := 0, slots := 0, locals := 21 }
def fX7_shutSoFar (u : x_H) : Option (Int32 × x_H) := (Option.bind (fX7_tell u (562 : Int32)) fun r1 => some (r1.1, r1.2))
set_option maxHeartbeats 4000000 in
set_option maxRecDepth 100000 in
theorem mX7_shutSoFar (l : Launch) (X : x_T) (σ : x_S) (sz : Nat) (u : x_H) (r : (Int32 × x_H)) (h : fX7_shutSoFar u  = some r) : Met l yX7_shutSoFar (x_ws yX7_shutSoFar cX7_shutSoFar 1 (some .int)) rm_X7_shutSoFar (x_Pc X (x_sh σ 11 u) sz [.ref (X.2.2 11 40)]) (x_Qi X r.1 (x_sh σ 11 r.2) sz) 0 0 (x_A X sz) := by
  refine Met.ofW (cc := cX7_shutSoFar) (maxL := 1) (ret := (some .int)) (by decide) rfl ?_
  intro p e s m args below meth c s₁ B hml hv
  obtain ⟨F, hI, rfl, rfl⟩ := x_begin B hml hv
  replace F : x_F p s m _ meth c cX7_shutSoFar 1 RX7 (some .int) := F
  have hx := F.1
  have hb := F.2.1
  have hml := F.2.2.1
  have hown := F.2.2.2.1
  have hts := F.2.2.2.2.1
  refine x_entry (vs := [.ref (X.2.2 11 40)]) (n := 1) (Nat.le_of_ble_eq_true rfl) (fun ls hl => ?_)
  replace hl : lv_has ls 1 [(0, .ref (X.2.2 11 40))] := hl
  unfold fX7_shutSoFar at h
  refine lv_aload_n hx hb dX7_shutSoFar_0 rfl (lv_at hl 0 rfl) ?_
  refine lv_sipush (v := 562) hx hb dX7_shutSoFar_1 (by decide) ?_
  obtain ⟨r1, h2, h⟩ := x_bnd h
  refine x_aci hI (x_runV (rest := []) F hI (mX7_tell l X σ _ u (562 : Int32) r1 h2) g_X7_218 ⟨rfl, hd_X7_tell⟩ ⟨by decide, by decide⟩ ⟨rfl, rfl⟩ (x_inO (by decide)) rfl rfl rfl rfl hl.1 rfl (Nat.le_of_ble_eq_true rfl) dX7_shutSoFar_4 ⟨Nat.zero_le _, Nat.zero_le _⟩) (fun H locs hI => ?_)
  rw [x_some h]
  exact x_iret F hI dX7_shutSoFar_7
abbrev rm_X7_wouldDeliver : Room := { frames := 6, cells := 0, slots := 0, locals := 144 }
def fX7_wouldDeliver (u : x_H) : Option (Int32 × x_H) := x_let (x_hu u 40 0 (0 : Int32)) fun u1 => x_let (x_hs u1 42 (u1 41)) fun u3 => (Option.bind (fX7_handleAll (u3 42) ) fun r5 => x_let (x_hs u3 42 r5.2) fun u7 => some (r5.1, u7))
set_option maxHeartbeats 4000000 in
set_option maxRecDepth 100000 in
theorem mX7_wouldDeliver (l : Launch) (X : x_T) (σ : x_S) (sz : Nat) (u : x_H) (r : (Int32 × x_H)) (h : fX7_wouldDeliver u  = some r) : Met l yX7_wouldDeliver (x_ws yX7_wouldDeliver cX7_wouldDeliver 1 (some .int)) rm_X7_wouldDeliver (x_Pc X (x_sh σ 11 u) sz [.ref (X.2.2 11 40)]) (x_Qi X r.1 (x_sh σ 11 r.2) sz) 0 0 (x_A X sz) := by
  refine Met.ofW (cc := cX7_wouldDeliver) (maxL := 1) (ret := (some .int)) (by decide) rfl ?_
  intro p e s m args below meth c s₁ B hml hv
  obtain ⟨F, hI, rfl, rfl⟩ := x_begin B hml hv
  replace F : x_F p s m _ meth c cX7_wouldDeliver 1 RX7 (some .int) := F
  have hx := F.1
  have hb := F.2.1
  have hml := F.2.2.1
  have hown := F.2.2.2.1
  have hts := F.2.2.2.2.1
  refine x_entry (vs := [.ref (X.2.2 11 40)]) (n := 1) (Nat.le_of_ble_eq_true rfl) (fun ls hl => ?_)
  replace hl : lv_has ls 1 [(0, .ref (X.2.2 11 40))] := hl
  unfold fX7_wouldDeliver at h
  refine lv_aload_n hx hb dX7_wouldDeliver_0 rfl (lv_at hl 0 rfl) ?_
  refine lv_iconst (v := 0) hx hb dX7_wouldDeliver_1 (by decide) ?_
  refine xp_7_0 F hI (x_inO (by decide)) u_fl_X7_29 dX7_wouldDeliver_2 (fun H locs u1 e2 hI => ?_)
  have h := x_let_at h e2
  refine lv_aload_n hx hb dX7_wouldDeliver_5 rfl (lv_at hl 0 rfl) ?_
  refine xg_7_1 F hI (x_inO (by decide)) u_fl_X7_7 dX7_wouldDeliver_6 ?_
  refine lv_aload_n hx hb dX7_wouldDeliver_9 rfl (lv_at hl 0 rfl) ?_
  refine xg_7_2 F hI (x_inO (by decide)) u_fl_X7_13 dX7_wouldDeliver_10 ?_
  refine x_acv hI (x_runS (rest := []) F hI (mX7_copyN l X σ 41 42 (x_inO (by decide)) (x_inO (by decide)) (fun _ => rfl) (fun _ => rfl) (by decide) _ u1) g_X7_178 hd_X7_copy ⟨by decide, by decide⟩ ⟨rfl, rfl⟩ rfl hl.1 rfl (Nat.le_of_ble_eq_true rfl) dX7_wouldDeliver_13 ⟨Nat.zero_le _, Nat.zero_le _⟩) (fun H locs hI => ?_)
  obtain ⟨u3, e4⟩ : ∃ z : x_H, z = (x_hs u1 42 (u1 41)) := ⟨_, rfl⟩
  rw [← e4] at hI
  have h := x_let_at h e4
  refine lv_aload_n hx hb dX7_wouldDeliver_16 rfl (lv_at hl 0 rfl) ?_
  refine xg_7_2 F hI (x_inO (by decide)) u_fl_X7_13 dX7_wouldDeliver_17 ?_
  obtain ⟨r5, h6, h⟩ := x_bnd h
  have hI := x_toV 42 hI
  refine x_aci hI (x_runS (rest := []) F hI (mX7_handleAll l X σ u3 42 (x_inO (by decide)) (fun _ => rfl) _ (u3 42)  r5 h6) g_X7_131 hd_X7_handleAll ⟨by decide, by decide⟩ ⟨rfl, rfl⟩ rfl hl.1 rfl (Nat.le_of_ble_eq_true rfl) dX7_wouldDeliver_20 ⟨Nat.zero_le _, Nat.zero_le _⟩) (fun H locs hI => ?_)
  obtain ⟨u7, e8⟩ : ∃ z : x_H, z = x_hs u3 42 r5.2 := ⟨_, rfl⟩
  rw [← e8] at hI
  have h := x_let_at h e8
  rw [x_some h]
  exact x_iret F hI dX7_wouldDeliver_23
abbrev rm_X7_wouldHouse : Room := { frames := 6, cells := 0, slots := 0, locals := 144 }
def fX7_wouldHouse (u : x_H) : Option (Int32 × x_H) := x_let (x_hu u 40 0 (0 : Int32)) fun u1 => x_let (x_hs u1 42 (u1 41)) fun u3 => (Option.bind (fX7_handleAll (u3 42) ) fun r5 => x_let (x_hs u3 42 r5.2) fun u7 => (Option.bind (fX7_inRooms (u7 42) ) fun r9 => some (r9, u7)))
set_option maxHeartbeats 4000000 in
set_option maxRecDepth 100000 in
theorem mX7_wouldHouse (l : Launch) (X : x_T) (σ : x_S) (sz : Nat) (u : x_H) (r : (Int32 × x_H)) (h : fX7_wouldHouse u  = some r) : Met l yX7_wouldHouse (x_ws yX7_wouldHouse cX7_wouldHouse 2 (some .int)) rm_X7_wouldHouse (x_Pc X (x_sh σ 11 u) sz [.ref (X.2.2 11 40)]) (x_Qi X r.1 (x_sh σ 11 r.2) sz) 0 0 (x_A X sz) := by
  refine Met.ofW (cc := cX7_wouldHouse) (maxL := 2) (ret := (some .int)) (by decide) rfl ?_
  intro p e s m args below meth c s₁ B hml hv
  obtain ⟨F, hI, rfl, rfl⟩ := x_begin B hml hv
  replace F : x_F p s m _ meth c cX7_wouldHouse 2 RX7 (some .int) := F
  have hx := F.1
  have hb := F.2.1
  have hml := F.2.2.1
  have hown := F.2.2.2.1
  have hts := F.2.2.2.2.1
  refine x_entry (vs := [.ref (X.2.2 11 40)]) (n := 2) (Nat.le_of_ble_eq_true rfl) (fun ls hl => ?_)
  replace hl : lv_has ls 2 [(0, .ref (X.2.2 11 40))] := hl
  unfold fX7_wouldHouse at h
  refine lv_aload_n hx hb dX7_wouldHouse_0 rfl (lv_at hl 0 rfl) ?_
  refine lv_iconst (v := 0) hx hb dX7_wouldHouse_1 (by decide) ?_
  refine xp_7_0 F hI (x_inO (by decide)) u_fl_X7_29 dX7_wouldHouse_2 (fun H locs u1 e2 hI => ?_)
  have h := x_let_at h e2
  refine lv_aload_n hx hb dX7_wouldHouse_5 rfl (lv_at hl 0 rfl) ?_
  refine xg_7_1 F hI (x_inO (by decide)) u_fl_X7_7 dX7_wouldHouse_6 ?_
  refine lv_aload_n hx hb dX7_wouldHouse_9 rfl (lv_at hl 0 rfl) ?_
  refine xg_7_2 F hI (x_inO (by decide)) u_fl_X7_13 dX7_wouldHouse_10 ?_
  refine x_acv hI (x_runS (rest := []) F hI (mX7_copyN l X σ 41 42 (x_inO (by decide)) (x_inO (by decide)) (fun _ => rfl) (fun _ => rfl) (by decide) _ u1) g_X7_178 hd_X7_copy ⟨by decide, by decide⟩ ⟨rfl, rfl⟩ rfl hl.1 rfl (Nat.le_of_ble_eq_true rfl) dX7_wouldHouse_13 ⟨Nat.zero_le _, Nat.zero_le _⟩) (fun H locs hI => ?_)
  obtain ⟨u3, e4⟩ : ∃ z : x_H, z = (x_hs u1 42 (u1 41)) := ⟨_, rfl⟩
  rw [← e4] at hI
  have h := x_let_at h e4
  refine lv_aload_n hx hb dX7_wouldHouse_16 rfl (lv_at hl 0 rfl) ?_
  refine xg_7_2 F hI (x_inO (by decide)) u_fl_X7_13 dX7_wouldHouse_17 ?_
  obtain ⟨r5, h6, h⟩ := x_bnd h
  have hI := x_toV 42 hI
  refine x_aci hI (x_runS (rest := []) F hI (mX7_handleAll l X σ u3 42 (x_inO (by decide)) (fun _ => rfl) _ (u3 42)  r5 h6) g_X7_131 hd_X7_handleAll ⟨by decide, by decide⟩ ⟨rfl, rfl⟩ rfl hl.1 rfl (Nat.le_of_ble_eq_true rfl) dX7_wouldHouse_20 ⟨Nat.zero_le _, Nat.zero_le _⟩) (fun H locs hI => ?_)
  obtain ⟨u7, e8⟩ : ∃ z : x_H, z = x_hs u3 42 r5.2 := ⟨_, rfl⟩
  rw [← e8] at hI
  have h := x_let_at h e8
  refine lv_istore_n (lv' := [(1, .int r5.1), (0, .ref (X.2.2 11 40))]) hx hb dX7_wouldHouse_23 rfl hl (by decide) rfl (fun ls hl => ?_)
  refine lv_aload_n hx hb dX7_wouldHouse_24 rfl (lv_at hl 1 rfl) ?_
  refine xg_7_2 F hI (x_inO (by decide)) u_fl_X7_13 dX7_wouldHouse_25 ?_
  obtain ⟨r9, h10, h⟩ := x_bnd h
  have hI := x_toV 42 hI
  refine x_aci hI (x_runS (rest := []) F hI (mX7_inRooms l X σ u7 42 (x_inO (by decide)) (fun _ => rfl) _ (u7 42)  r9 h10) g_X7_188 hd_X7_inRooms ⟨by decide, by decide⟩ ⟨rfl, rfl⟩ rfl hl.1 rfl (Nat.le_of_ble_eq_true rfl) dX7_wouldHouse_28 ⟨Nat.zero_le _, Nat.zero_le _⟩) (fun H locs hI => ?_)
  rw [x_hs_self] at hI
  rw [x_some h]
  exact x_iret F hI dX7_wouldHouse_31
abbrev rm_X7_share : Room := { frames := 2, cells := 0, slots := 0, locals := 44 }
def fX7_share (u : x_H) : Option UInt64 := (Option.bind (fX7_rooms u (2 : Int32)) fun r1 => if x_nn (FP.ddiv (FP.i2d r1) (4625196817309499392 : UInt64)) then some (FP.ddiv (FP.i2d r1) (4625196817309499392 : UInt64)) else none)
set_option maxHeartbeats 4000000 in
set_option maxRecDepth 100000 in
theorem mX7_share (l : Launch) (X : x_T) (σ : x_S) (sz : Nat) (u : x_H) (r : UInt64) (h : fX7_share u  = some r) : Met l yX7_share (x_ws yX7_share cX7_share 1 (some .double)) rm_X7_share (x_Pc X (x_sh σ 11 u) sz [.ref (X.2.2 11 40)]) (x_Qd X r (x_sh σ 11 u) sz) 0 0 (x_A X sz) := by
  refine Met.ofW (cc := cX7_share) (maxL := 1) (ret := (some .double)) (by decide) rfl ?_
  intro p e s m args below meth c s₁ B hml hv
  obtain ⟨F, hI, rfl, rfl⟩ := x_begin B hml hv
  replace F : x_F p s m _ meth c cX7_share 1 RX7 (some .double) := F
  have hx := F.1
  have hb := F.2.1
  have hml := F.2.2.1
  have hown := F.2.2.2.1
  have hts := F.2.2.2.2.1
  refine x_entry (vs := [.ref (X.2.2 11 40)]) (n := 1) (Nat.le_of_ble_eq_true rfl) (fun ls hl => ?_)
  replace hl : lv_has ls 1 [(0, .ref (X.2.2 11 40))] := hl
  unfold fX7_share at h
  refine lv_aload_n hx hb dX7_share_0 rfl (lv_at hl 0 rfl) ?_
  refine lv_iconst (v := 2) hx hb dX7_share_1 (by decide) ?_
  obtain ⟨r1, h2, h⟩ := x_bnd h
  refine x_aci hI (x_runV (rest := []) F hI (mX7_rooms l X σ _ u (2 : Int32) r1 h2) g_X7_212 ⟨rfl, hd_X7_rooms⟩ ⟨by decide, by decide⟩ ⟨rfl, rfl⟩ (x_inO (by decide)) rfl rfl rfl rfl hl.1 rfl (Nat.le_of_ble_eq_true rfl) dX7_share_2 ⟨Nat.zero_le _, Nat.zero_le _⟩) (fun H locs hI => ?_)
  refine lv_i2d hx hb dX7_share_5 ?_
  refine lv_ldc2d hx hb hown (hts _ u_cd_X7_223) dX7_share_6 ?_
  obtain ⟨g3, h⟩ := x_chk h
  refine lv_ddiv hx hb dX7_share_9 g3 ?_
  rw [x_some h]
  exact x_dret F hI dX7_share_10
abbrev rm_X7_leasedShare : Room := { frames := 3, cells := 0, slots := 0, locals := 64 }
def fX7_leasedShare (u : x_H) : Option (UInt64 × x_H) := x_let (x_hu u 40 0 (0 : Int32)) fun u1 => (Option.bind (fX7_share u1 ) fun r3 => some (r3, u1))
set_option maxHeartbeats 4000000 in
set_option maxRecDepth 100000 in
theorem mX7_leasedShare (l : Launch) (X : x_T) (σ : x_S) (sz : Nat) (u : x_H) (r : (UInt64 × x_H)) (h : fX7_leasedShare u  = some r) : Met l yX7_leasedShare (x_ws yX7_leasedShare cX7_leasedShare 1 (some .double)) rm_X7_leasedShare (x_Pc X (x_sh σ 11 u) sz [.ref (X.2.2 11 40)]) (x_Qd X r.1 (x_sh σ 11 r.2) sz) 0 0 (x_A X sz) := by
  refine Met.ofW (cc := cX7_leasedShare) (maxL := 1) (ret := (some .double)) (by decide) rfl ?_
  intro p e s m args below meth c s₁ B hml hv
  obtain ⟨F, hI, rfl, rfl⟩ := x_begin B hml hv
  replace F : x_F p s m _ meth c cX7_leasedShare 1 RX7 (some .double) := F
  have hx := F.1
  have hb := F.2.1
  have hml := F.2.2.1
  have hown := F.2.2.2.1
  have hts := F.2.2.2.2.1
  refine x_entry (vs := [.ref (X.2.2 11 40)]) (n := 1) (Nat.le_of_ble_eq_true rfl) (fun ls hl => ?_)
  replace hl : lv_has ls 1 [(0, .ref (X.2.2 11 40))] := hl
  unfold fX7_leasedShare at h
  refine lv_aload_n hx hb dX7_leasedShare_0 rfl (lv_at hl 0 rfl) ?_
  refine lv_iconst (v := 0) hx hb dX7_leasedShare_1 (by decide) ?_
  refine xp_7_0 F hI (x_inO (by decide)) u_fl_X7_29 dX7_leasedShare_2 (fun H locs u1 e2 hI => ?_)
  have h := x_let_at h e2
  refine lv_aload_n hx hb dX7_leasedShare_5 rfl (lv_at hl 0 rfl) ?_
  obtain ⟨r3, h4, h⟩ := x_bnd h
  refine x_acd hI (x_runV (rest := []) F hI (mX7_share l X σ _ u1  r3 h4) g_X7_225 ⟨rfl, hd_X7_share⟩ ⟨by decide, by decide⟩ ⟨rfl, rfl⟩ (x_inO (by decide)) rfl rfl rfl rfl hl.1 rfl (Nat.le_of_ble_eq_true rfl) dX7_leasedShare_6 ⟨Nat.zero_le _, Nat.zero_le _⟩) (fun H locs hI => ?_)
  rw [x_some h]
  exact x_dret F hI dX7_leasedShare_9
abbrev rm_X7_guestHash : Room := { frames := 3, cells := 0, slots := 0, locals := 70 }
def fX7_guestHash_j122 (u : x_H) (y3 : Int32) (z0 : Int64) (z1 : Int64) : Option Int64 := (Option.bind (fX7_mix z1 z0) fun r27 => (if x_in (((8 : Int32) * y3) + (6 : Int32)) 570 then (Option.bind (fX7_mix r27 ((u 41 (Int32.toNatClampNeg (((8 : Int32) * y3) + (6 : Int32))))).toInt64) fun r30 => (Option.bind (fX7_choice (u 41) y3) fun r32 => (Option.bind (fX7_mix r30 ((r32 + (1 : Int32))).toInt64) fun r34 => some (r34)))) else none))
set_option maxHeartbeats 4000000 in
set_option maxRecDepth 100000 in
theorem wX7_guestHash_j122 {p : Program} {l : Launch} {e : Env} {s : State} {m : MethodId} {args : Array Value} {below : List Frame} {meth : Method} {c : Code} {X : x_T} {σ : x_S} {r : Int64} (F : x_F p s m args meth c cX7_guestHash 7 RX7 (some .long)) (u : x_H) (y3 : Int32) (z0 : Int64) (z1 : Int64) (H : Heap) (locs : List Loc) (ls : Array Slot) (h : fX7_guestHash_j122 u y3 z0 z1 = some r) (hI : x_I X (x_sh σ 11 u) s H locs) (hl : lv_has ls 7 [(0, .ref (X.2.2 11 40)), (3, .int y3)]) : W p l e rm_X7_guestHash s m args below meth c H locs 0 0 (MQ below (x_Ql X r (x_sh σ 11 u) s.heap.size) args s 0 0 (x_A X s.heap.size)) (F0 m 122 ls [.long z0, .long z1]) := by
  have hx := F.1
  have hb := F.2.1
  have hml := F.2.2.1
  have hown := F.2.2.2.1
  have hts := F.2.2.2.2.1
  unfold fX7_guestHash_j122 at h
  obtain ⟨r27, h28, h⟩ := x_bnd h
  refine x_acl hI (x_runS (rest := []) F hI (mX7_mix l X (x_sh σ 11 u) _ z1 z0 r27 h28) g_X7_231 hd_X7_mix ⟨by decide, by decide⟩ ⟨rfl, rfl⟩ rfl hl.1 rfl (Nat.le_of_ble_eq_true rfl) dX7_guestHash_122 ⟨Nat.zero_le _, Nat.zero_le _⟩) (fun H locs hI => ?_)
  refine lv_aload_n hx hb dX7_guestHash_125 rfl (lv_at hl 0 rfl) ?_
  refine xg_7_1 F hI (x_inO (by decide)) u_fl_X7_7 dX7_guestHash_126 ?_
  refine lv_bipush (v := 8) hx hb dX7_guestHash_129 (by decide) ?_
  refine lv_iload_n hx hb dX7_guestHash_131 rfl (lv_at hl 1 rfl) ?_
  refine lv_imul hx hb dX7_guestHash_132 ?_
  refine lv_bipush (v := 6) hx hb dX7_guestHash_133 (by decide) ?_
  refine lv_iadd hx hb dX7_guestHash_135 ?_
  obtain ⟨g29, h⟩ := x_chk h
  refine xh_iald (n := 570) F hI (x_inO (by decide)) (fun _ => rfl) g29 dX7_guestHash_136 ?_
  refine lv_i2l hx hb dX7_guestHash_137 rfl ?_
  obtain ⟨r30, h31, h⟩ := x_bnd h
  refine x_acl hI (x_runS (rest := []) F hI (mX7_mix l X (x_sh σ 11 u) _ r27 ((u 41 (Int32.toNatClampNeg (((8 : Int32) * y3) + (6 : Int32))))).toInt64 r30 h31) g_X7_231 hd_X7_mix ⟨by decide, by decide⟩ ⟨rfl, rfl⟩ rfl hl.1 rfl (Nat.le_of_ble_eq_true rfl) dX7_guestHash_138 ⟨Nat.zero_le _, Nat.zero_le _⟩) (fun H locs hI => ?_)
  refine lv_lstore (lv' := [(5, .long r30), (0, .ref (X.2.2 11 40)), (3, .int y3)]) hx hb dX7_guestHash_141 hl (by decide) rfl (fun ls hl => ?_)
  refine lv_lload hx hb dX7_guestHash_143 (lv_at hl 0 rfl) ?_
  refine lv_aload_n hx hb dX7_guestHash_145 rfl (lv_at hl 1 rfl) ?_
  refine xg_7_1 F hI (x_inO (by decide)) u_fl_X7_7 dX7_guestHash_146 ?_
  refine lv_iload_n hx hb dX7_guestHash_149 rfl (lv_at hl 2 rfl) ?_
  obtain ⟨r32, h33, h⟩ := x_bnd h
  have hI := x_toV 41 hI
  refine x_aci hI (x_runS (rest := [.long r30]) F hI (mX7_choice l X σ u 41 (x_inO (by decide)) (fun _ => rfl) _ (u 41) y3 r32 h33) g_X7_53 hd_X7_choice ⟨by decide, by decide⟩ ⟨rfl, rfl⟩ rfl hl.1 rfl (Nat.le_of_ble_eq_true rfl) dX7_guestHash_150 ⟨Nat.zero_le _, Nat.zero_le _⟩) (fun H locs hI => ?_)
  rw [x_hs_self] at hI
  refine lv_iconst (v := 1) hx hb dX7_guestHash_153 (by decide) ?_
  refine lv_iadd hx hb dX7_guestHash_154 ?_
  refine lv_i2l hx hb dX7_guestHash_155 rfl ?_
  obtain ⟨r34, h35, h⟩ := x_bnd h
  refine x_acl hI (x_runS (rest := []) F hI (mX7_mix l X (x_sh σ 11 u) _ r30 ((r32 + (1 : Int32))).toInt64 r34 h35) g_X7_231 hd_X7_mix ⟨by decide, by decide⟩ ⟨rfl, rfl⟩ rfl hl.1 rfl (Nat.le_of_ble_eq_true rfl) dX7_guestHash_156 ⟨Nat.zero_le _, Nat.zero_le _⟩) (fun H locs hI => ?_)
  rw [x_some h]
  exact x_lret F hI dX7_guestHash_159
def fX7_guestHash_j102 (u : x_H) (y3 : Int32) (z0 : Int64) (z1 : Int64) : Option Int64 := (Option.bind (fX7_mix z1 z0) fun r22 => (Option.bind (fX7_haunted u y3) fun r24 => (if r24 = 0 then fX7_guestHash_j122 u y3 (0 : Int64) r22 else fX7_guestHash_j122 u y3 (1 : Int64) r22)))
set_option maxHeartbeats 4000000 in
set_option maxRecDepth 100000 in
theorem wX7_guestHash_j102 {p : Program} {l : Launch} {e : Env} {s : State} {m : MethodId} {args : Array Value} {below : List Frame} {meth : Method} {c : Code} {X : x_T} {σ : x_S} {r : Int64} (F : x_F p s m args meth c cX7_guestHash 7 RX7 (some .long)) (u : x_H) (y3 : Int32) (z0 : Int64) (z1 : Int64) (H : Heap) (locs : List Loc) (ls : Array Slot) (h : fX7_guestHash_j102 u y3 z0 z1 = some r) (hI : x_I X (x_sh σ 11 u) s H locs) (hl : lv_has ls 7 [(0, .ref (X.2.2 11 40)), (3, .int y3)]) : W p l e rm_X7_guestHash s m args below meth c H locs 0 0 (MQ below (x_Ql X r (x_sh σ 11 u) s.heap.size) args s 0 0 (x_A X s.heap.size)) (F0 m 102 ls [.long z0, .long z1]) := by
  have hx := F.1
  have hb := F.2.1
  have hml := F.2.2.1
  have hown := F.2.2.2.1
  have hts := F.2.2.2.2.1
  unfold fX7_guestHash_j102 at h
  obtain ⟨r22, h23, h⟩ := x_bnd h
  refine x_acl hI (x_runS (rest := []) F hI (mX7_mix l X (x_sh σ 11 u) _ z1 z0 r22 h23) g_X7_231 hd_X7_mix ⟨by decide, by decide⟩ ⟨rfl, rfl⟩ rfl hl.1 rfl (Nat.le_of_ble_eq_true rfl) dX7_guestHash_102 ⟨Nat.zero_le _, Nat.zero_le _⟩) (fun H locs hI => ?_)
  refine lv_lstore (lv' := [(5, .long r22), (0, .ref (X.2.2 11 40)), (3, .int y3)]) hx hb dX7_guestHash_105 hl (by decide) rfl (fun ls hl => ?_)
  refine lv_lload hx hb dX7_guestHash_107 (lv_at hl 0 rfl) ?_
  refine lv_aload_n hx hb dX7_guestHash_109 rfl (lv_at hl 1 rfl) ?_
  refine lv_iload_n hx hb dX7_guestHash_110 rfl (lv_at hl 2 rfl) ?_
  obtain ⟨r24, h25, h⟩ := x_bnd h
  refine x_aci hI (x_runV (rest := [.long r22]) F hI (mX7_haunted l X σ _ u y3 r24 h25) g_X7_203 ⟨rfl, hd_X7_haunted⟩ ⟨by decide, by decide⟩ ⟨rfl, rfl⟩ (x_inO (by decide)) rfl rfl rfl rfl hl.1 rfl (Nat.le_of_ble_eq_true rfl) dX7_guestHash_111 ⟨Nat.zero_le _, Nat.zero_le _⟩) (fun H locs hI => ?_)
  refine lv_if_eq (tgt := 121) hx hb dX7_guestHash_114 (by decide) (fun c26 => ?_) (fun c26 => ?_)
  · have h := x_ift h c26
    refine lv_lconst (v := 0) hx hb dX7_guestHash_121 (by decide) ?_
    exact wX7_guestHash_j122 F u y3 (0 : Int64) r22 _ _ _ h hI (lv_sub hl [1, 2] rfl)
  · have h := x_iff h c26
    refine lv_lconst (v := 1) hx hb dX7_guestHash_117 (by decide) ?_
    refine lv_goto (tgt := 122) hx hb dX7_guestHash_118 (by decide) ?_
    exact wX7_guestHash_j122 F u y3 (1 : Int64) r22 _ _ _ h hI (lv_sub hl [1, 2] rfl)
def fX7_guestHash_j84 (u : x_H) (y3 : Int32) (y4 : Int32) (z0 : Int64) (z1 : Int64) : Option Int64 := (Option.bind (fX7_mix z1 z0) fun r17 => (if y4 = 0 then fX7_guestHash_j102 u y3 (0 : Int64) r17 else (Option.bind (fX7_askIn u y3) fun r20 => fX7_guestHash_j102 u y3 r20.toInt64 r17)))
set_option maxHeartbeats 4000000 in
set_option maxRecDepth 100000 in
theorem wX7_guestHash_j84 {p : Program} {l : Launch} {e : Env} {s : State} {m : MethodId} {args : Array Value} {below : List Frame} {meth : Method} {c : Code} {X : x_T} {σ : x_S} {r : Int64} (F : x_F p s m args meth c cX7_guestHash 7 RX7 (some .long)) (u : x_H) (y3 : Int32) (y4 : Int32) (z0 : Int64) (z1 : Int64) (H : Heap) (locs : List Loc) (ls : Array Slot) (h : fX7_guestHash_j84 u y3 y4 z0 z1 = some r) (hI : x_I X (x_sh σ 11 u) s H locs) (hl : lv_has ls 7 [(0, .ref (X.2.2 11 40)), (3, .int y3), (4, .int y4)]) : W p l e rm_X7_guestHash s m args below meth c H locs 0 0 (MQ below (x_Ql X r (x_sh σ 11 u) s.heap.size) args s 0 0 (x_A X s.heap.size)) (F0 m 84 ls [.long z0, .long z1]) := by
  have hx := F.1
  have hb := F.2.1
  have hml := F.2.2.1
  have hown := F.2.2.2.1
  have hts := F.2.2.2.2.1
  unfold fX7_guestHash_j84 at h
  obtain ⟨r17, h18, h⟩ := x_bnd h
  refine x_acl hI (x_runS (rest := []) F hI (mX7_mix l X (x_sh σ 11 u) _ z1 z0 r17 h18) g_X7_231 hd_X7_mix ⟨by decide, by decide⟩ ⟨rfl, rfl⟩ rfl hl.1 rfl (Nat.le_of_ble_eq_true rfl) dX7_guestHash_84 ⟨Nat.zero_le _, Nat.zero_le _⟩) (fun H locs hI => ?_)
  refine lv_iload hx hb dX7_guestHash_87 (lv_at hl 2 rfl) ?_
  refine lv_if_eq (tgt := 101) hx hb dX7_guestHash_89 (by decide) (fun c19 => ?_) (fun c19 => ?_)
  · have h := x_ift h c19
    refine lv_lconst (v := 0) hx hb dX7_guestHash_101 (by decide) ?_
    exact wX7_guestHash_j102 F u y3 (0 : Int64) r17 _ _ _ h hI (lv_sub hl [0, 1] rfl)
  · have h := x_iff h c19
    refine lv_aload_n hx hb dX7_guestHash_92 rfl (lv_at hl 0 rfl) ?_
    refine lv_iload_n hx hb dX7_guestHash_93 rfl (lv_at hl 1 rfl) ?_
    obtain ⟨r20, h21, h⟩ := x_bnd h
    refine x_aci hI (x_runV (rest := [.long r17]) F hI (mX7_askIn l X σ _ u y3 r20 h21) g_X7_200 ⟨rfl, hd_X7_askIn⟩ ⟨by decide, by decide⟩ ⟨rfl, rfl⟩ (x_inO (by decide)) rfl rfl rfl rfl hl.1 rfl (Nat.le_of_ble_eq_true rfl) dX7_guestHash_94 ⟨Nat.zero_le _, Nat.zero_le _⟩) (fun H locs hI => ?_)
    refine lv_i2l hx hb dX7_guestHash_97 rfl ?_
    refine lv_goto (tgt := 102) hx hb dX7_guestHash_98 (by decide) ?_
    exact wX7_guestHash_j102 F u y3 r20.toInt64 r17 _ _ _ h hI (lv_sub hl [0, 1] rfl)
def fX7_guestHash_j62 (u : x_H) (y3 : Int32) (y4 : Int32) (z0 : Int64) (z1 : Int64) : Option Int64 := (Option.bind (fX7_mix z1 z0) fun r12 => (if y4 = 0 then fX7_guestHash_j84 u y3 y4 (0 : Int64) r12 else (Option.bind (fX7_leftTo u y3) fun r15 => fX7_guestHash_j84 u y3 y4 r15.toInt64 r12)))
set_option maxHeartbeats 4000000 in
set_option maxRecDepth 100000 in
theorem wX7_guestHash_j62 {p : Program} {l : Launch} {e : Env} {s : State} {m : MethodId} {args : Array Value} {below : List Frame} {meth : Method} {c : Code} {X : x_T} {σ : x_S} {r : Int64} (F : x_F p s m args meth c cX7_guestHash 7 RX7 (some .long)) (u : x_H) (y3 : Int32) (y4 : Int32) (z0 : Int64) (z1 : Int64) (H : Heap) (locs : List Loc) (ls : Array Slot) (h : fX7_guestHash_j62 u y3 y4 z0 z1 = some r) (hI : x_I X (x_sh σ 11 u) s H locs) (hl : lv_has ls 7 [(0, .ref (X.2.2 11 40)), (3, .int y3), (4, .int y4)]) : W p l e rm_X7_guestHash s m args below meth c H locs 0 0 (MQ below (x_Ql X r (x_sh σ 11 u) s.heap.size) args s 0 0 (x_A X s.heap.size)) (F0 m 62 ls [.long z0, .long z1]) := by
  have hx := F.1
  have hb := F.2.1
  have hml := F.2.2.1
  have hown := F.2.2.2.1
  have hts := F.2.2.2.2.1
  unfold fX7_guestHash_j62 at h
  obtain ⟨r12, h13, h⟩ := x_bnd h
  refine x_acl hI (x_runS (rest := []) F hI (mX7_mix l X (x_sh σ 11 u) _ z1 z0 r12 h13) g_X7_231 hd_X7_mix ⟨by decide, by decide⟩ ⟨rfl, rfl⟩ rfl hl.1 rfl (Nat.le_of_ble_eq_true rfl) dX7_guestHash_62 ⟨Nat.zero_le _, Nat.zero_le _⟩) (fun H locs hI => ?_)
  refine lv_lstore (lv' := [(5, .long r12), (0, .ref (X.2.2 11 40)), (3, .int y3), (4, .int y4)]) hx hb dX7_guestHash_65 hl (by decide) rfl (fun ls hl => ?_)
  refine lv_lload hx hb dX7_guestHash_67 (lv_at hl 0 rfl) ?_
  refine lv_iload hx hb dX7_guestHash_69 (lv_at hl 3 rfl) ?_
  refine lv_if_eq (tgt := 83) hx hb dX7_guestHash_71 (by decide) (fun c14 => ?_) (fun c14 => ?_)
  · have h := x_ift h c14
    refine lv_lconst (v := 0) hx hb dX7_guestHash_83 (by decide) ?_
    exact wX7_guestHash_j84 F u y3 y4 (0 : Int64) r12 _ _ _ h hI (lv_sub hl [1, 2, 3] rfl)
  · have h := x_iff h c14
    refine lv_aload_n hx hb dX7_guestHash_74 rfl (lv_at hl 1 rfl) ?_
    refine lv_iload_n hx hb dX7_guestHash_75 rfl (lv_at hl 2 rfl) ?_
    obtain ⟨r15, h16, h⟩ := x_bnd h
    refine x_aci hI (x_runV (rest := [.long r12]) F hI (mX7_leftTo l X σ _ u y3 r15 h16) g_X7_197 ⟨rfl, hd_X7_leftTo⟩ ⟨by decide, by decide⟩ ⟨rfl, rfl⟩ (x_inO (by decide)) rfl rfl rfl rfl hl.1 rfl (Nat.le_of_ble_eq_true rfl) dX7_guestHash_76 ⟨Nat.zero_le _, Nat.zero_le _⟩) (fun H locs hI => ?_)
    refine lv_i2l hx hb dX7_guestHash_79 rfl ?_
    refine lv_goto (tgt := 84) hx hb dX7_guestHash_80 (by decide) ?_
    exact wX7_guestHash_j84 F u y3 y4 r15.toInt64 r12 _ _ _ h hI (lv_sub hl [1, 2, 3] rfl)
def fX7_guestHash_j17 (u : x_H) (y1 : Int64) (y3 : Int32) (z0 : Int32) : Option Int64 := (Option.bind (fX7_doing (u 41) y3) fun r4 => (Option.bind (fX7_mix y1 r4.toInt64) fun r6 => (Option.bind (fX7_doing (u 41) y3) fun r8 => (if (2 : Int32) ≤ r8 then (if x_in (((8 : Int32) * y3) + (1 : Int32)) 570 then fX7_guestHash_j62 u y3 z0 (((u 41 (Int32.toNatClampNeg (((8 : Int32) * y3) + (1 : Int32)))) + (1 : Int32))).toInt64 r6 else none) else fX7_guestHash_j62 u y3 z0 (0 : Int64) r6))))
set_option maxHeartbeats 4000000 in
set_option maxRecDepth 100000 in
theorem wX7_guestHash_j17 {p : Program} {l : Launch} {e : Env} {s : State} {m : MethodId} {args : Array Value} {below : List Frame} {meth : Method} {c : Code} {X : x_T} {σ : x_S} {r : Int64} (F : x_F p s m args meth c cX7_guestHash 7 RX7 (some .long)) (u : x_H) (y1 : Int64) (y3 : Int32) (z0 : Int32) (H : Heap) (locs : List Loc) (ls : Array Slot) (h : fX7_guestHash_j17 u y1 y3 z0 = some r) (hI : x_I X (x_sh σ 11 u) s H locs) (hl : lv_has ls 7 [(0, .ref (X.2.2 11 40)), (1, .long y1), (3, .int y3)]) : W p l e rm_X7_guestHash s m args below meth c H locs 0 0 (MQ below (x_Ql X r (x_sh σ 11 u) s.heap.size) args s 0 0 (x_A X s.heap.size)) (F0 m 17 ls [.int z0]) := by
  have hx := F.1
  have hb := F.2.1
  have hml := F.2.2.1
  have hown := F.2.2.2.1
  have hts := F.2.2.2.2.1
  unfold fX7_guestHash_j17 at h
  refine lv_istore (lv' := [(4, .int z0), (0, .ref (X.2.2 11 40)), (1, .long y1), (3, .int y3)]) hx hb dX7_guestHash_17 hl (by decide) rfl (fun ls hl => ?_)
  refine lv_lload_n hx hb dX7_guestHash_19 rfl (lv_at hl 2 rfl) ?_
  refine lv_aload_n hx hb dX7_guestHash_20 rfl (lv_at hl 1 rfl) ?_
  refine xg_7_1 F hI (x_inO (by decide)) u_fl_X7_7 dX7_guestHash_21 ?_
  refine lv_iload_n hx hb dX7_guestHash_24 rfl (lv_at hl 3 rfl) ?_
  obtain ⟨r4, h5, h⟩ := x_bnd h
  have hI := x_toV 41 hI
  refine x_aci hI (x_runS (rest := [.long y1]) F hI (mX7_doing l X σ u 41 (x_inO (by decide)) (fun _ => rfl) _ (u 41) y3 r4 h5) g_X7_60 hd_X7_doing ⟨by decide, by decide⟩ ⟨rfl, rfl⟩ rfl hl.1 rfl (Nat.le_of_ble_eq_true rfl) dX7_guestHash_25 ⟨Nat.zero_le _, Nat.zero_le _⟩) (fun H locs hI => ?_)
  rw [x_hs_self] at hI
  refine lv_i2l hx hb dX7_guestHash_28 rfl ?_
  obtain ⟨r6, h7, h⟩ := x_bnd h
  refine x_acl hI (x_runS (rest := []) F hI (mX7_mix l X (x_sh σ 11 u) _ y1 r4.toInt64 r6 h7) g_X7_231 hd_X7_mix ⟨by decide, by decide⟩ ⟨rfl, rfl⟩ rfl hl.1 rfl (Nat.le_of_ble_eq_true rfl) dX7_guestHash_29 ⟨Nat.zero_le _, Nat.zero_le _⟩) (fun H locs hI => ?_)
  refine lv_aload_n hx hb dX7_guestHash_32 rfl (lv_at hl 1 rfl) ?_
  refine xg_7_1 F hI (x_inO (by decide)) u_fl_X7_7 dX7_guestHash_33 ?_
  refine lv_iload_n hx hb dX7_guestHash_36 rfl (lv_at hl 3 rfl) ?_
  obtain ⟨r8, h9, h⟩ := x_bnd h
  have hI := x_toV 41 hI
  refine x_aci hI (x_runS (rest := [.long r6]) F hI (mX7_doing l X σ u 41 (x_inO (by decide)) (fun _ => rfl) _ (u 41) y3 r8 h9) g_X7_60 hd_X7_doing ⟨by decide, by decide⟩ ⟨rfl, rfl⟩ rfl hl.1 rfl (Nat.le_of_ble_eq_true rfl) dX7_guestHash_37 ⟨Nat.zero_le _, Nat.zero_le _⟩) (fun H locs hI => ?_)
  rw [x_hs_self] at hI
  refine lv_iconst (v := 2) hx hb dX7_guestHash_40 (by decide) ?_
  refine lv_icmp_ge (tgt := 48) hx hb dX7_guestHash_41 (by decide) (fun c10 => ?_) (fun c10 => ?_)
  · have h := x_ift h c10
    refine lv_aload_n hx hb dX7_guestHash_48 rfl (lv_at hl 1 rfl) ?_
    refine xg_7_1 F hI (x_inO (by decide)) u_fl_X7_7 dX7_guestHash_49 ?_
    refine lv_bipush (v := 8) hx hb dX7_guestHash_52 (by decide) ?_
    refine lv_iload_n hx hb dX7_guestHash_54 rfl (lv_at hl 3 rfl) ?_
    refine lv_imul hx hb dX7_guestHash_55 ?_
    refine lv_iconst (v := 1) hx hb dX7_guestHash_56 (by decide) ?_
    refine lv_iadd hx hb dX7_guestHash_57 ?_
    obtain ⟨g11, h⟩ := x_chk h
    refine xh_iald (n := 570) F hI (x_inO (by decide)) (fun _ => rfl) g11 dX7_guestHash_58 ?_
    refine lv_iconst (v := 1) hx hb dX7_guestHash_59 (by decide) ?_
    refine lv_iadd hx hb dX7_guestHash_60 ?_
    refine lv_i2l hx hb dX7_guestHash_61 rfl ?_
    exact wX7_guestHash_j62 F u y3 z0 (((u 41 (Int32.toNatClampNeg (((8 : Int32) * y3) + (1 : Int32)))) + (1 : Int32))).toInt64 r6 _ _ _ h hI (lv_sub hl [1, 3, 0] rfl)
  · have h := x_iff h c10
    refine lv_lconst (v := 0) hx hb dX7_guestHash_44 (by decide) ?_
    refine lv_goto (tgt := 62) hx hb dX7_guestHash_45 (by decide) ?_
    exact wX7_guestHash_j62 F u y3 z0 (0 : Int64) r6 _ _ _ h hI (lv_sub hl [1, 3, 0] rfl)
def fX7_guestHash (u : x_H) (a1 : Int64) (a2 : Int32) : Option Int64 := (Option.bind (fX7_doing (u 41) a2) fun r1 => (if r1 = (3 : Int32) then fX7_guestHash_j17 u a1 a2 (1 : Int32) else fX7_guestHash_j17 u a1 a2 (0 : Int32)))
set_option maxHeartbeats 4000000 in
set_option maxRecDepth 100000 in
theorem mX7_guestHash (l : Launch) (X : x_T) (σ : x_S) (sz : Nat) (u : x_H) (a1 : Int64) (a2 : Int32) (r : Int64) (h : fX7_guestHash u a1 a2 = some r) : Met l yX7_guestHash (x_ws yX7_guestHash cX7_guestHash 7 (some .long)) rm_X7_guestHash (x_Pc X (x_sh σ 11 u) sz [.ref (X.2.2 11 40), .long a1, .int a2]) (x_Ql X r (x_sh σ 11 u) sz) 0 0 (x_A X sz) := by
  refine Met.ofW (cc := cX7_guestHash) (maxL := 7) (ret := (some .long)) (by decide) rfl ?_
  intro p e s m args below meth c s₁ B hml hv
  obtain ⟨F, hI, rfl, rfl⟩ := x_begin B hml hv
  replace F : x_F p s m _ meth c cX7_guestHash 7 RX7 (some .long) := F
  have hx := F.1
  have hb := F.2.1
  have hml := F.2.2.1
  have hown := F.2.2.2.1
  have hts := F.2.2.2.2.1
  refine x_entry (vs := [.ref (X.2.2 11 40), .long a1, .int a2]) (n := 7) (Nat.le_of_ble_eq_true rfl) (fun ls hl => ?_)
  replace hl : lv_has ls 7 [(0, .ref (X.2.2 11 40)), (1, .long a1), (3, .int a2)] := hl
  unfold fX7_guestHash at h
  refine lv_aload_n hx hb dX7_guestHash_0 rfl (lv_at hl 0 rfl) ?_
  refine xg_7_1 F hI (x_inO (by decide)) u_fl_X7_7 dX7_guestHash_1 ?_
  refine lv_iload_n hx hb dX7_guestHash_4 rfl (lv_at hl 2 rfl) ?_
  obtain ⟨r1, h2, h⟩ := x_bnd h
  have hI := x_toV 41 hI
  refine x_aci hI (x_runS (rest := []) F hI (mX7_doing l X σ u 41 (x_inO (by decide)) (fun _ => rfl) _ (u 41) a2 r1 h2) g_X7_60 hd_X7_doing ⟨by decide, by decide⟩ ⟨rfl, rfl⟩ rfl hl.1 rfl (Nat.le_of_ble_eq_true rfl) dX7_guestHash_5 ⟨Nat.zero_le _, Nat.zero_le _⟩) (fun H locs hI => ?_)
  rw [x_hs_self] at hI
  refine lv_iconst (v := 3) hx hb dX7_guestHash_8 (by decide) ?_
  refine lv_icmp_ne (tgt := 16) hx hb dX7_guestHash_9 (by decide) (fun c3 => ?_) (fun c3 => ?_)
  · have h := x_iff h c3
    refine lv_iconst (v := 0) hx hb dX7_guestHash_16 (by decide) ?_
    exact wX7_guestHash_j17 F u a1 a2 (0 : Int32) _ _ _ h hI (lv_sub hl [0, 1, 2] rfl)
  · have h := x_ift h c3
    refine lv_iconst (v := 1) hx hb dX7_guestHash_12 (by decide) ?_
    refine lv_goto (tgt := 17) hx hb dX7_guestHash_13 (by decide) ?_
    exact wX7_guestHash_j17 F u a1 a2 (1 : Int32) _ _ _ h hI (lv_sub hl [0, 1, 2] rfl)
abbrev rm_X7_roomHash : Room := { frames := 2, cells := 0, slots := 0, locals := 46 }
def fX7_roomHash_j42 (u : x_H) (y3 : Int32) (z0 : Int64) (z1 : Int64) : Option Int64 := (Option.bind (fX7_mix z1 z0) fun r9 => (Option.bind (fX7_leftOf u y3) fun r11 => (Option.bind (fX7_mix r9 r11.toInt64) fun r13 => (if x_in (((96 : Int32) + ((6 : Int32) * y3)) + (4 : Int32)) 570 then (Option.bind (fX7_mix r13 ((u 41 (Int32.toNatClampNeg (((96 : Int32) + ((6 : Int32) * y3)) + (4 : Int32))))).toInt64) fun r16 => (if x_in (((96 : Int32) + ((6 : Int32) * y3)) + (5 : Int32)) 570 then (Option.bind (fX7_mix r16 ((u 41 (Int32.toNatClampNeg (((96 : Int32) + ((6 : Int32) * y3)) + (5 : Int32))))).toInt64) fun r19 => some (r19)) else none)) else none))))
set_option maxHeartbeats 4000000 in
set_option maxRecDepth 100000 in
theorem wX7_roomHash_j42 {p : Program} {l : Launch} {e : Env} {s : State} {m : MethodId} {args : Array Value} {below : List Frame} {meth : Method} {c : Code} {X : x_T} {σ : x_S} {r : Int64} (F : x_F p s m args meth c cX7_roomHash 6 RX7 (some .long)) (u : x_H) (y3 : Int32) (z0 : Int64) (z1 : Int64) (H : Heap) (locs : List Loc) (ls : Array Slot) (h : fX7_roomHash_j42 u y3 z0 z1 = some r) (hI : x_I X (x_sh σ 11 u) s H locs) (hl : lv_has ls 6 [(0, .ref (X.2.2 11 40)), (3, .int y3)]) : W p l e rm_X7_roomHash s m args below meth c H locs 0 0 (MQ below (x_Ql X r (x_sh σ 11 u) s.heap.size) args s 0 0 (x_A X s.heap.size)) (F0 m 42 ls [.long z0, .long z1]) := by
  have hx := F.1
  have hb := F.2.1
  have hml := F.2.2.1
  have hown := F.2.2.2.1
  have hts := F.2.2.2.2.1
  unfold fX7_roomHash_j42 at h
  obtain ⟨r9, h10, h⟩ := x_bnd h
  refine x_acl hI (x_runS (rest := []) F hI (mX7_mix l X (x_sh σ 11 u) _ z1 z0 r9 h10) g_X7_231 hd_X7_mix ⟨by decide, by decide⟩ ⟨rfl, rfl⟩ rfl hl.1 rfl (Nat.le_of_ble_eq_true rfl) dX7_roomHash_42 ⟨Nat.zero_le _, Nat.zero_le _⟩) (fun H locs hI => ?_)
  refine lv_lstore (lv' := [(4, .long r9), (0, .ref (X.2.2 11 40)), (3, .int y3)]) hx hb dX7_roomHash_45 hl (by decide) rfl (fun ls hl => ?_)
  refine lv_lload hx hb dX7_roomHash_47 (lv_at hl 0 rfl) ?_
  refine lv_aload_n hx hb dX7_roomHash_49 rfl (lv_at hl 1 rfl) ?_
  refine lv_iload_n hx hb dX7_roomHash_50 rfl (lv_at hl 2 rfl) ?_
  obtain ⟨r11, h12, h⟩ := x_bnd h
  refine x_aci hI (x_runV (rest := [.long r9]) F hI (mX7_leftOf l X σ _ u y3 r11 h12) g_X7_209 ⟨rfl, hd_X7_leftOf⟩ ⟨by decide, by decide⟩ ⟨rfl, rfl⟩ (x_inO (by decide)) rfl rfl rfl rfl hl.1 rfl (Nat.le_of_ble_eq_true rfl) dX7_roomHash_51 ⟨Nat.zero_le _, Nat.zero_le _⟩) (fun H locs hI => ?_)
  refine lv_i2l hx hb dX7_roomHash_54 rfl ?_
  obtain ⟨r13, h14, h⟩ := x_bnd h
  refine x_acl hI (x_runS (rest := []) F hI (mX7_mix l X (x_sh σ 11 u) _ r9 r11.toInt64 r13 h14) g_X7_231 hd_X7_mix ⟨by decide, by decide⟩ ⟨rfl, rfl⟩ rfl hl.1 rfl (Nat.le_of_ble_eq_true rfl) dX7_roomHash_55 ⟨Nat.zero_le _, Nat.zero_le _⟩) (fun H locs hI => ?_)
  refine lv_aload_n hx hb dX7_roomHash_58 rfl (lv_at hl 1 rfl) ?_
  refine xg_7_1 F hI (x_inO (by decide)) u_fl_X7_7 dX7_roomHash_59 ?_
  refine lv_bipush (v := 96) hx hb dX7_roomHash_62 (by decide) ?_
  refine lv_bipush (v := 6) hx hb dX7_roomHash_64 (by decide) ?_
  refine lv_iload_n hx hb dX7_roomHash_66 rfl (lv_at hl 2 rfl) ?_
  refine lv_imul hx hb dX7_roomHash_67 ?_
  refine lv_iadd hx hb dX7_roomHash_68 ?_
  refine lv_iconst (v := 4) hx hb dX7_roomHash_69 (by decide) ?_
  refine lv_iadd hx hb dX7_roomHash_70 ?_
  obtain ⟨g15, h⟩ := x_chk h
  refine xh_iald (n := 570) F hI (x_inO (by decide)) (fun _ => rfl) g15 dX7_roomHash_71 ?_
  refine lv_i2l hx hb dX7_roomHash_72 rfl ?_
  obtain ⟨r16, h17, h⟩ := x_bnd h
  refine x_acl hI (x_runS (rest := []) F hI (mX7_mix l X (x_sh σ 11 u) _ r13 ((u 41 (Int32.toNatClampNeg (((96 : Int32) + ((6 : Int32) * y3)) + (4 : Int32))))).toInt64 r16 h17) g_X7_231 hd_X7_mix ⟨by decide, by decide⟩ ⟨rfl, rfl⟩ rfl hl.1 rfl (Nat.le_of_ble_eq_true rfl) dX7_roomHash_73 ⟨Nat.zero_le _, Nat.zero_le _⟩) (fun H locs hI => ?_)
  refine lv_lstore (lv' := [(4, .long r16), (0, .ref (X.2.2 11 40)), (3, .int y3)]) hx hb dX7_roomHash_76 hl (by decide) rfl (fun ls hl => ?_)
  refine lv_lload hx hb dX7_roomHash_78 (lv_at hl 0 rfl) ?_
  refine lv_aload_n hx hb dX7_roomHash_80 rfl (lv_at hl 1 rfl) ?_
  refine xg_7_1 F hI (x_inO (by decide)) u_fl_X7_7 dX7_roomHash_81 ?_
  refine lv_bipush (v := 96) hx hb dX7_roomHash_84 (by decide) ?_
  refine lv_bipush (v := 6) hx hb dX7_roomHash_86 (by decide) ?_
  refine lv_iload_n hx hb dX7_roomHash_88 rfl (lv_at hl 2 rfl) ?_
  refine lv_imul hx hb dX7_roomHash_89 ?_
  refine lv_iadd hx hb dX7_roomHash_90 ?_
  refine lv_iconst (v := 5) hx hb dX7_roomHash_91 (by decide) ?_
  refine lv_iadd hx hb dX7_roomHash_92 ?_
  obtain ⟨g18, h⟩ := x_chk h
  refine xh_iald (n := 570) F hI (x_inO (by decide)) (fun _ => rfl) g18 dX7_roomHash_93 ?_
  refine lv_i2l hx hb dX7_roomHash_94 rfl ?_
  obtain ⟨r19, h20, h⟩ := x_bnd h
  refine x_acl hI (x_runS (rest := []) F hI (mX7_mix l X (x_sh σ 11 u) _ r16 ((u 41 (Int32.toNatClampNeg (((96 : Int32) + ((6 : Int32) * y3)) + (5 : Int32))))).toInt64 r19 h20) g_X7_231 hd_X7_mix ⟨by decide, by decide⟩ ⟨rfl, rfl⟩ rfl hl.1 rfl (Nat.le_of_ble_eq_true rfl) dX7_roomHash_95 ⟨Nat.zero_le _, Nat.zero_le _⟩) (fun H locs hI => ?_)
  rw [x_some h]
  exact x_lret F hI dX7_roomHash_98
def fX7_roomHash (u : x_H) (a1 : Int64) (a2 : Int32) : Option Int64 := (Option.bind (fX7_state (u 41) a2) fun r1 => (Option.bind (fX7_mix a1 r1.toInt64) fun r3 => (Option.bind (fX7_hasWho u a2) fun r5 => (if r5 = 0 then fX7_roomHash_j42 u a2 (0 : Int64) r3 else (if x_in (((96 : Int32) + ((6 : Int32) * a2)) + (2 : Int32)) 570 then fX7_roomHash_j42 u a2 (((u 41 (Int32.toNatClampNeg (((96 : Int32) + ((6 : Int32) * a2)) + (2 : Int32)))) + (1 : Int32))).toInt64 r3 else none)))))
set_option maxHeartbeats 4000000 in
set_option maxRecDepth 100000 in
theorem mX7_roomHash (l : Launch) (X : x_T) (σ : x_S) (sz : Nat) (u : x_H) (a1 : Int64) (a2 : Int32) (r : Int64) (h : fX7_roomHash u a1 a2 = some r) : Met l yX7_roomHash (x_ws yX7_roomHash cX7_roomHash 6 (some .long)) rm_X7_roomHash (x_Pc X (x_sh σ 11 u) sz [.ref (X.2.2 11 40), .long a1, .int a2]) (x_Ql X r (x_sh σ 11 u) sz) 0 0 (x_A X sz) := by
  refine Met.ofW (cc := cX7_roomHash) (maxL := 6) (ret := (some .long)) (by decide) rfl ?_
  intro p e s m args below meth c s₁ B hml hv
  obtain ⟨F, hI, rfl, rfl⟩ := x_begin B hml hv
  replace F : x_F p s m _ meth c cX7_roomHash 6 RX7 (some .long) := F
  have hx := F.1
  have hb := F.2.1
  have hml := F.2.2.1
  have hown := F.2.2.2.1
  have hts := F.2.2.2.2.1
  refine x_entry (vs := [.ref (X.2.2 11 40), .long a1, .int a2]) (n := 6) (Nat.le_of_ble_eq_true rfl) (fun ls hl => ?_)
  replace hl : lv_has ls 6 [(0, .ref (X.2.2 11 40)), (1, .long a1), (3, .int a2)] := hl
  unfold fX7_roomHash at h
  refine lv_lload_n hx hb dX7_roomHash_0 rfl (lv_at hl 1 rfl) ?_
  refine lv_aload_n hx hb dX7_roomHash_1 rfl (lv_at hl 0 rfl) ?_
  refine xg_7_1 F hI (x_inO (by decide)) u_fl_X7_7 dX7_roomHash_2 ?_
  refine lv_iload_n hx hb dX7_roomHash_5 rfl (lv_at hl 2 rfl) ?_
  obtain ⟨r1, h2, h⟩ := x_bnd h
  have hI := x_toV 41 hI
  refine x_aci hI (x_runS (rest := [.long a1]) F hI (mX7_state l X σ u 41 (x_inO (by decide)) (fun _ => rfl) _ (u 41) a2 r1 h2) g_X7_41 hd_X7_state ⟨by decide, by decide⟩ ⟨rfl, rfl⟩ rfl hl.1 rfl (Nat.le_of_ble_eq_true rfl) dX7_roomHash_6 ⟨Nat.zero_le _, Nat.zero_le _⟩) (fun H locs hI => ?_)
  rw [x_hs_self] at hI
  refine lv_i2l hx hb dX7_roomHash_9 rfl ?_
  obtain ⟨r3, h4, h⟩ := x_bnd h
  refine x_acl hI (x_runS (rest := []) F hI (mX7_mix l X (x_sh σ 11 u) _ a1 r1.toInt64 r3 h4) g_X7_231 hd_X7_mix ⟨by decide, by decide⟩ ⟨rfl, rfl⟩ rfl hl.1 rfl (Nat.le_of_ble_eq_true rfl) dX7_roomHash_10 ⟨Nat.zero_le _, Nat.zero_le _⟩) (fun H locs hI => ?_)
  refine lv_aload_n hx hb dX7_roomHash_13 rfl (lv_at hl 0 rfl) ?_
  refine lv_iload_n hx hb dX7_roomHash_14 rfl (lv_at hl 2 rfl) ?_
  obtain ⟨r5, h6, h⟩ := x_bnd h
  refine x_aci hI (x_runV (rest := [.long r3]) F hI (mX7_hasWho l X σ _ u a2 r5 h6) g_X7_206 ⟨rfl, hd_X7_hasWho⟩ ⟨by decide, by decide⟩ ⟨rfl, rfl⟩ (x_inO (by decide)) rfl rfl rfl rfl hl.1 rfl (Nat.le_of_ble_eq_true rfl) dX7_roomHash_15 ⟨Nat.zero_le _, Nat.zero_le _⟩) (fun H locs hI => ?_)
  refine lv_if_eq (tgt := 41) hx hb dX7_roomHash_18 (by decide) (fun c7 => ?_) (fun c7 => ?_)
  · have h := x_ift h c7
    refine lv_lconst (v := 0) hx hb dX7_roomHash_41 (by decide) ?_
    exact wX7_roomHash_j42 F u a2 (0 : Int64) r3 _ _ _ h hI (lv_sub hl [0, 2] rfl)
  · have h := x_iff h c7
    refine lv_aload_n hx hb dX7_roomHash_21 rfl (lv_at hl 0 rfl) ?_
    refine xg_7_1 F hI (x_inO (by decide)) u_fl_X7_7 dX7_roomHash_22 ?_
    refine lv_bipush (v := 96) hx hb dX7_roomHash_25 (by decide) ?_
    refine lv_bipush (v := 6) hx hb dX7_roomHash_27 (by decide) ?_
    refine lv_iload_n hx hb dX7_roomHash_29 rfl (lv_at hl 2 rfl) ?_
    refine lv_imul hx hb dX7_roomHash_30 ?_
    refine lv_iadd hx hb dX7_roomHash_31 ?_
    refine lv_iconst (v := 2) hx hb dX7_roomHash_32 (by decide) ?_
    refine lv_iadd hx hb dX7_roomHash_33 ?_
    obtain ⟨g8, h⟩ := x_chk h
    refine xh_iald (n := 570) F hI (x_inO (by decide)) (fun _ => rfl) g8 dX7_roomHash_34 ?_
    refine lv_iconst (v := 1) hx hb dX7_roomHash_35 (by decide) ?_
    refine lv_iadd hx hb dX7_roomHash_36 ?_
    refine lv_i2l hx hb dX7_roomHash_37 rfl ?_
    refine lv_goto (tgt := 42) hx hb dX7_roomHash_38 (by decide) ?_
    exact wX7_roomHash_j42 F u a2 (((u 41 (Int32.toNatClampNeg (((96 : Int32) + ((6 : Int32) * a2)) + (2 : Int32)))) + (1 : Int32))).toInt64 r3 _ _ _ h hI (lv_sub hl [0, 2] rfl)
abbrev rm_X7_digest : Room := { frames := 6, cells := 0, slots := 0, locals := 144 }
def fX7_digest_b474 : Nat → x_H → Int64 → Int32 → Option (Int64 × x_H)
  | 0, _, _, _ => none
  | n + 1, u, y2, y4 => (if (u 40 2) ≤ y4 then some (y2, u) else (if x_in y4 60 then (Option.bind (fX7_mix y2 ((u 46 (Int32.toNatClampNeg y4))).toInt64) fun r112 => x_let (y4 + (1 : Int32)) fun x114 => fX7_digest_b474 n u r112 x114) else none))
set_option maxHeartbeats 4000000 in
set_option maxRecDepth 100000 in
theorem wX7_digest_b474 {p : Program} {l : Launch} {e : Env} {s : State} {m : MethodId} {args : Array Value} {below : List Frame} {meth : Method} {c : Code} {X : x_T} {σ : x_S} {r : (Int64 × x_H)} (F : x_F p s m args meth c cX7_digest 6 RX7 (some .long)) : ∀ (n : Nat) (u : x_H) (y2 : Int64) (y4 : Int32) (H : Heap) (locs : List Loc) (ls : Array Slot), fX7_digest_b474 n u y2 y4 = some r → x_I X (x_sh σ 11 u) s H locs → lv_has ls 6 [(0, .ref (X.2.2 11 40)), (2, .long y2), (4, .int y4)] → W p l e rm_X7_digest s m args below meth c H locs 0 0 (MQ below (x_Ql X r.1 (x_sh σ 11 r.2) s.heap.size) args s 0 0 (x_A X s.heap.size)) (F0 m 474 ls []) := by
  have hx := F.1
  have hb := F.2.1
  have hml := F.2.2.1
  have hown := F.2.2.2.1
  have hts := F.2.2.2.2.1
  intro n
  induction n with
  | zero =>
    intro u y2 y4 H locs ls h
    rw [fX7_digest_b474] at h
    cases h
  | succ n ih =>
    intro u y2 y4 H locs ls h hI hl
    rw [fX7_digest_b474] at h
    refine lv_iload hx hb dX7_digest_474 (lv_at hl 2 rfl) ?_
    refine lv_aload_n hx hb dX7_digest_476 rfl (lv_at hl 0 rfl) ?_
    refine xg_7_8 F hI (x_inO (by decide)) u_fl_X7_143 dX7_digest_477 ?_
    refine lv_icmp_ge (tgt := 502) hx hb dX7_digest_480 (by decide) (fun c110 => ?_) (fun c110 => ?_)
    · have h := x_ift h c110
      refine lv_lload_n hx hb dX7_digest_502 rfl (lv_at hl 1 rfl) ?_
      rw [x_some h]
      exact x_lret F hI dX7_digest_503
    · have h := x_iff h c110
      refine lv_lload_n hx hb dX7_digest_483 rfl (lv_at hl 1 rfl) ?_
      refine lv_aload_n hx hb dX7_digest_484 rfl (lv_at hl 0 rfl) ?_
      refine xg_7_7 F hI (x_inO (by decide)) u_fl_X7_26 dX7_digest_485 ?_
      refine lv_iload hx hb dX7_digest_488 (lv_at hl 2 rfl) ?_
      obtain ⟨g111, h⟩ := x_chk h
      refine xh_iald (n := 60) F hI (x_inO (by decide)) (fun _ => rfl) g111 dX7_digest_490 ?_
      refine lv_i2l hx hb dX7_digest_491 rfl ?_
      obtain ⟨r112, h113, h⟩ := x_bnd h
      refine x_acl hI (x_runS (rest := []) F hI (mX7_mix l X (x_sh σ 11 u) _ y2 ((u 46 (Int32.toNatClampNeg y4))).toInt64 r112 h113) g_X7_231 hd_X7_mix ⟨by decide, by decide⟩ ⟨rfl, rfl⟩ rfl hl.1 rfl (Nat.le_of_ble_eq_true rfl) dX7_digest_492 ⟨Nat.zero_le _, Nat.zero_le _⟩) (fun H locs hI => ?_)
      refine lv_lstore_n (lv' := [(2, .long r112), (0, .ref (X.2.2 11 40)), (4, .int y4)]) hx hb dX7_digest_495 rfl hl (by decide) rfl (fun ls hl => ?_)
      obtain ⟨x114, e115⟩ : ∃ z : Int32, z = (y4 + (1 : Int32)) := ⟨_, rfl⟩
      have h := x_let_at h e115
      refine lv_iinc (v := x114) (lv' := [(4, .int x114), (2, .long r112), (0, .ref (X.2.2 11 40))]) hx hb dX7_digest_496 hl (k := 2) rfl (by rw [e115]; rfl) (by decide) rfl (fun ls hl => ?_)
      refine lv_goto (tgt := 474) hx hb dX7_digest_499 (by decide) ?_
      exact ih u r112 x114 _ _ _ h hI (lv_sub hl [2, 1, 0] rfl)
def fX7_digest_j457 (u : x_H) (z0 : Int64) (z1 : Int64) : Option (Int64 × x_H) := (Option.bind (fX7_mix z1 z0) fun r106 => (Option.bind (fX7_mix r106 ((u 40 2)).toInt64) fun r108 => fX7_digest_b474 400 u r108 (0 : Int32)))
set_option maxHeartbeats 4000000 in
set_option maxRecDepth 100000 in
theorem wX7_digest_j457 {p : Program} {l : Launch} {e : Env} {s : State} {m : MethodId} {args : Array Value} {below : List Frame} {meth : Method} {c : Code} {X : x_T} {σ : x_S} {r : (Int64 × x_H)} (F : x_F p s m args meth c cX7_digest 6 RX7 (some .long)) (u : x_H) (z0 : Int64) (z1 : Int64) (H : Heap) (locs : List Loc) (ls : Array Slot) (h : fX7_digest_j457 u z0 z1 = some r) (hI : x_I X (x_sh σ 11 u) s H locs) (hl : lv_has ls 6 [(0, .ref (X.2.2 11 40))]) : W p l e rm_X7_digest s m args below meth c H locs 0 0 (MQ below (x_Ql X r.1 (x_sh σ 11 r.2) s.heap.size) args s 0 0 (x_A X s.heap.size)) (F0 m 457 ls [.long z0, .long z1]) := by
  have hx := F.1
  have hb := F.2.1
  have hml := F.2.2.1
  have hown := F.2.2.2.1
  have hts := F.2.2.2.2.1
  unfold fX7_digest_j457 at h
  obtain ⟨r106, h107, h⟩ := x_bnd h
  refine x_acl hI (x_runS (rest := []) F hI (mX7_mix l X (x_sh σ 11 u) _ z1 z0 r106 h107) g_X7_231 hd_X7_mix ⟨by decide, by decide⟩ ⟨rfl, rfl⟩ rfl hl.1 rfl (Nat.le_of_ble_eq_true rfl) dX7_digest_457 ⟨Nat.zero_le _, Nat.zero_le _⟩) (fun H locs hI => ?_)
  refine lv_lstore_n (lv' := [(2, .long r106), (0, .ref (X.2.2 11 40))]) hx hb dX7_digest_460 rfl hl (by decide) rfl (fun ls hl => ?_)
  refine lv_lload_n hx hb dX7_digest_461 rfl (lv_at hl 0 rfl) ?_
  refine lv_aload_n hx hb dX7_digest_462 rfl (lv_at hl 1 rfl) ?_
  refine xg_7_8 F hI (x_inO (by decide)) u_fl_X7_143 dX7_digest_463 ?_
  refine lv_i2l hx hb dX7_digest_466 rfl ?_
  obtain ⟨r108, h109, h⟩ := x_bnd h
  refine x_acl hI (x_runS (rest := []) F hI (mX7_mix l X (x_sh σ 11 u) _ r106 ((u 40 2)).toInt64 r108 h109) g_X7_231 hd_X7_mix ⟨by decide, by decide⟩ ⟨rfl, rfl⟩ rfl hl.1 rfl (Nat.le_of_ble_eq_true rfl) dX7_digest_467 ⟨Nat.zero_le _, Nat.zero_le _⟩) (fun H locs hI => ?_)
  refine lv_lstore_n (lv' := [(2, .long r108), (0, .ref (X.2.2 11 40))]) hx hb dX7_digest_470 rfl hl (by decide) rfl (fun ls hl => ?_)
  refine lv_iconst (v := 0) hx hb dX7_digest_471 (by decide) ?_
  refine lv_istore (lv' := [(4, .int (0)), (2, .long r108), (0, .ref (X.2.2 11 40))]) hx hb dX7_digest_472 hl (by decide) rfl (fun ls hl => ?_)
  exact wX7_digest_b474 F 400 u r108 (0 : Int32) _ _ _ h hI (lv_sub hl [2, 1, 0] rfl)
def fX7_digest_j440 (u : x_H) (z0 : Int64) (z1 : Int64) : Option (Int64 × x_H) := (Option.bind (fX7_mix z1 z0) fun r103 => (if (u 45 (Int32.toNatClampNeg (1 : Int32))) = 0 then fX7_digest_j457 u (0 : Int64) r103 else fX7_digest_j457 u (1 : Int64) r103))
set_option maxHeartbeats 4000000 in
set_option maxRecDepth 100000 in
theorem wX7_digest_j440 {p : Program} {l : Launch} {e : Env} {s : State} {m : MethodId} {args : Array Value} {below : List Frame} {meth : Method} {c : Code} {X : x_T} {σ : x_S} {r : (Int64 × x_H)} (F : x_F p s m args meth c cX7_digest 6 RX7 (some .long)) (u : x_H) (z0 : Int64) (z1 : Int64) (H : Heap) (locs : List Loc) (ls : Array Slot) (h : fX7_digest_j440 u z0 z1 = some r) (hI : x_I X (x_sh σ 11 u) s H locs) (hl : lv_has ls 6 [(0, .ref (X.2.2 11 40))]) : W p l e rm_X7_digest s m args below meth c H locs 0 0 (MQ below (x_Ql X r.1 (x_sh σ 11 r.2) s.heap.size) args s 0 0 (x_A X s.heap.size)) (F0 m 440 ls [.long z0, .long z1]) := by
  have hx := F.1
  have hb := F.2.1
  have hml := F.2.2.1
  have hown := F.2.2.2.1
  have hts := F.2.2.2.2.1
  unfold fX7_digest_j440 at h
  obtain ⟨r103, h104, h⟩ := x_bnd h
  refine x_acl hI (x_runS (rest := []) F hI (mX7_mix l X (x_sh σ 11 u) _ z1 z0 r103 h104) g_X7_231 hd_X7_mix ⟨by decide, by decide⟩ ⟨rfl, rfl⟩ rfl hl.1 rfl (Nat.le_of_ble_eq_true rfl) dX7_digest_440 ⟨Nat.zero_le _, Nat.zero_le _⟩) (fun H locs hI => ?_)
  refine lv_aload_n hx hb dX7_digest_443 rfl (lv_at hl 0 rfl) ?_
  refine xg_7_6 F hI (x_inO (by decide)) u_fl_X7_22 dX7_digest_444 ?_
  refine lv_iconst (v := 1) hx hb dX7_digest_447 (by decide) ?_
  refine xh_zald (n := 2) F hI (x_inO (by decide)) (fun _ => rfl) (by decide) dX7_digest_448 ?_
  refine lv_if_eq (tgt := 456) hx hb dX7_digest_449 (by decide) (fun c105 => ?_) (fun c105 => ?_)
  · have h := x_ift h c105
    refine lv_lconst (v := 0) hx hb dX7_digest_456 (by decide) ?_
    exact wX7_digest_j457 F u (0 : Int64) r103 _ _ _ h hI (lv_sub hl [0] rfl)
  · have h := x_iff h c105
    refine lv_lconst (v := 1) hx hb dX7_digest_452 (by decide) ?_
    refine lv_goto (tgt := 457) hx hb dX7_digest_453 (by decide) ?_
    exact wX7_digest_j457 F u (1 : Int64) r103 _ _ _ h hI (lv_sub hl [0] rfl)
def fX7_digest_b293 : Nat → x_H → Int32 → Int64 → Int32 → Option (Int64 × x_H)
  | 0, _, _, _, _ => none
  | n + 1, u, y1, y2, y4 => (if (7 : Int32) ≤ y4 then (Option.bind (fX7_mix y2 ((u 41 (Int32.toNatClampNeg (558 : Int32)))).toInt64) fun r73 => (Option.bind (fX7_mix r73 ((u 41 (Int32.toNatClampNeg (559 : Int32)))).toInt64) fun r75 => (Option.bind (fX7_mix r75 ((u 41 (Int32.toNatClampNeg (560 : Int32)))).toInt64) fun r77 => (Option.bind (fX7_mix r77 ((u 41 (Int32.toNatClampNeg (561 : Int32)))).toInt64) fun r79 => (Option.bind (fX7_mix r79 ((u 41 (Int32.toNatClampNeg (562 : Int32)))).toInt64) fun r81 => (Option.bind (fX7_mix r81 y1.toInt64) fun r83 => (Option.bind (fX7_inRooms (u 42) ) fun r85 => (Option.bind (fX7_mix r83 r85.toInt64) fun r87 => (Option.bind (fX7_mix r87 ((u 40 1)).toInt64) fun r89 => (Option.bind (fX7_share u ) fun r91 => (Option.bind (fJxe99ae_doubleToLongBits_ccdee r91) fun r93 => (Option.bind (fX7_mix r89 r93) fun r95 => (if (u 45 (Int32.toNatClampNeg (0 : Int32))) = 0 then fX7_digest_j440 u (0 : Int64) r95 else fX7_digest_j440 u (1 : Int64) r95))))))))))))) else (if x_in ((563 : Int32) + y4) 570 then (Option.bind (fX7_mix y2 ((u 41 (Int32.toNatClampNeg ((563 : Int32) + y4)))).toInt64) fun r99 => x_let (y4 + (1 : Int32)) fun x101 => fX7_digest_b293 n u y1 r99 x101) else none))
set_option maxHeartbeats 4000000 in
set_option maxRecDepth 100000 in
theorem wX7_digest_b293 {p : Program} {l : Launch} {e : Env} {s : State} {m : MethodId} {args : Array Value} {below : List Frame} {meth : Method} {c : Code} {X : x_T} {σ : x_S} {r : (Int64 × x_H)} (F : x_F p s m args meth c cX7_digest 6 RX7 (some .long)) : ∀ (n : Nat) (u : x_H) (y1 : Int32) (y2 : Int64) (y4 : Int32) (H : Heap) (locs : List Loc) (ls : Array Slot), fX7_digest_b293 n u y1 y2 y4 = some r → x_I X (x_sh σ 11 u) s H locs → lv_has ls 6 [(0, .ref (X.2.2 11 40)), (1, .int y1), (2, .long y2), (4, .int y4)] → W p l e rm_X7_digest s m args below meth c H locs 0 0 (MQ below (x_Ql X r.1 (x_sh σ 11 r.2) s.heap.size) args s 0 0 (x_A X s.heap.size)) (F0 m 293 ls []) := by
  have hx := F.1
  have hb := F.2.1
  have hml := F.2.2.1
  have hown := F.2.2.2.1
  have hts := F.2.2.2.2.1
  intro n
  induction n with
  | zero =>
    intro u y1 y2 y4 H locs ls h
    rw [fX7_digest_b293] at h
    cases h
  | succ n ih =>
    intro u y1 y2 y4 H locs ls h hI hl
    rw [fX7_digest_b293] at h
    refine lv_iload hx hb dX7_digest_293 (lv_at hl 3 rfl) ?_
    refine lv_bipush (v := 7) hx hb dX7_digest_295 (by decide) ?_
    refine lv_icmp_ge (tgt := 323) hx hb dX7_digest_297 (by decide) (fun c72 => ?_) (fun c72 => ?_)
    · have h := x_ift h c72
      refine lv_lload_n hx hb dX7_digest_323 rfl (lv_at hl 2 rfl) ?_
      refine lv_aload_n hx hb dX7_digest_324 rfl (lv_at hl 0 rfl) ?_
      refine xg_7_1 F hI (x_inO (by decide)) u_fl_X7_7 dX7_digest_325 ?_
      refine lv_sipush (v := 558) hx hb dX7_digest_328 (by decide) ?_
      refine xh_iald (n := 570) F hI (x_inO (by decide)) (fun _ => rfl) (by decide) dX7_digest_331 ?_
      refine lv_i2l hx hb dX7_digest_332 rfl ?_
      obtain ⟨r73, h74, h⟩ := x_bnd h
      refine x_acl hI (x_runS (rest := []) F hI (mX7_mix l X (x_sh σ 11 u) _ y2 ((u 41 (Int32.toNatClampNeg (558 : Int32)))).toInt64 r73 h74) g_X7_231 hd_X7_mix ⟨by decide, by decide⟩ ⟨rfl, rfl⟩ rfl hl.1 rfl (Nat.le_of_ble_eq_true rfl) dX7_digest_333 ⟨Nat.zero_le _, Nat.zero_le _⟩) (fun H locs hI => ?_)
      refine lv_aload_n hx hb dX7_digest_336 rfl (lv_at hl 0 rfl) ?_
      refine xg_7_1 F hI (x_inO (by decide)) u_fl_X7_7 dX7_digest_337 ?_
      refine lv_sipush (v := 559) hx hb dX7_digest_340 (by decide) ?_
      refine xh_iald (n := 570) F hI (x_inO (by decide)) (fun _ => rfl) (by decide) dX7_digest_343 ?_
      refine lv_i2l hx hb dX7_digest_344 rfl ?_
      obtain ⟨r75, h76, h⟩ := x_bnd h
      refine x_acl hI (x_runS (rest := []) F hI (mX7_mix l X (x_sh σ 11 u) _ r73 ((u 41 (Int32.toNatClampNeg (559 : Int32)))).toInt64 r75 h76) g_X7_231 hd_X7_mix ⟨by decide, by decide⟩ ⟨rfl, rfl⟩ rfl hl.1 rfl (Nat.le_of_ble_eq_true rfl) dX7_digest_345 ⟨Nat.zero_le _, Nat.zero_le _⟩) (fun H locs hI => ?_)
      refine lv_lstore_n (lv' := [(2, .long r75), (0, .ref (X.2.2 11 40)), (1, .int y1), (4, .int y4)]) hx hb dX7_digest_348 rfl hl (by decide) rfl (fun ls hl => ?_)
      refine lv_lload_n hx hb dX7_digest_349 rfl (lv_at hl 0 rfl) ?_
      refine lv_aload_n hx hb dX7_digest_350 rfl (lv_at hl 1 rfl) ?_
      refine xg_7_1 F hI (x_inO (by decide)) u_fl_X7_7 dX7_digest_351 ?_
      refine lv_sipush (v := 560) hx hb dX7_digest_354 (by decide) ?_
      refine xh_iald (n := 570) F hI (x_inO (by decide)) (fun _ => rfl) (by decide) dX7_digest_357 ?_
      refine lv_i2l hx hb dX7_digest_358 rfl ?_
      obtain ⟨r77, h78, h⟩ := x_bnd h
      refine x_acl hI (x_runS (rest := []) F hI (mX7_mix l X (x_sh σ 11 u) _ r75 ((u 41 (Int32.toNatClampNeg (560 : Int32)))).toInt64 r77 h78) g_X7_231 hd_X7_mix ⟨by decide, by decide⟩ ⟨rfl, rfl⟩ rfl hl.1 rfl (Nat.le_of_ble_eq_true rfl) dX7_digest_359 ⟨Nat.zero_le _, Nat.zero_le _⟩) (fun H locs hI => ?_)
      refine lv_aload_n hx hb dX7_digest_362 rfl (lv_at hl 1 rfl) ?_
      refine xg_7_1 F hI (x_inO (by decide)) u_fl_X7_7 dX7_digest_363 ?_
      refine lv_sipush (v := 561) hx hb dX7_digest_366 (by decide) ?_
      refine xh_iald (n := 570) F hI (x_inO (by decide)) (fun _ => rfl) (by decide) dX7_digest_369 ?_
      refine lv_i2l hx hb dX7_digest_370 rfl ?_
      obtain ⟨r79, h80, h⟩ := x_bnd h
      refine x_acl hI (x_runS (rest := []) F hI (mX7_mix l X (x_sh σ 11 u) _ r77 ((u 41 (Int32.toNatClampNeg (561 : Int32)))).toInt64 r79 h80) g_X7_231 hd_X7_mix ⟨by decide, by decide⟩ ⟨rfl, rfl⟩ rfl hl.1 rfl (Nat.le_of_ble_eq_true rfl) dX7_digest_371 ⟨Nat.zero_le _, Nat.zero_le _⟩) (fun H locs hI => ?_)
      refine lv_aload_n hx hb dX7_digest_374 rfl (lv_at hl 1 rfl) ?_
      refine xg_7_1 F hI (x_inO (by decide)) u_fl_X7_7 dX7_digest_375 ?_
      refine lv_sipush (v := 562) hx hb dX7_digest_378 (by decide) ?_
      refine xh_iald (n := 570) F hI (x_inO (by decide)) (fun _ => rfl) (by decide) dX7_digest_381 ?_
      refine lv_i2l hx hb dX7_digest_382 rfl ?_
      obtain ⟨r81, h82, h⟩ := x_bnd h
      refine x_acl hI (x_runS (rest := []) F hI (mX7_mix l X (x_sh σ 11 u) _ r79 ((u 41 (Int32.toNatClampNeg (562 : Int32)))).toInt64 r81 h82) g_X7_231 hd_X7_mix ⟨by decide, by decide⟩ ⟨rfl, rfl⟩ rfl hl.1 rfl (Nat.le_of_ble_eq_true rfl) dX7_digest_383 ⟨Nat.zero_le _, Nat.zero_le _⟩) (fun H locs hI => ?_)
      refine lv_lstore_n (lv' := [(2, .long r81), (0, .ref (X.2.2 11 40)), (1, .int y1), (4, .int y4)]) hx hb dX7_digest_386 rfl hl (by decide) rfl (fun ls hl => ?_)
      refine lv_lload_n hx hb dX7_digest_387 rfl (lv_at hl 0 rfl) ?_
      refine lv_iload_n hx hb dX7_digest_388 rfl (lv_at hl 2 rfl) ?_
      refine lv_i2l hx hb dX7_digest_389 rfl ?_
      obtain ⟨r83, h84, h⟩ := x_bnd h
      refine x_acl hI (x_runS (rest := []) F hI (mX7_mix l X (x_sh σ 11 u) _ r81 y1.toInt64 r83 h84) g_X7_231 hd_X7_mix ⟨by decide, by decide⟩ ⟨rfl, rfl⟩ rfl hl.1 rfl (Nat.le_of_ble_eq_true rfl) dX7_digest_390 ⟨Nat.zero_le _, Nat.zero_le _⟩) (fun H locs hI => ?_)
      refine lv_aload_n hx hb dX7_digest_393 rfl (lv_at hl 1 rfl) ?_
      refine xg_7_2 F hI (x_inO (by decide)) u_fl_X7_13 dX7_digest_394 ?_
      obtain ⟨r85, h86, h⟩ := x_bnd h
      have hI := x_toV 42 hI
      refine x_aci hI (x_runS (rest := [.long r83]) F hI (mX7_inRooms l X σ u 42 (x_inO (by decide)) (fun _ => rfl) _ (u 42)  r85 h86) g_X7_188 hd_X7_inRooms ⟨by decide, by decide⟩ ⟨rfl, rfl⟩ rfl hl.1 rfl (Nat.le_of_ble_eq_true rfl) dX7_digest_397 ⟨Nat.zero_le _, Nat.zero_le _⟩) (fun H locs hI => ?_)
      rw [x_hs_self] at hI
      refine lv_i2l hx hb dX7_digest_400 rfl ?_
      obtain ⟨r87, h88, h⟩ := x_bnd h
      refine x_acl hI (x_runS (rest := []) F hI (mX7_mix l X (x_sh σ 11 u) _ r83 r85.toInt64 r87 h88) g_X7_231 hd_X7_mix ⟨by decide, by decide⟩ ⟨rfl, rfl⟩ rfl hl.1 rfl (Nat.le_of_ble_eq_true rfl) dX7_digest_401 ⟨Nat.zero_le _, Nat.zero_le _⟩) (fun H locs hI => ?_)
      refine lv_aload_n hx hb dX7_digest_404 rfl (lv_at hl 1 rfl) ?_
      refine xg_7_4 F hI (x_inO (by decide)) u_fl_X7_90 dX7_digest_405 ?_
      refine lv_i2l hx hb dX7_digest_408 rfl ?_
      obtain ⟨r89, h90, h⟩ := x_bnd h
      refine x_acl hI (x_runS (rest := []) F hI (mX7_mix l X (x_sh σ 11 u) _ r87 ((u 40 1)).toInt64 r89 h90) g_X7_231 hd_X7_mix ⟨by decide, by decide⟩ ⟨rfl, rfl⟩ rfl hl.1 rfl (Nat.le_of_ble_eq_true rfl) dX7_digest_409 ⟨Nat.zero_le _, Nat.zero_le _⟩) (fun H locs hI => ?_)
      refine lv_lstore_n (lv' := [(2, .long r89), (0, .ref (X.2.2 11 40)), (1, .int y1), (4, .int y4)]) hx hb dX7_digest_412 rfl hl (by decide) rfl (fun ls hl => ?_)
      refine lv_lload_n hx hb dX7_digest_413 rfl (lv_at hl 0 rfl) ?_
      refine lv_aload_n hx hb dX7_digest_414 rfl (lv_at hl 1 rfl) ?_
      obtain ⟨r91, h92, h⟩ := x_bnd h
      refine x_acd hI (x_runV (rest := [.long r89]) F hI (mX7_share l X σ _ u  r91 h92) g_X7_225 ⟨rfl, hd_X7_share⟩ ⟨by decide, by decide⟩ ⟨rfl, rfl⟩ (x_inO (by decide)) rfl rfl rfl rfl hl.1 rfl (Nat.le_of_ble_eq_true rfl) dX7_digest_415 ⟨Nat.zero_le _, Nat.zero_le _⟩) (fun H locs hI => ?_)
      obtain ⟨r93, h94, h⟩ := x_bnd h
      refine x_acl hI (x_runS (rest := [.long r89]) F hI (mJxe99ae_doubleToLongBits_ccdee l X (x_sh σ 11 u) _ r91 r93 h94) g_X7_244 hd_Jxe99ae_doubleToLongBits_ccdee ⟨by decide, by decide⟩ ⟨rfl, rfl⟩ rfl hl.1 rfl (Nat.le_of_ble_eq_true rfl) dX7_digest_418 ⟨Nat.zero_le _, Nat.zero_le _⟩) (fun H locs hI => ?_)
      obtain ⟨r95, h96, h⟩ := x_bnd h
      refine x_acl hI (x_runS (rest := []) F hI (mX7_mix l X (x_sh σ 11 u) _ r89 r93 r95 h96) g_X7_231 hd_X7_mix ⟨by decide, by decide⟩ ⟨rfl, rfl⟩ rfl hl.1 rfl (Nat.le_of_ble_eq_true rfl) dX7_digest_421 ⟨Nat.zero_le _, Nat.zero_le _⟩) (fun H locs hI => ?_)
      refine lv_lstore_n (lv' := [(2, .long r95), (0, .ref (X.2.2 11 40)), (1, .int y1), (4, .int y4)]) hx hb dX7_digest_424 rfl hl (by decide) rfl (fun ls hl => ?_)
      refine lv_lload_n hx hb dX7_digest_425 rfl (lv_at hl 0 rfl) ?_
      refine lv_aload_n hx hb dX7_digest_426 rfl (lv_at hl 1 rfl) ?_
      refine xg_7_6 F hI (x_inO (by decide)) u_fl_X7_22 dX7_digest_427 ?_
      refine lv_iconst (v := 0) hx hb dX7_digest_430 (by decide) ?_
      refine xh_zald (n := 2) F hI (x_inO (by decide)) (fun _ => rfl) (by decide) dX7_digest_431 ?_
      refine lv_if_eq (tgt := 439) hx hb dX7_digest_432 (by decide) (fun c97 => ?_) (fun c97 => ?_)
      · have h := x_ift h c97
        refine lv_lconst (v := 0) hx hb dX7_digest_439 (by decide) ?_
        exact wX7_digest_j440 F u (0 : Int64) r95 _ _ _ h hI (lv_sub hl [1] rfl)
      · have h := x_iff h c97
        refine lv_lconst (v := 1) hx hb dX7_digest_435 (by decide) ?_
        refine lv_goto (tgt := 440) hx hb dX7_digest_436 (by decide) ?_
        exact wX7_digest_j440 F u (1 : Int64) r95 _ _ _ h hI (lv_sub hl [1] rfl)
    · have h := x_iff h c72
      refine lv_lload_n hx hb dX7_digest_300 rfl (lv_at hl 2 rfl) ?_
      refine lv_aload_n hx hb dX7_digest_301 rfl (lv_at hl 0 rfl) ?_
      refine xg_7_1 F hI (x_inO (by decide)) u_fl_X7_7 dX7_digest_302 ?_
      refine lv_sipush (v := 563) hx hb dX7_digest_305 (by decide) ?_
      refine lv_iload hx hb dX7_digest_308 (lv_at hl 3 rfl) ?_
      refine lv_iadd hx hb dX7_digest_310 ?_
      obtain ⟨g98, h⟩ := x_chk h
      refine xh_iald (n := 570) F hI (x_inO (by decide)) (fun _ => rfl) g98 dX7_digest_311 ?_
      refine lv_i2l hx hb dX7_digest_312 rfl ?_
      obtain ⟨r99, h100, h⟩ := x_bnd h
      refine x_acl hI (x_runS (rest := []) F hI (mX7_mix l X (x_sh σ 11 u) _ y2 ((u 41 (Int32.toNatClampNeg ((563 : Int32) + y4)))).toInt64 r99 h100) g_X7_231 hd_X7_mix ⟨by decide, by decide⟩ ⟨rfl, rfl⟩ rfl hl.1 rfl (Nat.le_of_ble_eq_true rfl) dX7_digest_313 ⟨Nat.zero_le _, Nat.zero_le _⟩) (fun H locs hI => ?_)
      refine lv_lstore_n (lv' := [(2, .long r99), (0, .ref (X.2.2 11 40)), (1, .int y1), (4, .int y4)]) hx hb dX7_digest_316 rfl hl (by decide) rfl (fun ls hl => ?_)
      obtain ⟨x101, e102⟩ : ∃ z : Int32, z = (y4 + (1 : Int32)) := ⟨_, rfl⟩
      have h := x_let_at h e102
      refine lv_iinc (v := x101) (lv' := [(4, .int x101), (2, .long r99), (0, .ref (X.2.2 11 40)), (1, .int y1)]) hx hb dX7_digest_317 hl (k := 3) rfl (by rw [e102]; rfl) (by decide) rfl (fun ls hl => ?_)
      refine lv_goto (tgt := 293) hx hb dX7_digest_320 (by decide) ?_
      exact ih u y1 r99 x101 _ _ _ h hI (lv_sub hl [2, 3, 1, 0] rfl)
def fX7_digest_b191 : Nat → x_H → Int32 → Int64 → Int32 → Option (Int64 × x_H)
  | 0, _, _, _, _ => none
  | n + 1, u, y1, y2, y4 => (if (u 41 (Int32.toNatClampNeg (552 : Int32))) ≤ y4 then (Option.bind (fX7_mix y2 ((u 41 (Int32.toNatClampNeg (554 : Int32)))).toInt64) fun r52 => fX7_digest_b293 400 u y1 r52 (0 : Int32)) else x_let ((192 : Int32) + ((6 : Int32) * y4)) fun x54 => (if x_in x54 570 then (Option.bind (fX7_mix y2 ((u 41 (Int32.toNatClampNeg x54))).toInt64) fun r57 => (if x_in (x54 + (1 : Int32)) 570 then (Option.bind (fX7_mix r57 ((u 41 (Int32.toNatClampNeg (x54 + (1 : Int32))))).toInt64) fun r60 => (if (u 41 (Int32.toNatClampNeg x54)) = 0 then (Option.bind (fX7_mix r60 (0 : Int64)) fun r63 => x_let (y4 + (1 : Int32)) fun x65 => fX7_digest_b191 n u y1 r63 x65) else (if x_in (x54 + (2 : Int32)) 570 then (Option.bind (fX7_mix r60 (((u 41 (Int32.toNatClampNeg (x54 + (2 : Int32)))) + (1 : Int32))).toInt64) fun r68 => x_let (y4 + (1 : Int32)) fun x70 => fX7_digest_b191 n u y1 r68 x70) else none))) else none)) else none))
set_option maxHeartbeats 4000000 in
set_option maxRecDepth 100000 in
theorem wX7_digest_b191 {p : Program} {l : Launch} {e : Env} {s : State} {m : MethodId} {args : Array Value} {below : List Frame} {meth : Method} {c : Code} {X : x_T} {σ : x_S} {r : (Int64 × x_H)} (F : x_F p s m args meth c cX7_digest 6 RX7 (some .long)) : ∀ (n : Nat) (u : x_H) (y1 : Int32) (y2 : Int64) (y4 : Int32) (H : Heap) (locs : List Loc) (ls : Array Slot), fX7_digest_b191 n u y1 y2 y4 = some r → x_I X (x_sh σ 11 u) s H locs → lv_has ls 6 [(0, .ref (X.2.2 11 40)), (1, .int y1), (2, .long y2), (4, .int y4)] → W p l e rm_X7_digest s m args below meth c H locs 0 0 (MQ below (x_Ql X r.1 (x_sh σ 11 r.2) s.heap.size) args s 0 0 (x_A X s.heap.size)) (F0 m 191 ls []) := by
  have hx := F.1
  have hb := F.2.1
  have hml := F.2.2.1
  have hown := F.2.2.2.1
  have hts := F.2.2.2.2.1
  intro n
  induction n with
  | zero =>
    intro u y1 y2 y4 H locs ls h
    rw [fX7_digest_b191] at h
    cases h
  | succ n ih =>
    intro u y1 y2 y4 H locs ls h hI hl
    rw [fX7_digest_b191] at h
    refine lv_iload hx hb dX7_digest_191 (lv_at hl 3 rfl) ?_
    refine lv_aload_n hx hb dX7_digest_193 rfl (lv_at hl 0 rfl) ?_
    refine xg_7_1 F hI (x_inO (by decide)) u_fl_X7_7 dX7_digest_194 ?_
    refine lv_sipush (v := 552) hx hb dX7_digest_197 (by decide) ?_
    refine xh_iald (n := 570) F hI (x_inO (by decide)) (fun _ => rfl) (by decide) dX7_digest_200 ?_
    refine lv_icmp_ge (tgt := 276) hx hb dX7_digest_201 (by decide) (fun c51 => ?_) (fun c51 => ?_)
    · have h := x_ift h c51
      refine lv_lload_n hx hb dX7_digest_276 rfl (lv_at hl 2 rfl) ?_
      refine lv_aload_n hx hb dX7_digest_277 rfl (lv_at hl 0 rfl) ?_
      refine xg_7_1 F hI (x_inO (by decide)) u_fl_X7_7 dX7_digest_278 ?_
      refine lv_sipush (v := 554) hx hb dX7_digest_281 (by decide) ?_
      refine xh_iald (n := 570) F hI (x_inO (by decide)) (fun _ => rfl) (by decide) dX7_digest_284 ?_
      refine lv_i2l hx hb dX7_digest_285 rfl ?_
      obtain ⟨r52, h53, h⟩ := x_bnd h
      refine x_acl hI (x_runS (rest := []) F hI (mX7_mix l X (x_sh σ 11 u) _ y2 ((u 41 (Int32.toNatClampNeg (554 : Int32)))).toInt64 r52 h53) g_X7_231 hd_X7_mix ⟨by decide, by decide⟩ ⟨rfl, rfl⟩ rfl hl.1 rfl (Nat.le_of_ble_eq_true rfl) dX7_digest_286 ⟨Nat.zero_le _, Nat.zero_le _⟩) (fun H locs hI => ?_)
      refine lv_lstore_n (lv' := [(2, .long r52), (0, .ref (X.2.2 11 40)), (1, .int y1), (4, .int y4)]) hx hb dX7_digest_289 rfl hl (by decide) rfl (fun ls hl => ?_)
      refine lv_iconst (v := 0) hx hb dX7_digest_290 (by decide) ?_
      refine lv_istore (lv' := [(4, .int (0)), (2, .long r52), (0, .ref (X.2.2 11 40)), (1, .int y1)]) hx hb dX7_digest_291 hl (by decide) rfl (fun ls hl => ?_)
      exact wX7_digest_b293 F 400 u y1 r52 (0 : Int32) _ _ _ h hI (lv_sub hl [2, 3, 1, 0] rfl)
    · have h := x_iff h c51
      refine lv_sipush (v := 192) hx hb dX7_digest_204 (by decide) ?_
      refine lv_bipush (v := 6) hx hb dX7_digest_207 (by decide) ?_
      refine lv_iload hx hb dX7_digest_209 (lv_at hl 3 rfl) ?_
      refine lv_imul hx hb dX7_digest_211 ?_
      refine lv_iadd hx hb dX7_digest_212 ?_
      refine lv_topi (fun x54 e55 => ?_)
      have h := x_let_at h e55
      refine lv_istore (lv' := [(5, .int x54), (0, .ref (X.2.2 11 40)), (1, .int y1), (2, .long y2), (4, .int y4)]) hx hb dX7_digest_213 hl (by decide) rfl (fun ls hl => ?_)
      refine lv_lload_n hx hb dX7_digest_215 rfl (lv_at hl 3 rfl) ?_
      refine lv_aload_n hx hb dX7_digest_216 rfl (lv_at hl 1 rfl) ?_
      refine xg_7_1 F hI (x_inO (by decide)) u_fl_X7_7 dX7_digest_217 ?_
      refine lv_iload hx hb dX7_digest_220 (lv_at hl 0 rfl) ?_
      obtain ⟨g56, h⟩ := x_chk h
      refine xh_iald (n := 570) F hI (x_inO (by decide)) (fun _ => rfl) g56 dX7_digest_222 ?_
      refine lv_i2l hx hb dX7_digest_223 rfl ?_
      obtain ⟨r57, h58, h⟩ := x_bnd h
      refine x_acl hI (x_runS (rest := []) F hI (mX7_mix l X (x_sh σ 11 u) _ y2 ((u 41 (Int32.toNatClampNeg x54))).toInt64 r57 h58) g_X7_231 hd_X7_mix ⟨by decide, by decide⟩ ⟨rfl, rfl⟩ rfl hl.1 rfl (Nat.le_of_ble_eq_true rfl) dX7_digest_224 ⟨Nat.zero_le _, Nat.zero_le _⟩) (fun H locs hI => ?_)
      refine lv_aload_n hx hb dX7_digest_227 rfl (lv_at hl 1 rfl) ?_
      refine xg_7_1 F hI (x_inO (by decide)) u_fl_X7_7 dX7_digest_228 ?_
      refine lv_iload hx hb dX7_digest_231 (lv_at hl 0 rfl) ?_
      refine lv_iconst (v := 1) hx hb dX7_digest_233 (by decide) ?_
      refine lv_iadd hx hb dX7_digest_234 ?_
      obtain ⟨g59, h⟩ := x_chk h
      refine xh_iald (n := 570) F hI (x_inO (by decide)) (fun _ => rfl) g59 dX7_digest_235 ?_
      refine lv_i2l hx hb dX7_digest_236 rfl ?_
      obtain ⟨r60, h61, h⟩ := x_bnd h
      refine x_acl hI (x_runS (rest := []) F hI (mX7_mix l X (x_sh σ 11 u) _ r57 ((u 41 (Int32.toNatClampNeg (x54 + (1 : Int32))))).toInt64 r60 h61) g_X7_231 hd_X7_mix ⟨by decide, by decide⟩ ⟨rfl, rfl⟩ rfl hl.1 rfl (Nat.le_of_ble_eq_true rfl) dX7_digest_237 ⟨Nat.zero_le _, Nat.zero_le _⟩) (fun H locs hI => ?_)
      refine lv_aload_n hx hb dX7_digest_240 rfl (lv_at hl 1 rfl) ?_
      refine xg_7_1 F hI (x_inO (by decide)) u_fl_X7_7 dX7_digest_241 ?_
      refine lv_iload hx hb dX7_digest_244 (lv_at hl 0 rfl) ?_
      refine xh_iald (n := 570) F hI (x_inO (by decide)) (fun _ => rfl) g56 dX7_digest_246 ?_
      refine lv_if_ne (tgt := 254) hx hb dX7_digest_247 (by decide) (fun c62 => ?_) (fun c62 => ?_)
      · have h := x_iff h c62
        refine lv_aload_n hx hb dX7_digest_254 rfl (lv_at hl 1 rfl) ?_
        refine xg_7_1 F hI (x_inO (by decide)) u_fl_X7_7 dX7_digest_255 ?_
        refine lv_iload hx hb dX7_digest_258 (lv_at hl 0 rfl) ?_
        refine lv_iconst (v := 2) hx hb dX7_digest_260 (by decide) ?_
        refine lv_iadd hx hb dX7_digest_261 ?_
        obtain ⟨g67, h⟩ := x_chk h
        refine xh_iald (n := 570) F hI (x_inO (by decide)) (fun _ => rfl) g67 dX7_digest_262 ?_
        refine lv_iconst (v := 1) hx hb dX7_digest_263 (by decide) ?_
        refine lv_iadd hx hb dX7_digest_264 ?_
        refine lv_i2l hx hb dX7_digest_265 rfl ?_
        obtain ⟨r68, h69, h⟩ := x_bnd h
        refine x_acl hI (x_runS (rest := []) F hI (mX7_mix l X (x_sh σ 11 u) _ r60 (((u 41 (Int32.toNatClampNeg (x54 + (2 : Int32)))) + (1 : Int32))).toInt64 r68 h69) g_X7_231 hd_X7_mix ⟨by decide, by decide⟩ ⟨rfl, rfl⟩ rfl hl.1 rfl (Nat.le_of_ble_eq_true rfl) dX7_digest_266 ⟨Nat.zero_le _, Nat.zero_le _⟩) (fun H locs hI => ?_)
        refine lv_lstore_n (lv' := [(2, .long r68), (5, .int x54), (0, .ref (X.2.2 11 40)), (1, .int y1), (4, .int y4)]) hx hb dX7_digest_269 rfl hl (by decide) rfl (fun ls hl => ?_)
        obtain ⟨x70, e71⟩ : ∃ z : Int32, z = (y4 + (1 : Int32)) := ⟨_, rfl⟩
        have h := x_let_at h e71
        refine lv_iinc (v := x70) (lv' := [(4, .int x70), (2, .long r68), (5, .int x54), (0, .ref (X.2.2 11 40)), (1, .int y1)]) hx hb dX7_digest_270 hl (k := 4) rfl (by rw [e71]; rfl) (by decide) rfl (fun ls hl => ?_)
        refine lv_goto (tgt := 191) hx hb dX7_digest_273 (by decide) ?_
        exact ih u y1 r68 x70 _ _ _ h hI (lv_sub hl [3, 4, 1, 0] rfl)
      · have h := x_ift h c62
        refine lv_lconst (v := 0) hx hb dX7_digest_250 (by decide) ?_
        refine lv_goto (tgt := 266) hx hb dX7_digest_251 (by decide) ?_
        obtain ⟨r63, h64, h⟩ := x_bnd h
        refine x_acl hI (x_runS (rest := []) F hI (mX7_mix l X (x_sh σ 11 u) _ r60 (0 : Int64) r63 h64) g_X7_231 hd_X7_mix ⟨by decide, by decide⟩ ⟨rfl, rfl⟩ rfl hl.1 rfl (Nat.le_of_ble_eq_true rfl) dX7_digest_266 ⟨Nat.zero_le _, Nat.zero_le _⟩) (fun H locs hI => ?_)
        refine lv_lstore_n (lv' := [(2, .long r63), (5, .int x54), (0, .ref (X.2.2 11 40)), (1, .int y1), (4, .int y4)]) hx hb dX7_digest_269 rfl hl (by decide) rfl (fun ls hl => ?_)
        obtain ⟨x65, e66⟩ : ∃ z : Int32, z = (y4 + (1 : Int32)) := ⟨_, rfl⟩
        have h := x_let_at h e66
        refine lv_iinc (v := x65) (lv' := [(4, .int x65), (2, .long r63), (5, .int x54), (0, .ref (X.2.2 11 40)), (1, .int y1)]) hx hb dX7_digest_270 hl (k := 4) rfl (by rw [e66]; rfl) (by decide) rfl (fun ls hl => ?_)
        refine lv_goto (tgt := 191) hx hb dX7_digest_273 (by decide) ?_
        exact ih u y1 r63 x65 _ _ _ h hI (lv_sub hl [3, 4, 1, 0] rfl)
def fX7_digest_b68 : Nat → x_H → Int32 → Int64 → Int32 → Option (Int64 × x_H)
  | 0, _, _, _, _ => none
  | n + 1, u, y1, y2, y4 => (if (16 : Int32) ≤ y4 then (Option.bind (fX7_rooms u (2 : Int32)) fun r19 => (Option.bind (fX7_mix y2 r19.toInt64) fun r21 => (Option.bind (fX7_rooms u (2 : Int32)) fun r23 => (Option.bind (fX7_mix r21 r23.toInt64) fun r25 => (Option.bind (fX7_rooms u (0 : Int32)) fun r27 => (Option.bind (fX7_mix r25 r27.toInt64) fun r29 => (Option.bind (fX7_next u ) fun r31 => (Option.bind (fX7_mix r29 r31.toInt64) fun r33 => (Option.bind (fX7_next u ) fun r35 => (Option.bind (fX7_mix r33 r35.toInt64) fun r37 => (Option.bind (fX7_mix r37 ((u 41 (Int32.toNatClampNeg (555 : Int32)))).toInt64) fun r39 => (Option.bind (fX7_mix r39 ((u 41 (Int32.toNatClampNeg (556 : Int32)))).toInt64) fun r41 => (Option.bind (fX7_mix r41 ((u 41 (Int32.toNatClampNeg (557 : Int32)))).toInt64) fun r43 => (Option.bind (fX7_mix r43 ((u 41 (Int32.toNatClampNeg (552 : Int32)))).toInt64) fun r45 => fX7_digest_b191 400 u y1 r45 (0 : Int32))))))))))))))) else (Option.bind (fX7_roomHash u y2 y4) fun r47 => x_let (y4 + (1 : Int32)) fun x49 => fX7_digest_b68 n u y1 r47 x49))
set_option maxHeartbeats 4000000 in
set_option maxRecDepth 100000 in
theorem wX7_digest_b68 {p : Program} {l : Launch} {e : Env} {s : State} {m : MethodId} {args : Array Value} {below : List Frame} {meth : Method} {c : Code} {X : x_T} {σ : x_S} {r : (Int64 × x_H)} (F : x_F p s m args meth c cX7_digest 6 RX7 (some .long)) : ∀ (n : Nat) (u : x_H) (y1 : Int32) (y2 : Int64) (y4 : Int32) (H : Heap) (locs : List Loc) (ls : Array Slot), fX7_digest_b68 n u y1 y2 y4 = some r → x_I X (x_sh σ 11 u) s H locs → lv_has ls 6 [(0, .ref (X.2.2 11 40)), (1, .int y1), (2, .long y2), (4, .int y4)] → W p l e rm_X7_digest s m args below meth c H locs 0 0 (MQ below (x_Ql X r.1 (x_sh σ 11 r.2) s.heap.size) args s 0 0 (x_A X s.heap.size)) (F0 m 68 ls []) := by
  have hx := F.1
  have hb := F.2.1
  have hml := F.2.2.1
  have hown := F.2.2.2.1
  have hts := F.2.2.2.2.1
  intro n
  induction n with
  | zero =>
    intro u y1 y2 y4 H locs ls h
    rw [fX7_digest_b68] at h
    cases h
  | succ n ih =>
    intro u y1 y2 y4 H locs ls h hI hl
    rw [fX7_digest_b68] at h
    refine lv_iload hx hb dX7_digest_68 (lv_at hl 3 rfl) ?_
    refine lv_bipush (v := 16) hx hb dX7_digest_70 (by decide) ?_
    refine lv_icmp_ge (tgt := 89) hx hb dX7_digest_72 (by decide) (fun c18 => ?_) (fun c18 => ?_)
    · have h := x_ift h c18
      refine lv_lload_n hx hb dX7_digest_89 rfl (lv_at hl 2 rfl) ?_
      refine lv_aload_n hx hb dX7_digest_90 rfl (lv_at hl 0 rfl) ?_
      refine lv_iconst (v := 2) hx hb dX7_digest_91 (by decide) ?_
      obtain ⟨r19, h20, h⟩ := x_bnd h
      refine x_aci hI (x_runV (rest := [.long y2]) F hI (mX7_rooms l X σ _ u (2 : Int32) r19 h20) g_X7_212 ⟨rfl, hd_X7_rooms⟩ ⟨by decide, by decide⟩ ⟨rfl, rfl⟩ (x_inO (by decide)) rfl rfl rfl rfl hl.1 rfl (Nat.le_of_ble_eq_true rfl) dX7_digest_92 ⟨Nat.zero_le _, Nat.zero_le _⟩) (fun H locs hI => ?_)
      refine lv_i2l hx hb dX7_digest_95 rfl ?_
      obtain ⟨r21, h22, h⟩ := x_bnd h
      refine x_acl hI (x_runS (rest := []) F hI (mX7_mix l X (x_sh σ 11 u) _ y2 r19.toInt64 r21 h22) g_X7_231 hd_X7_mix ⟨by decide, by decide⟩ ⟨rfl, rfl⟩ rfl hl.1 rfl (Nat.le_of_ble_eq_true rfl) dX7_digest_96 ⟨Nat.zero_le _, Nat.zero_le _⟩) (fun H locs hI => ?_)
      refine lv_aload_n hx hb dX7_digest_99 rfl (lv_at hl 0 rfl) ?_
      refine lv_iconst (v := 2) hx hb dX7_digest_100 (by decide) ?_
      obtain ⟨r23, h24, h⟩ := x_bnd h
      refine x_aci hI (x_runV (rest := [.long r21]) F hI (mX7_rooms l X σ _ u (2 : Int32) r23 h24) g_X7_212 ⟨rfl, hd_X7_rooms⟩ ⟨by decide, by decide⟩ ⟨rfl, rfl⟩ (x_inO (by decide)) rfl rfl rfl rfl hl.1 rfl (Nat.le_of_ble_eq_true rfl) dX7_digest_101 ⟨Nat.zero_le _, Nat.zero_le _⟩) (fun H locs hI => ?_)
      refine lv_i2l hx hb dX7_digest_104 rfl ?_
      obtain ⟨r25, h26, h⟩ := x_bnd h
      refine x_acl hI (x_runS (rest := []) F hI (mX7_mix l X (x_sh σ 11 u) _ r21 r23.toInt64 r25 h26) g_X7_231 hd_X7_mix ⟨by decide, by decide⟩ ⟨rfl, rfl⟩ rfl hl.1 rfl (Nat.le_of_ble_eq_true rfl) dX7_digest_105 ⟨Nat.zero_le _, Nat.zero_le _⟩) (fun H locs hI => ?_)
      refine lv_aload_n hx hb dX7_digest_108 rfl (lv_at hl 0 rfl) ?_
      refine lv_iconst (v := 0) hx hb dX7_digest_109 (by decide) ?_
      obtain ⟨r27, h28, h⟩ := x_bnd h
      refine x_aci hI (x_runV (rest := [.long r25]) F hI (mX7_rooms l X σ _ u (0 : Int32) r27 h28) g_X7_212 ⟨rfl, hd_X7_rooms⟩ ⟨by decide, by decide⟩ ⟨rfl, rfl⟩ (x_inO (by decide)) rfl rfl rfl rfl hl.1 rfl (Nat.le_of_ble_eq_true rfl) dX7_digest_110 ⟨Nat.zero_le _, Nat.zero_le _⟩) (fun H locs hI => ?_)
      refine lv_i2l hx hb dX7_digest_113 rfl ?_
      obtain ⟨r29, h30, h⟩ := x_bnd h
      refine x_acl hI (x_runS (rest := []) F hI (mX7_mix l X (x_sh σ 11 u) _ r25 r27.toInt64 r29 h30) g_X7_231 hd_X7_mix ⟨by decide, by decide⟩ ⟨rfl, rfl⟩ rfl hl.1 rfl (Nat.le_of_ble_eq_true rfl) dX7_digest_114 ⟨Nat.zero_le _, Nat.zero_le _⟩) (fun H locs hI => ?_)
      refine lv_lstore_n (lv' := [(2, .long r29), (0, .ref (X.2.2 11 40)), (1, .int y1), (4, .int y4)]) hx hb dX7_digest_117 rfl hl (by decide) rfl (fun ls hl => ?_)
      refine lv_lload_n hx hb dX7_digest_118 rfl (lv_at hl 0 rfl) ?_
      refine lv_aload_n hx hb dX7_digest_119 rfl (lv_at hl 1 rfl) ?_
      obtain ⟨r31, h32, h⟩ := x_bnd h
      refine x_aci hI (x_runV (rest := [.long r29]) F hI (mX7_next l X σ _ u  r31 h32) g_X7_215 ⟨rfl, hd_X7_next⟩ ⟨by decide, by decide⟩ ⟨rfl, rfl⟩ (x_inO (by decide)) rfl rfl rfl rfl hl.1 rfl (Nat.le_of_ble_eq_true rfl) dX7_digest_120 ⟨Nat.zero_le _, Nat.zero_le _⟩) (fun H locs hI => ?_)
      refine lv_i2l hx hb dX7_digest_123 rfl ?_
      obtain ⟨r33, h34, h⟩ := x_bnd h
      refine x_acl hI (x_runS (rest := []) F hI (mX7_mix l X (x_sh σ 11 u) _ r29 r31.toInt64 r33 h34) g_X7_231 hd_X7_mix ⟨by decide, by decide⟩ ⟨rfl, rfl⟩ rfl hl.1 rfl (Nat.le_of_ble_eq_true rfl) dX7_digest_124 ⟨Nat.zero_le _, Nat.zero_le _⟩) (fun H locs hI => ?_)
      refine lv_aload_n hx hb dX7_digest_127 rfl (lv_at hl 1 rfl) ?_
      obtain ⟨r35, h36, h⟩ := x_bnd h
      refine x_aci hI (x_runV (rest := [.long r33]) F hI (mX7_next l X σ _ u  r35 h36) g_X7_215 ⟨rfl, hd_X7_next⟩ ⟨by decide, by decide⟩ ⟨rfl, rfl⟩ (x_inO (by decide)) rfl rfl rfl rfl hl.1 rfl (Nat.le_of_ble_eq_true rfl) dX7_digest_128 ⟨Nat.zero_le _, Nat.zero_le _⟩) (fun H locs hI => ?_)
      refine lv_i2l hx hb dX7_digest_131 rfl ?_
      obtain ⟨r37, h38, h⟩ := x_bnd h
      refine x_acl hI (x_runS (rest := []) F hI (mX7_mix l X (x_sh σ 11 u) _ r33 r35.toInt64 r37 h38) g_X7_231 hd_X7_mix ⟨by decide, by decide⟩ ⟨rfl, rfl⟩ rfl hl.1 rfl (Nat.le_of_ble_eq_true rfl) dX7_digest_132 ⟨Nat.zero_le _, Nat.zero_le _⟩) (fun H locs hI => ?_)
      refine lv_lstore_n (lv' := [(2, .long r37), (0, .ref (X.2.2 11 40)), (1, .int y1), (4, .int y4)]) hx hb dX7_digest_135 rfl hl (by decide) rfl (fun ls hl => ?_)
      refine lv_lload_n hx hb dX7_digest_136 rfl (lv_at hl 0 rfl) ?_
      refine lv_aload_n hx hb dX7_digest_137 rfl (lv_at hl 1 rfl) ?_
      refine xg_7_1 F hI (x_inO (by decide)) u_fl_X7_7 dX7_digest_138 ?_
      refine lv_sipush (v := 555) hx hb dX7_digest_141 (by decide) ?_
      refine xh_iald (n := 570) F hI (x_inO (by decide)) (fun _ => rfl) (by decide) dX7_digest_144 ?_
      refine lv_i2l hx hb dX7_digest_145 rfl ?_
      obtain ⟨r39, h40, h⟩ := x_bnd h
      refine x_acl hI (x_runS (rest := []) F hI (mX7_mix l X (x_sh σ 11 u) _ r37 ((u 41 (Int32.toNatClampNeg (555 : Int32)))).toInt64 r39 h40) g_X7_231 hd_X7_mix ⟨by decide, by decide⟩ ⟨rfl, rfl⟩ rfl hl.1 rfl (Nat.le_of_ble_eq_true rfl) dX7_digest_146 ⟨Nat.zero_le _, Nat.zero_le _⟩) (fun H locs hI => ?_)
      refine lv_aload_n hx hb dX7_digest_149 rfl (lv_at hl 1 rfl) ?_
      refine xg_7_1 F hI (x_inO (by decide)) u_fl_X7_7 dX7_digest_150 ?_
      refine lv_sipush (v := 556) hx hb dX7_digest_153 (by decide) ?_
      refine xh_iald (n := 570) F hI (x_inO (by decide)) (fun _ => rfl) (by decide) dX7_digest_156 ?_
      refine lv_i2l hx hb dX7_digest_157 rfl ?_
      obtain ⟨r41, h42, h⟩ := x_bnd h
      refine x_acl hI (x_runS (rest := []) F hI (mX7_mix l X (x_sh σ 11 u) _ r39 ((u 41 (Int32.toNatClampNeg (556 : Int32)))).toInt64 r41 h42) g_X7_231 hd_X7_mix ⟨by decide, by decide⟩ ⟨rfl, rfl⟩ rfl hl.1 rfl (Nat.le_of_ble_eq_true rfl) dX7_digest_158 ⟨Nat.zero_le _, Nat.zero_le _⟩) (fun H locs hI => ?_)
      refine lv_aload_n hx hb dX7_digest_161 rfl (lv_at hl 1 rfl) ?_
      refine xg_7_1 F hI (x_inO (by decide)) u_fl_X7_7 dX7_digest_162 ?_
      refine lv_sipush (v := 557) hx hb dX7_digest_165 (by decide) ?_
      refine xh_iald (n := 570) F hI (x_inO (by decide)) (fun _ => rfl) (by decide) dX7_digest_168 ?_
      refine lv_i2l hx hb dX7_digest_169 rfl ?_
      obtain ⟨r43, h44, h⟩ := x_bnd h
      refine x_acl hI (x_runS (rest := []) F hI (mX7_mix l X (x_sh σ 11 u) _ r41 ((u 41 (Int32.toNatClampNeg (557 : Int32)))).toInt64 r43 h44) g_X7_231 hd_X7_mix ⟨by decide, by decide⟩ ⟨rfl, rfl⟩ rfl hl.1 rfl (Nat.le_of_ble_eq_true rfl) dX7_digest_170 ⟨Nat.zero_le _, Nat.zero_le _⟩) (fun H locs hI => ?_)
      refine lv_lstore_n (lv' := [(2, .long r43), (0, .ref (X.2.2 11 40)), (1, .int y1), (4, .int y4)]) hx hb dX7_digest_173 rfl hl (by decide) rfl (fun ls hl => ?_)
      refine lv_lload_n hx hb dX7_digest_174 rfl (lv_at hl 0 rfl) ?_
      refine lv_aload_n hx hb dX7_digest_175 rfl (lv_at hl 1 rfl) ?_
      refine xg_7_1 F hI (x_inO (by decide)) u_fl_X7_7 dX7_digest_176 ?_
      refine lv_sipush (v := 552) hx hb dX7_digest_179 (by decide) ?_
      refine xh_iald (n := 570) F hI (x_inO (by decide)) (fun _ => rfl) (by decide) dX7_digest_182 ?_
      refine lv_i2l hx hb dX7_digest_183 rfl ?_
      obtain ⟨r45, h46, h⟩ := x_bnd h
      refine x_acl hI (x_runS (rest := []) F hI (mX7_mix l X (x_sh σ 11 u) _ r43 ((u 41 (Int32.toNatClampNeg (552 : Int32)))).toInt64 r45 h46) g_X7_231 hd_X7_mix ⟨by decide, by decide⟩ ⟨rfl, rfl⟩ rfl hl.1 rfl (Nat.le_of_ble_eq_true rfl) dX7_digest_184 ⟨Nat.zero_le _, Nat.zero_le _⟩) (fun H locs hI => ?_)
      refine lv_lstore_n (lv' := [(2, .long r45), (0, .ref (X.2.2 11 40)), (1, .int y1), (4, .int y4)]) hx hb dX7_digest_187 rfl hl (by decide) rfl (fun ls hl => ?_)
      refine lv_iconst (v := 0) hx hb dX7_digest_188 (by decide) ?_
      refine lv_istore (lv' := [(4, .int (0)), (2, .long r45), (0, .ref (X.2.2 11 40)), (1, .int y1)]) hx hb dX7_digest_189 hl (by decide) rfl (fun ls hl => ?_)
      exact wX7_digest_b191 F 400 u y1 r45 (0 : Int32) _ _ _ h hI (lv_sub hl [2, 3, 1, 0] rfl)
    · have h := x_iff h c18
      refine lv_aload_n hx hb dX7_digest_75 rfl (lv_at hl 0 rfl) ?_
      refine lv_lload_n hx hb dX7_digest_76 rfl (lv_at hl 2 rfl) ?_
      refine lv_iload hx hb dX7_digest_77 (lv_at hl 3 rfl) ?_
      obtain ⟨r47, h48, h⟩ := x_bnd h
      refine x_acl hI (x_runV (rest := []) F hI (mX7_roomHash l X σ _ u y2 y4 r47 h48) g_X7_241 ⟨rfl, hd_X7_roomHash⟩ ⟨by decide, by decide⟩ ⟨rfl, rfl⟩ (x_inO (by decide)) rfl rfl rfl rfl hl.1 rfl (Nat.le_of_ble_eq_true rfl) dX7_digest_79 ⟨Nat.zero_le _, Nat.zero_le _⟩) (fun H locs hI => ?_)
      refine lv_lstore_n (lv' := [(2, .long r47), (0, .ref (X.2.2 11 40)), (1, .int y1), (4, .int y4)]) hx hb dX7_digest_82 rfl hl (by decide) rfl (fun ls hl => ?_)
      obtain ⟨x49, e50⟩ : ∃ z : Int32, z = (y4 + (1 : Int32)) := ⟨_, rfl⟩
      have h := x_let_at h e50
      refine lv_iinc (v := x49) (lv' := [(4, .int x49), (2, .long r47), (0, .ref (X.2.2 11 40)), (1, .int y1)]) hx hb dX7_digest_83 hl (k := 3) rfl (by rw [e50]; rfl) (by decide) rfl (fun ls hl => ?_)
      refine lv_goto (tgt := 68) hx hb dX7_digest_86 (by decide) ?_
      exact ih u y1 r47 x49 _ _ _ h hI (lv_sub hl [2, 3, 1, 0] rfl)
def fX7_digest_b31 : Nat → x_H → Int32 → Int64 → Int32 → Option (Int64 × x_H)
  | 0, _, _, _, _ => none
  | n + 1, u, y1, y2, y4 => (if (12 : Int32) ≤ y4 then (Option.bind (fX7_inRooms (u 41) ) fun r10 => (Option.bind (fX7_mix y2 r10.toInt64) fun r12 => fX7_digest_b68 400 u y1 r12 (0 : Int32))) else (Option.bind (fX7_guestHash u y2 y4) fun r14 => x_let (y4 + (1 : Int32)) fun x16 => fX7_digest_b31 n u y1 r14 x16))
set_option maxHeartbeats 4000000 in
set_option maxRecDepth 100000 in
theorem wX7_digest_b31 {p : Program} {l : Launch} {e : Env} {s : State} {m : MethodId} {args : Array Value} {below : List Frame} {meth : Method} {c : Code} {X : x_T} {σ : x_S} {r : (Int64 × x_H)} (F : x_F p s m args meth c cX7_digest 6 RX7 (some .long)) : ∀ (n : Nat) (u : x_H) (y1 : Int32) (y2 : Int64) (y4 : Int32) (H : Heap) (locs : List Loc) (ls : Array Slot), fX7_digest_b31 n u y1 y2 y4 = some r → x_I X (x_sh σ 11 u) s H locs → lv_has ls 6 [(0, .ref (X.2.2 11 40)), (1, .int y1), (2, .long y2), (4, .int y4)] → W p l e rm_X7_digest s m args below meth c H locs 0 0 (MQ below (x_Ql X r.1 (x_sh σ 11 r.2) s.heap.size) args s 0 0 (x_A X s.heap.size)) (F0 m 31 ls []) := by
  have hx := F.1
  have hb := F.2.1
  have hml := F.2.2.1
  have hown := F.2.2.2.1
  have hts := F.2.2.2.2.1
  intro n
  induction n with
  | zero =>
    intro u y1 y2 y4 H locs ls h
    rw [fX7_digest_b31] at h
    cases h
  | succ n ih =>
    intro u y1 y2 y4 H locs ls h hI hl
    rw [fX7_digest_b31] at h
    refine lv_iload hx hb dX7_digest_31 (lv_at hl 3 rfl) ?_
    refine lv_bipush (v := 12) hx hb dX7_digest_33 (by decide) ?_
    refine lv_icmp_ge (tgt := 52) hx hb dX7_digest_35 (by decide) (fun c9 => ?_) (fun c9 => ?_)
    · have h := x_ift h c9
      refine lv_lload_n hx hb dX7_digest_52 rfl (lv_at hl 2 rfl) ?_
      refine lv_aload_n hx hb dX7_digest_53 rfl (lv_at hl 0 rfl) ?_
      refine xg_7_1 F hI (x_inO (by decide)) u_fl_X7_7 dX7_digest_54 ?_
      obtain ⟨r10, h11, h⟩ := x_bnd h
      have hI := x_toV 41 hI
      refine x_aci hI (x_runS (rest := [.long y2]) F hI (mX7_inRooms l X σ u 41 (x_inO (by decide)) (fun _ => rfl) _ (u 41)  r10 h11) g_X7_188 hd_X7_inRooms ⟨by decide, by decide⟩ ⟨rfl, rfl⟩ rfl hl.1 rfl (Nat.le_of_ble_eq_true rfl) dX7_digest_57 ⟨Nat.zero_le _, Nat.zero_le _⟩) (fun H locs hI => ?_)
      rw [x_hs_self] at hI
      refine lv_i2l hx hb dX7_digest_60 rfl ?_
      obtain ⟨r12, h13, h⟩ := x_bnd h
      refine x_acl hI (x_runS (rest := []) F hI (mX7_mix l X (x_sh σ 11 u) _ y2 r10.toInt64 r12 h13) g_X7_231 hd_X7_mix ⟨by decide, by decide⟩ ⟨rfl, rfl⟩ rfl hl.1 rfl (Nat.le_of_ble_eq_true rfl) dX7_digest_61 ⟨Nat.zero_le _, Nat.zero_le _⟩) (fun H locs hI => ?_)
      refine lv_lstore_n (lv' := [(2, .long r12), (0, .ref (X.2.2 11 40)), (1, .int y1), (4, .int y4)]) hx hb dX7_digest_64 rfl hl (by decide) rfl (fun ls hl => ?_)
      refine lv_iconst (v := 0) hx hb dX7_digest_65 (by decide) ?_
      refine lv_istore (lv' := [(4, .int (0)), (2, .long r12), (0, .ref (X.2.2 11 40)), (1, .int y1)]) hx hb dX7_digest_66 hl (by decide) rfl (fun ls hl => ?_)
      exact wX7_digest_b68 F 400 u y1 r12 (0 : Int32) _ _ _ h hI (lv_sub hl [2, 3, 1, 0] rfl)
    · have h := x_iff h c9
      refine lv_aload_n hx hb dX7_digest_38 rfl (lv_at hl 0 rfl) ?_
      refine lv_lload_n hx hb dX7_digest_39 rfl (lv_at hl 2 rfl) ?_
      refine lv_iload hx hb dX7_digest_40 (lv_at hl 3 rfl) ?_
      obtain ⟨r14, h15, h⟩ := x_bnd h
      refine x_acl hI (x_runV (rest := []) F hI (mX7_guestHash l X σ _ u y2 y4 r14 h15) g_X7_237 ⟨rfl, hd_X7_guestHash⟩ ⟨by decide, by decide⟩ ⟨rfl, rfl⟩ (x_inO (by decide)) rfl rfl rfl rfl hl.1 rfl (Nat.le_of_ble_eq_true rfl) dX7_digest_42 ⟨Nat.zero_le _, Nat.zero_le _⟩) (fun H locs hI => ?_)
      refine lv_lstore_n (lv' := [(2, .long r14), (0, .ref (X.2.2 11 40)), (1, .int y1), (4, .int y4)]) hx hb dX7_digest_45 rfl hl (by decide) rfl (fun ls hl => ?_)
      obtain ⟨x16, e17⟩ : ∃ z : Int32, z = (y4 + (1 : Int32)) := ⟨_, rfl⟩
      have h := x_let_at h e17
      refine lv_iinc (v := x16) (lv' := [(4, .int x16), (2, .long r14), (0, .ref (X.2.2 11 40)), (1, .int y1)]) hx hb dX7_digest_46 hl (k := 3) rfl (by rw [e17]; rfl) (by decide) rfl (fun ls hl => ?_)
      refine lv_goto (tgt := 31) hx hb dX7_digest_49 (by decide) ?_
      exact ih u y1 r14 x16 _ _ _ h hI (lv_sub hl [2, 3, 1, 0] rfl)
def fX7_digest (u : x_H) : Option (Int64 × x_H) := x_let (x_hu u 40 0 (0 : Int32)) fun u1 => x_let (x_hs u1 42 (u1 41)) fun u3 => (Option.bind (fX7_handleAll (u3 42) ) fun r5 => x_let (x_hs u3 42 r5.2) fun u7 => fX7_digest_b31 400 u7 r5.1 (4409 : Int64) (0 : Int32))
set_option maxHeartbeats 4000000 in
set_option maxRecDepth 100000 in
theorem mX7_digest (l : Launch) (X : x_T) (σ : x_S) (sz : Nat) (u : x_H) (r : (Int64 × x_H)) (h : fX7_digest u  = some r) : Met l yX7_digest (x_ws yX7_digest cX7_digest 6 (some .long)) rm_X7_digest (x_Pc X (x_sh σ 11 u) sz [.ref (X.2.2 11 40)]) (x_Ql X r.1 (x_sh σ 11 r.2) sz) 0 0 (x_A X sz) := by
  refine Met.ofW (cc := cX7_digest) (maxL := 6) (ret := (some .long)) (by decide) rfl ?_
  intro p e s m args below meth c s₁ B hml hv
  obtain ⟨F, hI, rfl, rfl⟩ := x_begin B hml hv
  replace F : x_F p s m _ meth c cX7_digest 6 RX7 (some .long) := F
  have hx := F.1
  have hb := F.2.1
  have hml := F.2.2.1
  have hown := F.2.2.2.1
  have hts := F.2.2.2.2.1
  refine x_entry (vs := [.ref (X.2.2 11 40)]) (n := 6) (Nat.le_of_ble_eq_true rfl) (fun ls hl => ?_)
  replace hl : lv_has ls 6 [(0, .ref (X.2.2 11 40))] := hl
  unfold fX7_digest at h
  refine lv_aload_n hx hb dX7_digest_0 rfl (lv_at hl 0 rfl) ?_
  refine lv_iconst (v := 0) hx hb dX7_digest_1 (by decide) ?_
  refine xp_7_0 F hI (x_inO (by decide)) u_fl_X7_29 dX7_digest_2 (fun H locs u1 e2 hI => ?_)
  have h := x_let_at h e2
  refine lv_aload_n hx hb dX7_digest_5 rfl (lv_at hl 0 rfl) ?_
  refine xg_7_1 F hI (x_inO (by decide)) u_fl_X7_7 dX7_digest_6 ?_
  refine lv_aload_n hx hb dX7_digest_9 rfl (lv_at hl 0 rfl) ?_
  refine xg_7_2 F hI (x_inO (by decide)) u_fl_X7_13 dX7_digest_10 ?_
  refine x_acv hI (x_runS (rest := []) F hI (mX7_copyN l X σ 41 42 (x_inO (by decide)) (x_inO (by decide)) (fun _ => rfl) (fun _ => rfl) (by decide) _ u1) g_X7_178 hd_X7_copy ⟨by decide, by decide⟩ ⟨rfl, rfl⟩ rfl hl.1 rfl (Nat.le_of_ble_eq_true rfl) dX7_digest_13 ⟨Nat.zero_le _, Nat.zero_le _⟩) (fun H locs hI => ?_)
  obtain ⟨u3, e4⟩ : ∃ z : x_H, z = (x_hs u1 42 (u1 41)) := ⟨_, rfl⟩
  rw [← e4] at hI
  have h := x_let_at h e4
  refine lv_aload_n hx hb dX7_digest_16 rfl (lv_at hl 0 rfl) ?_
  refine xg_7_2 F hI (x_inO (by decide)) u_fl_X7_13 dX7_digest_17 ?_
  obtain ⟨r5, h6, h⟩ := x_bnd h
  have hI := x_toV 42 hI
  refine x_aci hI (x_runS (rest := []) F hI (mX7_handleAll l X σ u3 42 (x_inO (by decide)) (fun _ => rfl) _ (u3 42)  r5 h6) g_X7_131 hd_X7_handleAll ⟨by decide, by decide⟩ ⟨rfl, rfl⟩ rfl hl.1 rfl (Nat.le_of_ble_eq_true rfl) dX7_digest_20 ⟨Nat.zero_le _, Nat.zero_le _⟩) (fun H locs hI => ?_)
  obtain ⟨u7, e8⟩ : ∃ z : x_H, z = x_hs u3 42 r5.2 := ⟨_, rfl⟩
  rw [← e8] at hI
  have h := x_let_at h e8
  refine lv_istore_n (lv' := [(1, .int r5.1), (0, .ref (X.2.2 11 40))]) hx hb dX7_digest_23 rfl hl (by decide) rfl (fun ls hl => ?_)
  refine lv_ldc2 (v := 4409) hx hb hown (hts _ u_cl_X7_235) dX7_digest_24 ?_
  refine lv_lstore_n (lv' := [(2, .long (4409 : Int64)), (1, .int r5.1), (0, .ref (X.2.2 11 40))]) hx hb dX7_digest_27 rfl hl (by decide) rfl (fun ls hl => ?_)
  refine lv_iconst (v := 0) hx hb dX7_digest_28 (by decide) ?_
  refine lv_istore (lv' := [(4, .int (0)), (2, .long (4409 : Int64)), (1, .int r5.1), (0, .ref (X.2.2 11 40))]) hx hb dX7_digest_29 hl (by decide) rfl (fun ls hl => ?_)
  exact wX7_digest_b31 F 400 u7 r5.1 (4409 : Int64) (0 : Int32) _ _ _ h hI (lv_sub hl [3, 2, 1, 0] rfl)
