abbrev rm_X4_hasPlace : Room := { frames := 0, cells := 0, slots := 0, locals := 0 }
def fX4_hasPlace (u : x_H) (a1 : Int32) : Option Int32 := (if a1 < 0 then some (0 : Int32) else (if (u 3 0) ≤ a1 then some (0 : Int32) else (if (60 : Int32) < (u 3 0) then some (0 : Int32) else some (1 : Int32))))
set_option maxHeartbeats 4000000 in
set_option maxRecDepth 100000 in
theorem mX4_hasPlace (l : Launch) (X : x_T) (σ : x_S) (j : Nat) (hj : j < 10) (sz : Nat) (u : x_H) (a1 : Int32) (r : Int32) (h : fX4_hasPlace u a1 = some r) : Met l yX4_hasPlace (x_ws yX4_hasPlace cX4_hasPlace 2 (some .boolean)) rm_X4_hasPlace (x_Pc X (x_sh σ j u) sz [.ref (X.2.2 j 3), .int a1]) (x_Qi X r (x_sh σ j u) sz) 0 0 (x_A X sz) := by
  refine Met.ofW (cc := cX4_hasPlace) (maxL := 2) (ret := (some .boolean)) (by decide) rfl ?_
  intro p e s m args below meth c s₁ B hml hv
  obtain ⟨F, hI, rfl, rfl⟩ := x_begin B hml hv
  replace F : x_F p s m _ meth c cX4_hasPlace 2 RX4 (some .boolean) := F
  have hx := F.1
  have hb := F.2.1
  have hml := F.2.2.1
  have hown := F.2.2.2.1
  have hts := F.2.2.2.2.1
  refine x_entry (vs := [.ref (X.2.2 j 3), .int a1]) (n := 2) (Nat.le_of_ble_eq_true rfl) (fun ls hl => ?_)
  replace hl : lv_has ls 2 [(0, .ref (X.2.2 j 3)), (1, .int a1)] := hl
  unfold fX4_hasPlace at h
  refine lv_iload_n hx hb dX4_hasPlace_0 rfl (lv_at hl 1 rfl) ?_
  refine lv_if_lt (tgt := 25) hx hb dX4_hasPlace_1 (by decide) (fun c1 => ?_) (fun c1 => ?_)
  · have h := x_ift h c1
    refine lv_iconst (v := 0) hx hb dX4_hasPlace_25 (by decide) ?_
    rw [x_some h]
    exact x_zret (v := 0) F hI (by decide) dX4_hasPlace_26
  · have h := x_iff h c1
    refine lv_iload_n hx hb dX4_hasPlace_4 rfl (lv_at hl 1 rfl) ?_
    refine lv_aload_n hx hb dX4_hasPlace_5 rfl (lv_at hl 0 rfl) ?_
    refine xg_4_6 F hI (x_inH hj (by decide)) u_fl_X4_34 dX4_hasPlace_6 ?_
    refine lv_icmp_ge (tgt := 25) hx hb dX4_hasPlace_9 (by decide) (fun c2 => ?_) (fun c2 => ?_)
    · have h := x_ift h c2
      refine lv_iconst (v := 0) hx hb dX4_hasPlace_25 (by decide) ?_
      rw [x_some h]
      exact x_zret (v := 0) F hI (by decide) dX4_hasPlace_26
    · have h := x_iff h c2
      refine lv_aload_n hx hb dX4_hasPlace_12 rfl (lv_at hl 0 rfl) ?_
      refine xg_4_6 F hI (x_inH hj (by decide)) u_fl_X4_34 dX4_hasPlace_13 ?_
      refine lv_bipush (v := 60) hx hb dX4_hasPlace_16 (by decide) ?_
      refine lv_icmp_gt (tgt := 25) hx hb dX4_hasPlace_18 (by decide) (fun c3 => ?_) (fun c3 => ?_)
      · have h := x_ift h c3
        refine lv_iconst (v := 0) hx hb dX4_hasPlace_25 (by decide) ?_
        rw [x_some h]
        exact x_zret (v := 0) F hI (by decide) dX4_hasPlace_26
      · have h := x_iff h c3
        refine lv_iconst (v := 1) hx hb dX4_hasPlace_21 (by decide) ?_
        refine lv_goto (tgt := 26) hx hb dX4_hasPlace_22 (by decide) ?_
        rw [x_some h]
        exact x_zret (v := 1) F hI (by decide) dX4_hasPlace_26
abbrev rm_X4_closeGap : Room := { frames := 1, cells := 0, slots := 0, locals := 26 }
def fX4_closeGap (u : x_H) (kv : Nat) (a1 : Int32) : Option x_H := (if x_cp (a1 + (1 : Int32)) a1 (((u 3 0) - a1) - (1 : Int32)) 60 60 then x_let (x_hs u kv (va_cpy (u kv) (u kv) (Int32.toNatClampNeg (a1 + (1 : Int32))) (Int32.toNatClampNeg a1) (Int32.toNatClampNeg (((u 3 0) - a1) - (1 : Int32))))) fun u2 => some (u2) else none)
set_option maxHeartbeats 4000000 in
set_option maxRecDepth 100000 in
theorem mX4_closeGap (l : Launch) (X : x_T) (σ : x_S) (j : Nat) (hj : j < 10) (kv : Nat) (hkm : (j, kv) ∈ x_ids) (hkc : ∀ v : x_V, x_cell X j kv v = .inl (X.2.1 0, 60, .inl v)) (sz : Nat) (u : x_H) (a1 : Int32) (r : x_H) (h : fX4_closeGap u kv a1 = some r) : Met l yX4_closeGap (x_ws yX4_closeGap cX4_closeGap 3 none) rm_X4_closeGap (x_Pc X (x_sh σ j u) sz [.ref (X.2.2 j 3), .ref (X.2.2 j kv), .int a1]) (x_Qv X (x_sh σ j r) sz) 0 0 (x_A X sz) := by
  refine Met.ofW (cc := cX4_closeGap) (maxL := 3) (ret := none) (by decide) rfl ?_
  intro p e s m args below meth c s₁ B hml hv
  obtain ⟨F, hI, rfl, rfl⟩ := x_begin B hml hv
  replace F : x_F p s m _ meth c cX4_closeGap 3 RX4 none := F
  have hx := F.1
  have hb := F.2.1
  have hml := F.2.2.1
  have hown := F.2.2.2.1
  have hts := F.2.2.2.2.1
  refine x_entry (vs := [.ref (X.2.2 j 3), .ref (X.2.2 j kv), .int a1]) (n := 3) (Nat.le_of_ble_eq_true rfl) (fun ls hl => ?_)
  replace hl : lv_has ls 3 [(0, .ref (X.2.2 j 3)), (1, .ref (X.2.2 j kv)), (2, .int a1)] := hl
  unfold fX4_closeGap at h
  refine lv_aload_n hx hb dX4_closeGap_0 rfl (lv_at hl 1 rfl) ?_
  refine lv_iload_n hx hb dX4_closeGap_1 rfl (lv_at hl 2 rfl) ?_
  refine lv_iconst (v := 1) hx hb dX4_closeGap_2 (by decide) ?_
  refine lv_iadd hx hb dX4_closeGap_3 ?_
  refine lv_aload_n hx hb dX4_closeGap_4 rfl (lv_at hl 1 rfl) ?_
  refine lv_iload_n hx hb dX4_closeGap_5 rfl (lv_at hl 2 rfl) ?_
  refine lv_aload_n hx hb dX4_closeGap_6 rfl (lv_at hl 0 rfl) ?_
  refine xg_4_6 F hI (x_inH hj (by decide)) u_fl_X4_34 dX4_closeGap_7 ?_
  refine lv_iload_n hx hb dX4_closeGap_10 rfl (lv_at hl 2 rfl) ?_
  refine lv_isub hx hb dX4_closeGap_11 ?_
  refine lv_iconst (v := 1) hx hb dX4_closeGap_12 (by decide) ?_
  refine lv_isub hx hb dX4_closeGap_13 ?_
  obtain ⟨g1, h⟩ := x_chk h
  refine xh_acopy F hI hkm hkm hkc hkc g1 u_ml_X4_46 u_na_java_lang_Systemarraycopy u_st_java_lang_Systemarraycopy u_ini_java_lang_System hl.1 (by decide) (Nat.le_of_ble_eq_true rfl) dX4_closeGap_14 (fun H locs u2 e3 hI => ?_)
  have h := x_let_at h e3
  rw [x_some h]
  exact x_vret F hI dX4_closeGap_17
abbrev rm_X4_remove : Room := { frames := 2, cells := 0, slots := 0, locals := 48 }
def fX4_remove (u : x_H) (a1 : Int32) : Option x_H := (Option.bind (fX4_hasPlace u a1) fun r1 => (if r1 = 0 then some (u) else (Option.bind (fX4_closeGap u 19 a1) fun r4 => (Option.bind (fX4_closeGap r4 20 a1) fun r6 => (Option.bind (fX4_closeGap r6 21 a1) fun r8 => (Option.bind (fX4_closeGap r8 22 a1) fun r10 => (Option.bind (fX4_closeGap r10 23 a1) fun r12 => (Option.bind (fX4_closeGap r12 24 a1) fun r14 => x_let (x_hu r14 3 0 ((r14 3 0) - (1 : Int32))) fun u16 => some (u16)))))))))
set_option maxHeartbeats 4000000 in
set_option maxRecDepth 100000 in
theorem mX4_remove (l : Launch) (X : x_T) (σ : x_S) (j : Nat) (hj : j < 10) (sz : Nat) (u : x_H) (a1 : Int32) (r : x_H) (h : fX4_remove u a1 = some r) : Met l yX4_remove (x_ws yX4_remove cX4_remove 2 none) rm_X4_remove (x_Pc X (x_sh σ j u) sz [.ref (X.2.2 j 3), .int a1]) (x_Qv X (x_sh σ j r) sz) 0 0 (x_A X sz) := by
  refine Met.ofW (cc := cX4_remove) (maxL := 2) (ret := none) (by decide) rfl ?_
  intro p e s m args below meth c s₁ B hml hv
  obtain ⟨F, hI, rfl, rfl⟩ := x_begin B hml hv
  replace F : x_F p s m _ meth c cX4_remove 2 RX4 none := F
  have hx := F.1
  have hb := F.2.1
  have hml := F.2.2.1
  have hown := F.2.2.2.1
  have hts := F.2.2.2.2.1
  refine x_entry (vs := [.ref (X.2.2 j 3), .int a1]) (n := 2) (Nat.le_of_ble_eq_true rfl) (fun ls hl => ?_)
  replace hl : lv_has ls 2 [(0, .ref (X.2.2 j 3)), (1, .int a1)] := hl
  unfold fX4_remove at h
  refine lv_aload_n hx hb dX4_remove_0 rfl (lv_at hl 0 rfl) ?_
  refine lv_iload_n hx hb dX4_remove_1 rfl (lv_at hl 1 rfl) ?_
  obtain ⟨r1, h2, h⟩ := x_bnd h
  refine x_aci hI (x_runV (rest := []) F hI (mX4_hasPlace l X σ j hj _ u a1 r1 h2) g_X4_38 ⟨rfl, hd_X4_hasPlace⟩ ⟨by decide, by decide⟩ ⟨rfl, rfl⟩ (x_inH hj (by decide)) rfl rfl rfl rfl hl.1 rfl (Nat.le_of_ble_eq_true rfl) dX4_remove_2 ⟨Nat.zero_le _, Nat.zero_le _⟩) (fun H locs hI => ?_)
  refine lv_if_ne (tgt := 9) hx hb dX4_remove_5 (by decide) (fun c3 => ?_) (fun c3 => ?_)
  · have h := x_iff h c3
    refine lv_aload_n hx hb dX4_remove_9 rfl (lv_at hl 0 rfl) ?_
    refine lv_aload_n hx hb dX4_remove_10 rfl (lv_at hl 0 rfl) ?_
    refine xg_4_0 F hI (x_inH hj (by decide)) u_fl_X4_9 dX4_remove_11 ?_
    refine lv_iload_n hx hb dX4_remove_14 rfl (lv_at hl 1 rfl) ?_
    obtain ⟨r4, h5, h⟩ := x_bnd h
    refine x_acv hI (x_runV (rest := []) F hI (mX4_closeGap l X σ j hj 19 (x_inH hj (by decide)) (fun _ => rfl) _ u a1 r4 h5) g_X4_42 ⟨rfl, hd_X4_closeGap⟩ ⟨by decide, by decide⟩ ⟨rfl, rfl⟩ (x_inH hj (by decide)) rfl rfl rfl rfl hl.1 rfl (Nat.le_of_ble_eq_true rfl) dX4_remove_15 ⟨Nat.zero_le _, Nat.zero_le _⟩) (fun H locs hI => ?_)
    refine lv_aload_n hx hb dX4_remove_18 rfl (lv_at hl 0 rfl) ?_
    refine lv_aload_n hx hb dX4_remove_19 rfl (lv_at hl 0 rfl) ?_
    refine xg_4_1 F hI (x_inH hj (by decide)) u_fl_X4_15 dX4_remove_20 ?_
    refine lv_iload_n hx hb dX4_remove_23 rfl (lv_at hl 1 rfl) ?_
    obtain ⟨r6, h7, h⟩ := x_bnd h
    refine x_acv hI (x_runV (rest := []) F hI (mX4_closeGap l X σ j hj 20 (x_inH hj (by decide)) (fun _ => rfl) _ r4 a1 r6 h7) g_X4_42 ⟨rfl, hd_X4_closeGap⟩ ⟨by decide, by decide⟩ ⟨rfl, rfl⟩ (x_inH hj (by decide)) rfl rfl rfl rfl hl.1 rfl (Nat.le_of_ble_eq_true rfl) dX4_remove_24 ⟨Nat.zero_le _, Nat.zero_le _⟩) (fun H locs hI => ?_)
    refine lv_aload_n hx hb dX4_remove_27 rfl (lv_at hl 0 rfl) ?_
    refine lv_aload_n hx hb dX4_remove_28 rfl (lv_at hl 0 rfl) ?_
    refine xg_4_2 F hI (x_inH hj (by decide)) u_fl_X4_18 dX4_remove_29 ?_
    refine lv_iload_n hx hb dX4_remove_32 rfl (lv_at hl 1 rfl) ?_
    obtain ⟨r8, h9, h⟩ := x_bnd h
    refine x_acv hI (x_runV (rest := []) F hI (mX4_closeGap l X σ j hj 21 (x_inH hj (by decide)) (fun _ => rfl) _ r6 a1 r8 h9) g_X4_42 ⟨rfl, hd_X4_closeGap⟩ ⟨by decide, by decide⟩ ⟨rfl, rfl⟩ (x_inH hj (by decide)) rfl rfl rfl rfl hl.1 rfl (Nat.le_of_ble_eq_true rfl) dX4_remove_33 ⟨Nat.zero_le _, Nat.zero_le _⟩) (fun H locs hI => ?_)
    refine lv_aload_n hx hb dX4_remove_36 rfl (lv_at hl 0 rfl) ?_
    refine lv_aload_n hx hb dX4_remove_37 rfl (lv_at hl 0 rfl) ?_
    refine xg_4_3 F hI (x_inH hj (by decide)) u_fl_X4_21 dX4_remove_38 ?_
    refine lv_iload_n hx hb dX4_remove_41 rfl (lv_at hl 1 rfl) ?_
    obtain ⟨r10, h11, h⟩ := x_bnd h
    refine x_acv hI (x_runV (rest := []) F hI (mX4_closeGap l X σ j hj 22 (x_inH hj (by decide)) (fun _ => rfl) _ r8 a1 r10 h11) g_X4_42 ⟨rfl, hd_X4_closeGap⟩ ⟨by decide, by decide⟩ ⟨rfl, rfl⟩ (x_inH hj (by decide)) rfl rfl rfl rfl hl.1 rfl (Nat.le_of_ble_eq_true rfl) dX4_remove_42 ⟨Nat.zero_le _, Nat.zero_le _⟩) (fun H locs hI => ?_)
    refine lv_aload_n hx hb dX4_remove_45 rfl (lv_at hl 0 rfl) ?_
    refine lv_aload_n hx hb dX4_remove_46 rfl (lv_at hl 0 rfl) ?_
    refine xg_4_4 F hI (x_inH hj (by decide)) u_fl_X4_24 dX4_remove_47 ?_
    refine lv_iload_n hx hb dX4_remove_50 rfl (lv_at hl 1 rfl) ?_
    obtain ⟨r12, h13, h⟩ := x_bnd h
    refine x_acv hI (x_runV (rest := []) F hI (mX4_closeGap l X σ j hj 23 (x_inH hj (by decide)) (fun _ => rfl) _ r10 a1 r12 h13) g_X4_42 ⟨rfl, hd_X4_closeGap⟩ ⟨by decide, by decide⟩ ⟨rfl, rfl⟩ (x_inH hj (by decide)) rfl rfl rfl rfl hl.1 rfl (Nat.le_of_ble_eq_true rfl) dX4_remove_51 ⟨Nat.zero_le _, Nat.zero_le _⟩) (fun H locs hI => ?_)
    refine lv_aload_n hx hb dX4_remove_54 rfl (lv_at hl 0 rfl) ?_
    refine lv_aload_n hx hb dX4_remove_55 rfl (lv_at hl 0 rfl) ?_
    refine xg_4_5 F hI (x_inH hj (by decide)) u_fl_X4_27 dX4_remove_56 ?_
    refine lv_iload_n hx hb dX4_remove_59 rfl (lv_at hl 1 rfl) ?_
    obtain ⟨r14, h15, h⟩ := x_bnd h
    refine x_acv hI (x_runV (rest := []) F hI (mX4_closeGap l X σ j hj 24 (x_inH hj (by decide)) (fun _ => rfl) _ r12 a1 r14 h15) g_X4_42 ⟨rfl, hd_X4_closeGap⟩ ⟨by decide, by decide⟩ ⟨rfl, rfl⟩ (x_inH hj (by decide)) rfl rfl rfl rfl hl.1 rfl (Nat.le_of_ble_eq_true rfl) dX4_remove_60 ⟨Nat.zero_le _, Nat.zero_le _⟩) (fun H locs hI => ?_)
    refine lv_aload_n hx hb dX4_remove_63 rfl (lv_at hl 0 rfl) ?_
    refine lv_dup hx hb dX4_remove_64 rfl ?_
    refine xg_4_6 F hI (x_inH hj (by decide)) u_fl_X4_34 dX4_remove_65 ?_
    refine lv_iconst (v := 1) hx hb dX4_remove_68 (by decide) ?_
    refine lv_isub hx hb dX4_remove_69 ?_
    refine xp_4_6 F hI (x_inH hj (by decide)) u_fl_X4_34 dX4_remove_70 (fun H locs u16 e17 hI => ?_)
    have h := x_let_at h e17
    rw [x_some h]
    exact x_vret F hI dX4_remove_73
  · have h := x_ift h c3
    rw [x_some h]
    exact x_vret F hI dX4_remove_8
abbrev rm_X4_copyFrom : Room := { frames := 2, cells := 0, slots := 0, locals := 47 }
def fX4_copyFrom (u : x_H) (w : x_H) : Option x_H := x_let (x_hs u 19 (w 19)) fun u1 => x_let (x_hs u1 20 (w 20)) fun u3 => x_let (x_hs u3 21 (w 21)) fun u5 => x_let (x_hs u5 22 (w 22)) fun u7 => x_let (x_hs u7 23 (w 23)) fun u9 => x_let (x_hs u9 24 (w 24)) fun u11 => x_let (x_hu u11 3 0 (w 3 0)) fun u13 => some (u13)
set_option maxHeartbeats 4000000 in
set_option maxRecDepth 100000 in
theorem mX4_copyFrom (l : Launch) (X : x_T) (σ : x_S) (i j : Nat) (hi : i < 10) (hj : j < 10) (hne : i ≠ j) {w : x_H} (hw : σ i = w) (sz : Nat) (u : x_H) (r : x_H) (h : fX4_copyFrom u w  = some r) : Met l yX4_copyFrom (x_ws yX4_copyFrom cX4_copyFrom 2 none) rm_X4_copyFrom (x_Pc X (x_sh σ j u) sz [.ref (X.2.2 j 3), .ref (X.2.2 i 3)]) (x_Qv X (x_sh σ j r) sz) 0 0 (x_A X sz) := by
  refine Met.ofW (cc := cX4_copyFrom) (maxL := 2) (ret := none) (by decide) rfl ?_
  intro p e s m args below meth c s₁ B hml hv
  obtain ⟨F, hI, rfl, rfl⟩ := x_begin B hml hv
  replace F : x_F p s m _ meth c cX4_copyFrom 2 RX4 none := F
  have hx := F.1
  have hb := F.2.1
  have hml := F.2.2.1
  have hown := F.2.2.2.1
  have hts := F.2.2.2.2.1
  refine x_entry (vs := [.ref (X.2.2 j 3), .ref (X.2.2 i 3)]) (n := 2) (Nat.le_of_ble_eq_true rfl) (fun ls hl => ?_)
  replace hl : lv_has ls 2 [(0, .ref (X.2.2 j 3)), (1, .ref (X.2.2 i 3))] := hl
  unfold fX4_copyFrom at h
  refine lv_aload_n hx hb dX4_copyFrom_0 rfl (lv_at hl 1 rfl) ?_
  refine xo_4_0 F hI (x_inH hi (by decide)) hne hw u_fl_X4_9 dX4_copyFrom_1 ?_
  refine lv_aload_n hx hb dX4_copyFrom_4 rfl (lv_at hl 0 rfl) ?_
  refine xg_4_0 F hI (x_inH hj (by decide)) u_fl_X4_9 dX4_copyFrom_5 ?_
  refine x_acv hI (x_runN (rest := []) F hI (mX6_copyNumbers l X _ _ (n := 60) (x_inH hi (by decide)) (x_inH hj (by decide)) (fun _ => rfl) (fun _ => rfl) (by decide)) u_mln_X4_30 u_co_X6_copyNumbers u_ini_X6 u_st_X6_copyNumbers hd_X6_copyNumbers ⟨by decide, by decide⟩ ⟨rfl, rfl⟩ rfl hl.1 rfl (Nat.le_of_ble_eq_true rfl) dX4_copyFrom_8 ⟨Nat.zero_le _, Nat.zero_le _⟩) (fun H locs hI => ?_)
  rw [x_sh_eq, x_sh_sh, x_sh_ne _ _ hne, hw] at hI
  obtain ⟨u1, e2⟩ : ∃ z : x_H, z = (x_hs u 19 (w 19)) := ⟨_, rfl⟩
  rw [← e2] at hI
  have h := x_let_at h e2
  refine lv_aload_n hx hb dX4_copyFrom_11 rfl (lv_at hl 1 rfl) ?_
  refine xo_4_1 F hI (x_inH hi (by decide)) hne hw u_fl_X4_15 dX4_copyFrom_12 ?_
  refine lv_aload_n hx hb dX4_copyFrom_15 rfl (lv_at hl 0 rfl) ?_
  refine xg_4_1 F hI (x_inH hj (by decide)) u_fl_X4_15 dX4_copyFrom_16 ?_
  refine x_acv hI (x_runN (rest := []) F hI (mX6_copyNumbers l X _ _ (n := 60) (x_inH hi (by decide)) (x_inH hj (by decide)) (fun _ => rfl) (fun _ => rfl) (by decide)) u_mln_X4_30 u_co_X6_copyNumbers u_ini_X6 u_st_X6_copyNumbers hd_X6_copyNumbers ⟨by decide, by decide⟩ ⟨rfl, rfl⟩ rfl hl.1 rfl (Nat.le_of_ble_eq_true rfl) dX4_copyFrom_19 ⟨Nat.zero_le _, Nat.zero_le _⟩) (fun H locs hI => ?_)
  rw [x_sh_eq, x_sh_sh, x_sh_ne _ _ hne, hw] at hI
  obtain ⟨u3, e4⟩ : ∃ z : x_H, z = (x_hs u1 20 (w 20)) := ⟨_, rfl⟩
  rw [← e4] at hI
  have h := x_let_at h e4
  refine lv_aload_n hx hb dX4_copyFrom_22 rfl (lv_at hl 1 rfl) ?_
  refine xo_4_2 F hI (x_inH hi (by decide)) hne hw u_fl_X4_18 dX4_copyFrom_23 ?_
  refine lv_aload_n hx hb dX4_copyFrom_26 rfl (lv_at hl 0 rfl) ?_
  refine xg_4_2 F hI (x_inH hj (by decide)) u_fl_X4_18 dX4_copyFrom_27 ?_
  refine x_acv hI (x_runN (rest := []) F hI (mX6_copyNumbers l X _ _ (n := 60) (x_inH hi (by decide)) (x_inH hj (by decide)) (fun _ => rfl) (fun _ => rfl) (by decide)) u_mln_X4_30 u_co_X6_copyNumbers u_ini_X6 u_st_X6_copyNumbers hd_X6_copyNumbers ⟨by decide, by decide⟩ ⟨rfl, rfl⟩ rfl hl.1 rfl (Nat.le_of_ble_eq_true rfl) dX4_copyFrom_30 ⟨Nat.zero_le _, Nat.zero_le _⟩) (fun H locs hI => ?_)
  rw [x_sh_eq, x_sh_sh, x_sh_ne _ _ hne, hw] at hI
  obtain ⟨u5, e6⟩ : ∃ z : x_H, z = (x_hs u3 21 (w 21)) := ⟨_, rfl⟩
  rw [← e6] at hI
  have h := x_let_at h e6
  refine lv_aload_n hx hb dX4_copyFrom_33 rfl (lv_at hl 1 rfl) ?_
  refine xo_4_3 F hI (x_inH hi (by decide)) hne hw u_fl_X4_21 dX4_copyFrom_34 ?_
  refine lv_aload_n hx hb dX4_copyFrom_37 rfl (lv_at hl 0 rfl) ?_
  refine xg_4_3 F hI (x_inH hj (by decide)) u_fl_X4_21 dX4_copyFrom_38 ?_
  refine x_acv hI (x_runN (rest := []) F hI (mX6_copyNumbers l X _ _ (n := 60) (x_inH hi (by decide)) (x_inH hj (by decide)) (fun _ => rfl) (fun _ => rfl) (by decide)) u_mln_X4_30 u_co_X6_copyNumbers u_ini_X6 u_st_X6_copyNumbers hd_X6_copyNumbers ⟨by decide, by decide⟩ ⟨rfl, rfl⟩ rfl hl.1 rfl (Nat.le_of_ble_eq_true rfl) dX4_copyFrom_41 ⟨Nat.zero_le _, Nat.zero_le _⟩) (fun H locs hI => ?_)
  rw [x_sh_eq, x_sh_sh, x_sh_ne _ _ hne, hw] at hI
  obtain ⟨u7, e8⟩ : ∃ z : x_H, z = (x_hs u5 22 (w 22)) := ⟨_, rfl⟩
  rw [← e8] at hI
  have h := x_let_at h e8
  refine lv_aload_n hx hb dX4_copyFrom_44 rfl (lv_at hl 1 rfl) ?_
  refine xo_4_4 F hI (x_inH hi (by decide)) hne hw u_fl_X4_24 dX4_copyFrom_45 ?_
  refine lv_aload_n hx hb dX4_copyFrom_48 rfl (lv_at hl 0 rfl) ?_
  refine xg_4_4 F hI (x_inH hj (by decide)) u_fl_X4_24 dX4_copyFrom_49 ?_
  refine x_acv hI (x_runN (rest := []) F hI (mX6_copyNumbers l X _ _ (n := 60) (x_inH hi (by decide)) (x_inH hj (by decide)) (fun _ => rfl) (fun _ => rfl) (by decide)) u_mln_X4_30 u_co_X6_copyNumbers u_ini_X6 u_st_X6_copyNumbers hd_X6_copyNumbers ⟨by decide, by decide⟩ ⟨rfl, rfl⟩ rfl hl.1 rfl (Nat.le_of_ble_eq_true rfl) dX4_copyFrom_52 ⟨Nat.zero_le _, Nat.zero_le _⟩) (fun H locs hI => ?_)
  rw [x_sh_eq, x_sh_sh, x_sh_ne _ _ hne, hw] at hI
  obtain ⟨u9, e10⟩ : ∃ z : x_H, z = (x_hs u7 23 (w 23)) := ⟨_, rfl⟩
  rw [← e10] at hI
  have h := x_let_at h e10
  refine lv_aload_n hx hb dX4_copyFrom_55 rfl (lv_at hl 1 rfl) ?_
  refine xo_4_5 F hI (x_inH hi (by decide)) hne hw u_fl_X4_27 dX4_copyFrom_56 ?_
  refine lv_aload_n hx hb dX4_copyFrom_59 rfl (lv_at hl 0 rfl) ?_
  refine xg_4_5 F hI (x_inH hj (by decide)) u_fl_X4_27 dX4_copyFrom_60 ?_
  refine x_acv hI (x_runN (rest := []) F hI (mX6_copyNumbers l X _ _ (n := 60) (x_inH hi (by decide)) (x_inH hj (by decide)) (fun _ => rfl) (fun _ => rfl) (by decide)) u_mln_X4_30 u_co_X6_copyNumbers u_ini_X6 u_st_X6_copyNumbers hd_X6_copyNumbers ⟨by decide, by decide⟩ ⟨rfl, rfl⟩ rfl hl.1 rfl (Nat.le_of_ble_eq_true rfl) dX4_copyFrom_63 ⟨Nat.zero_le _, Nat.zero_le _⟩) (fun H locs hI => ?_)
  rw [x_sh_eq, x_sh_sh, x_sh_ne _ _ hne, hw] at hI
  obtain ⟨u11, e12⟩ : ∃ z : x_H, z = (x_hs u9 24 (w 24)) := ⟨_, rfl⟩
  rw [← e12] at hI
  have h := x_let_at h e12
  refine lv_aload_n hx hb dX4_copyFrom_66 rfl (lv_at hl 0 rfl) ?_
  refine lv_aload_n hx hb dX4_copyFrom_67 rfl (lv_at hl 1 rfl) ?_
  refine xo_4_6 F hI (x_inH hi (by decide)) hne hw u_fl_X4_34 dX4_copyFrom_68 ?_
  refine xp_4_6 F hI (x_inH hj (by decide)) u_fl_X4_34 dX4_copyFrom_71 (fun H locs u13 e14 hI => ?_)
  have h := x_let_at h e14
  rw [x_some h]
  exact x_vret F hI dX4_copyFrom_74
abbrev rm_X2_send : Room := { frames := 0, cells := 0, slots := 0, locals := 0 }
def fX2_send_j36 (u : x_H) (y1 : Int32) (y2 : Int32) (y3 : Int32) (y4 : Int32) (y5 : Int32) (y6 : Int32) : Option (Int32 × x_H) := x_let (u 3 0) fun x10 => (if x10 < 0 then x_let (x_hu u 0 2 ((u 0 2) + (1 : Int32))) fun u13 => some (y6, u13) else (if x10 < (60 : Int32) then (if x_in x10 60 then x_let (x_hu u 19 (Int32.toNatClampNeg x10) y1) fun u16 => x_let (x_hu u16 20 (Int32.toNatClampNeg x10) y2) fun u19 => x_let (x_hu u19 21 (Int32.toNatClampNeg x10) y3) fun u21 => x_let (x_hu u21 22 (Int32.toNatClampNeg x10) y6) fun u23 => x_let (x_hu u23 23 (Int32.toNatClampNeg x10) y4) fun u25 => x_let (x_hu u25 24 (Int32.toNatClampNeg x10) y5) fun u27 => x_let (x_hu u27 3 0 ((u27 3 0) + (1 : Int32))) fun u29 => some (y6, u29) else none) else x_let (x_hu u 0 2 ((u 0 2) + (1 : Int32))) fun u31 => some (y6, u31)))
set_option maxHeartbeats 4000000 in
set_option maxRecDepth 100000 in
theorem wX2_send_j36 {p : Program} {l : Launch} {e : Env} {s : State} {m : MethodId} {args : Array Value} {below : List Frame} {meth : Method} {c : Code} {X : x_T} {σ : x_S} {r : (Int32 × x_H)} {j : Nat} (hj : j < 10) (F : x_F p s m args meth c cX2_send 8 RX2 (some .int)) (u : x_H) (y1 : Int32) (y2 : Int32) (y3 : Int32) (y4 : Int32) (y5 : Int32) (y6 : Int32) (H : Heap) (locs : List Loc) (ls : Array Slot) (h : fX2_send_j36 u y1 y2 y3 y4 y5 y6 = some r) (hI : x_I X (x_sh σ j u) s H locs) (hl : lv_has ls 8 [(0, .ref (X.2.2 j 0)), (1, .int y1), (2, .int y2), (3, .int y3), (4, .int y4), (5, .int y5), (6, .int y6)]) : W p l e rm_X2_send s m args below meth c H locs 0 0 (MQ below (x_Qi X r.1 (x_sh σ j r.2) s.heap.size) args s 0 0 (x_A X s.heap.size)) (F0 m 36 ls []) := by
  have hx := F.1
  have hb := F.2.1
  have hml := F.2.2.1
  have hown := F.2.2.2.1
  have hts := F.2.2.2.2.1
  unfold fX2_send_j36 at h
  refine lv_aload_n hx hb dX2_send_36 rfl (lv_at hl 0 rfl) ?_
  refine xg_2_2 F hI (x_inH hj (by decide)) u_fl_X2_28 dX2_send_37 ?_
  refine xg_4_6 F hI (x_inH hj (by decide)) u_fl_X2_72 dX2_send_40 ?_
  refine lv_topi (fun x10 e11 => ?_)
  have h := x_let_at h e11
  refine lv_istore (lv' := [(7, .int x10), (0, .ref (X.2.2 j 0)), (1, .int y1), (2, .int y2), (3, .int y3), (4, .int y4), (5, .int y5), (6, .int y6)]) hx hb dX2_send_43 hl (by decide) rfl (fun ls hl => ?_)
  refine lv_iload hx hb dX2_send_45 (lv_at hl 0 rfl) ?_
  refine lv_if_lt (tgt := 57) hx hb dX2_send_47 (by decide) (fun c12 => ?_) (fun c12 => ?_)
  · have h := x_ift h c12
    refine lv_aload_n hx hb dX2_send_57 rfl (lv_at hl 1 rfl) ?_
    refine lv_dup hx hb dX2_send_58 rfl ?_
    refine xg_2_6 F hI (x_inH hj (by decide)) u_fl_X2_57 dX2_send_59 ?_
    refine lv_iconst (v := 1) hx hb dX2_send_62 (by decide) ?_
    refine lv_iadd hx hb dX2_send_63 ?_
    refine xp_2_6 F hI (x_inH hj (by decide)) u_fl_X2_57 dX2_send_64 (fun H locs u13 e14 hI => ?_)
    have h := x_let_at h e14
    refine lv_iload hx hb dX2_send_67 (lv_at hl 7 rfl) ?_
    rw [x_some h]
    exact x_iret F hI dX2_send_69
  · have h := x_iff h c12
    refine lv_iload hx hb dX2_send_50 (lv_at hl 0 rfl) ?_
    refine lv_bipush (v := 60) hx hb dX2_send_52 (by decide) ?_
    refine lv_icmp_lt (tgt := 70) hx hb dX2_send_54 (by decide) (fun c15 => ?_) (fun c15 => ?_)
    · have h := x_ift h c15
      refine lv_aload_n hx hb dX2_send_70 rfl (lv_at hl 1 rfl) ?_
      refine xg_2_2 F hI (x_inH hj (by decide)) u_fl_X2_28 dX2_send_71 ?_
      refine xg_4_0 F hI (x_inH hj (by decide)) u_fl_X2_75 dX2_send_74 ?_
      refine lv_iload hx hb dX2_send_77 (lv_at hl 0 rfl) ?_
      refine lv_iload_n hx hb dX2_send_79 rfl (lv_at hl 2 rfl) ?_
      obtain ⟨g18, h⟩ := x_chk h
      refine xh_iast (n := 60) F hI (x_inH hj (by decide)) (fun _ => rfl) g18 dX2_send_80 (fun H locs u16 e17 hI => ?_)
      have h := x_let_at h e17
      refine lv_aload_n hx hb dX2_send_81 rfl (lv_at hl 1 rfl) ?_
      refine xg_2_2 F hI (x_inH hj (by decide)) u_fl_X2_28 dX2_send_82 ?_
      refine xg_4_1 F hI (x_inH hj (by decide)) u_fl_X2_78 dX2_send_85 ?_
      refine lv_iload hx hb dX2_send_88 (lv_at hl 0 rfl) ?_
      refine lv_iload_n hx hb dX2_send_90 rfl (lv_at hl 3 rfl) ?_
      refine xh_iast (n := 60) F hI (x_inH hj (by decide)) (fun _ => rfl) g18 dX2_send_91 (fun H locs u19 e20 hI => ?_)
      have h := x_let_at h e20
      refine lv_aload_n hx hb dX2_send_92 rfl (lv_at hl 1 rfl) ?_
      refine xg_2_2 F hI (x_inH hj (by decide)) u_fl_X2_28 dX2_send_93 ?_
      refine xg_4_2 F hI (x_inH hj (by decide)) u_fl_X2_81 dX2_send_96 ?_
      refine lv_iload hx hb dX2_send_99 (lv_at hl 0 rfl) ?_
      refine lv_iload_n hx hb dX2_send_101 rfl (lv_at hl 4 rfl) ?_
      refine xh_iast (n := 60) F hI (x_inH hj (by decide)) (fun _ => rfl) g18 dX2_send_102 (fun H locs u21 e22 hI => ?_)
      have h := x_let_at h e22
      refine lv_aload_n hx hb dX2_send_103 rfl (lv_at hl 1 rfl) ?_
      refine xg_2_2 F hI (x_inH hj (by decide)) u_fl_X2_28 dX2_send_104 ?_
      refine xg_4_3 F hI (x_inH hj (by decide)) u_fl_X2_84 dX2_send_107 ?_
      refine lv_iload hx hb dX2_send_110 (lv_at hl 0 rfl) ?_
      refine lv_iload hx hb dX2_send_112 (lv_at hl 7 rfl) ?_
      refine xh_iast (n := 60) F hI (x_inH hj (by decide)) (fun _ => rfl) g18 dX2_send_114 (fun H locs u23 e24 hI => ?_)
      have h := x_let_at h e24
      refine lv_aload_n hx hb dX2_send_115 rfl (lv_at hl 1 rfl) ?_
      refine xg_2_2 F hI (x_inH hj (by decide)) u_fl_X2_28 dX2_send_116 ?_
      refine xg_4_4 F hI (x_inH hj (by decide)) u_fl_X2_87 dX2_send_119 ?_
      refine lv_iload hx hb dX2_send_122 (lv_at hl 0 rfl) ?_
      refine lv_iload hx hb dX2_send_124 (lv_at hl 5 rfl) ?_
      refine xh_iast (n := 60) F hI (x_inH hj (by decide)) (fun _ => rfl) g18 dX2_send_126 (fun H locs u25 e26 hI => ?_)
      have h := x_let_at h e26
      refine lv_aload_n hx hb dX2_send_127 rfl (lv_at hl 1 rfl) ?_
      refine xg_2_2 F hI (x_inH hj (by decide)) u_fl_X2_28 dX2_send_128 ?_
      refine xg_4_5 F hI (x_inH hj (by decide)) u_fl_X2_90 dX2_send_131 ?_
      refine lv_iload hx hb dX2_send_134 (lv_at hl 0 rfl) ?_
      refine lv_iload hx hb dX2_send_136 (lv_at hl 6 rfl) ?_
      refine xh_iast (n := 60) F hI (x_inH hj (by decide)) (fun _ => rfl) g18 dX2_send_138 (fun H locs u27 e28 hI => ?_)
      have h := x_let_at h e28
      refine lv_aload_n hx hb dX2_send_139 rfl (lv_at hl 1 rfl) ?_
      refine xg_2_2 F hI (x_inH hj (by decide)) u_fl_X2_28 dX2_send_140 ?_
      refine lv_dup hx hb dX2_send_143 rfl ?_
      refine xg_4_6 F hI (x_inH hj (by decide)) u_fl_X2_72 dX2_send_144 ?_
      refine lv_iconst (v := 1) hx hb dX2_send_147 (by decide) ?_
      refine lv_iadd hx hb dX2_send_148 ?_
      refine xp_4_6 F hI (x_inH hj (by decide)) u_fl_X2_72 dX2_send_149 (fun H locs u29 e30 hI => ?_)
      have h := x_let_at h e30
      refine lv_iload hx hb dX2_send_152 (lv_at hl 7 rfl) ?_
      rw [x_some h]
      exact x_iret F hI dX2_send_154
    · have h := x_iff h c15
      refine lv_aload_n hx hb dX2_send_57 rfl (lv_at hl 1 rfl) ?_
      refine lv_dup hx hb dX2_send_58 rfl ?_
      refine xg_2_6 F hI (x_inH hj (by decide)) u_fl_X2_57 dX2_send_59 ?_
      refine lv_iconst (v := 1) hx hb dX2_send_62 (by decide) ?_
      refine lv_iadd hx hb dX2_send_63 ?_
      refine xp_2_6 F hI (x_inH hj (by decide)) u_fl_X2_57 dX2_send_64 (fun H locs u31 e32 hI => ?_)
      have h := x_let_at h e32
      refine lv_iload hx hb dX2_send_67 (lv_at hl 7 rfl) ?_
      rw [x_some h]
      exact x_iret F hI dX2_send_69
def fX2_send (u : x_H) (a1 : Int32) (a2 : Int32) (a3 : Int32) (a4 : Int32) (a5 : Int32) : Option (Int32 × x_H) := x_let (u 0 1) fun x1 => x_let (x_hu u 0 1 ((u 0 1) + (1 : Int32))) fun u3 => (if a1 < 0 then fX2_send_j36 u3 a1 a2 a3 a4 a5 x1 else (if (7 : Int32) ≤ a1 then fX2_send_j36 u3 a1 a2 a3 a4 a5 x1 else (if x_in a1 7 then x_let (x_hu u3 4 (Int32.toNatClampNeg a1) ((u3 4 (Int32.toNatClampNeg a1)) + (1 : Int32))) fun u8 => fX2_send_j36 u8 a1 a2 a3 a4 a5 x1 else none)))
set_option maxHeartbeats 4000000 in
set_option maxRecDepth 100000 in
theorem mX2_send (l : Launch) (X : x_T) (σ : x_S) (j : Nat) (hj : j < 10) (sz : Nat) (u : x_H) (a1 : Int32) (a2 : Int32) (a3 : Int32) (a4 : Int32) (a5 : Int32) (r : (Int32 × x_H)) (h : fX2_send u a1 a2 a3 a4 a5 = some r) : Met l yX2_send (x_ws yX2_send cX2_send 8 (some .int)) rm_X2_send (x_Pc X (x_sh σ j u) sz [.ref (X.2.2 j 0), .int a1, .int a2, .int a3, .int a4, .int a5]) (x_Qi X r.1 (x_sh σ j r.2) sz) 0 0 (x_A X sz) := by
  refine Met.ofW (cc := cX2_send) (maxL := 8) (ret := (some .int)) (by decide) rfl ?_
  intro p e s m args below meth c s₁ B hml hv
  obtain ⟨F, hI, rfl, rfl⟩ := x_begin B hml hv
  replace F : x_F p s m _ meth c cX2_send 8 RX2 (some .int) := F
  have hx := F.1
  have hb := F.2.1
  have hml := F.2.2.1
  have hown := F.2.2.2.1
  have hts := F.2.2.2.2.1
  refine x_entry (vs := [.ref (X.2.2 j 0), .int a1, .int a2, .int a3, .int a4, .int a5]) (n := 8) (Nat.le_of_ble_eq_true rfl) (fun ls hl => ?_)
  replace hl : lv_has ls 8 [(0, .ref (X.2.2 j 0)), (1, .int a1), (2, .int a2), (3, .int a3), (4, .int a4), (5, .int a5)] := hl
  unfold fX2_send at h
  refine lv_aload_n hx hb dX2_send_0 rfl (lv_at hl 0 rfl) ?_
  refine xg_2_5 F hI (x_inH hj (by decide)) u_fl_X2_54 dX2_send_1 ?_
  refine lv_topi (fun x1 e2 => ?_)
  have h := x_let_at h e2
  refine lv_istore (lv' := [(6, .int x1), (0, .ref (X.2.2 j 0)), (1, .int a1), (2, .int a2), (3, .int a3), (4, .int a4), (5, .int a5)]) hx hb dX2_send_4 hl (by decide) rfl (fun ls hl => ?_)
  refine lv_aload_n hx hb dX2_send_6 rfl (lv_at hl 1 rfl) ?_
  refine lv_dup hx hb dX2_send_7 rfl ?_
  refine xg_2_5 F hI (x_inH hj (by decide)) u_fl_X2_54 dX2_send_8 ?_
  refine lv_iconst (v := 1) hx hb dX2_send_11 (by decide) ?_
  refine lv_iadd hx hb dX2_send_12 ?_
  refine xp_2_5 F hI (x_inH hj (by decide)) u_fl_X2_54 dX2_send_13 (fun H locs u3 e4 hI => ?_)
  have h := x_let_at h e4
  refine lv_iload_n hx hb dX2_send_16 rfl (lv_at hl 2 rfl) ?_
  refine lv_if_lt (tgt := 36) hx hb dX2_send_17 (by decide) (fun c5 => ?_) (fun c5 => ?_)
  · have h := x_ift h c5
    exact wX2_send_j36 hj F u3 a1 a2 a3 a4 a5 x1 _ _ _ h hI (lv_sub hl [1, 2, 3, 4, 5, 6, 0] rfl)
  · have h := x_iff h c5
    refine lv_iload_n hx hb dX2_send_20 rfl (lv_at hl 2 rfl) ?_
    refine lv_bipush (v := 7) hx hb dX2_send_21 (by decide) ?_
    refine lv_icmp_ge (tgt := 36) hx hb dX2_send_23 (by decide) (fun c6 => ?_) (fun c6 => ?_)
    · have h := x_ift h c6
      exact wX2_send_j36 hj F u3 a1 a2 a3 a4 a5 x1 _ _ _ h hI (lv_sub hl [1, 2, 3, 4, 5, 6, 0] rfl)
    · have h := x_iff h c6
      refine lv_aload_n hx hb dX2_send_26 rfl (lv_at hl 1 rfl) ?_
      refine xg_2_3 F hI (x_inH hj (by decide)) u_fl_X2_32 dX2_send_27 ?_
      refine lv_iload_n hx hb dX2_send_30 rfl (lv_at hl 2 rfl) ?_
      refine lv_dup2_11 hx hb dX2_send_31 rfl rfl ?_
      obtain ⟨g7, h⟩ := x_chk h
      refine xh_iald (n := 7) F hI (x_inH hj (by decide)) (fun _ => rfl) g7 dX2_send_32 ?_
      refine lv_iconst (v := 1) hx hb dX2_send_33 (by decide) ?_
      refine lv_iadd hx hb dX2_send_34 ?_
      refine xh_iast (n := 7) F hI (x_inH hj (by decide)) (fun _ => rfl) g7 dX2_send_35 (fun H locs u8 e9 hI => ?_)
      have h := x_let_at h e9
      exact wX2_send_j36 hj F u8 a1 a2 a3 a4 a5 x1 _ _ _ h hI (lv_sub hl [1, 2, 3, 4, 5, 6, 0] rfl)
abbrev rm_X2_beginSeeking : Room := { frames := 1, cells := 0, slots := 0, locals := 27 }
def fX2_beginSeeking (u : x_H) (a1 : Int32) : Option x_H := (Option.bind (fX6_isGuest a1) fun r1 => (if r1 = 0 then some (u) else (if x_in a1 12 then x_let (x_hu u 5 (Int32.toNatClampNeg a1) (1 : Int32)) fun u4 => (Option.bind (fX2_send u4 (0 : Int32) a1 (-1 : Int32) (-1 : Int32) (0 : Int32)) fun r7 => some (r7.2)) else none)))
set_option maxHeartbeats 4000000 in
set_option maxRecDepth 100000 in
theorem mX2_beginSeeking (l : Launch) (X : x_T) (σ : x_S) (j : Nat) (hj : j < 10) (sz : Nat) (u : x_H) (a1 : Int32) (r : x_H) (h : fX2_beginSeeking u a1 = some r) : Met l yX2_beginSeeking (x_ws yX2_beginSeeking cX2_beginSeeking 2 none) rm_X2_beginSeeking (x_Pc X (x_sh σ j u) sz [.ref (X.2.2 j 0), .int a1]) (x_Qv X (x_sh σ j r) sz) 0 0 (x_A X sz) := by
  refine Met.ofW (cc := cX2_beginSeeking) (maxL := 2) (ret := none) (by decide) rfl ?_
  intro p e s m args below meth c s₁ B hml hv
  obtain ⟨F, hI, rfl, rfl⟩ := x_begin B hml hv
  replace F : x_F p s m _ meth c cX2_beginSeeking 2 RX2 none := F
  have hx := F.1
  have hb := F.2.1
  have hml := F.2.2.1
  have hown := F.2.2.2.1
  have hts := F.2.2.2.2.1
  refine x_entry (vs := [.ref (X.2.2 j 0), .int a1]) (n := 2) (Nat.le_of_ble_eq_true rfl) (fun ls hl => ?_)
  replace hl : lv_has ls 2 [(0, .ref (X.2.2 j 0)), (1, .int a1)] := hl
  unfold fX2_beginSeeking at h
  refine lv_iload_n hx hb dX2_beginSeeking_0 rfl (lv_at hl 1 rfl) ?_
  obtain ⟨r1, h2, h⟩ := x_bnd h
  refine x_aci hI (x_runN (rest := []) F hI (mX6_isGuest l X (x_sh σ j u) _ a1 r1 h2) u_mln_X2_93 u_co_X6_isGuest u_ini_X6 u_st_X6_isGuest hd_X6_isGuest ⟨by decide, by decide⟩ ⟨rfl, rfl⟩ rfl hl.1 rfl (Nat.le_of_ble_eq_true rfl) dX2_beginSeeking_1 ⟨Nat.zero_le _, Nat.zero_le _⟩) (fun H locs hI => ?_)
  refine lv_if_eq (tgt := 27) hx hb dX2_beginSeeking_4 (by decide) (fun c3 => ?_) (fun c3 => ?_)
  · have h := x_ift h c3
    rw [x_some h]
    exact x_vret F hI dX2_beginSeeking_27
  · have h := x_iff h c3
    refine lv_aload_n hx hb dX2_beginSeeking_7 rfl (lv_at hl 0 rfl) ?_
    refine xg_2_0 F hI (x_inH hj (by decide)) u_fl_X2_12 dX2_beginSeeking_8 ?_
    refine xg_1_0 F hI (x_inH hj (by decide)) u_fl_X2_97 dX2_beginSeeking_11 ?_
    refine lv_iload_n hx hb dX2_beginSeeking_14 rfl (lv_at hl 1 rfl) ?_
    refine lv_iconst (v := 1) hx hb dX2_beginSeeking_15 (by decide) ?_
    obtain ⟨g6, h⟩ := x_chk h
    refine xh_iast (n := 12) F hI (x_inH hj (by decide)) (fun _ => rfl) g6 dX2_beginSeeking_16 (fun H locs u4 e5 hI => ?_)
    have h := x_let_at h e5
    refine lv_aload_n hx hb dX2_beginSeeking_17 rfl (lv_at hl 0 rfl) ?_
    refine lv_iconst (v := 0) hx hb dX2_beginSeeking_18 (by decide) ?_
    refine lv_iload_n hx hb dX2_beginSeeking_19 rfl (lv_at hl 1 rfl) ?_
    refine lv_iconst (v := (-1)) hx hb dX2_beginSeeking_20 (by decide) ?_
    refine lv_iconst (v := (-1)) hx hb dX2_beginSeeking_21 (by decide) ?_
    refine lv_iconst (v := 0) hx hb dX2_beginSeeking_22 (by decide) ?_
    obtain ⟨r7, h8, h⟩ := x_bnd h
    refine x_aci hI (x_runV (rest := []) F hI (mX2_send l X σ j hj _ u4 (0 : Int32) a1 (-1 : Int32) (-1 : Int32) (0 : Int32) r7 h8) g_X2_100 ⟨rfl, hd_X2_send⟩ ⟨by decide, by decide⟩ ⟨rfl, rfl⟩ (x_inH hj (by decide)) rfl rfl rfl rfl hl.1 rfl (Nat.le_of_ble_eq_true rfl) dX2_beginSeeking_23 ⟨Nat.zero_le _, Nat.zero_le _⟩) (fun H locs hI => ?_)
    refine lv_pop hx hb dX2_beginSeeking_26 rfl ?_
    rw [x_some h]
    exact x_vret F hI dX2_beginSeeking_27
abbrev rm_X2_sendWant : Room := { frames := 1, cells := 0, slots := 0, locals := 27 }
def fX2_sendWant (u : x_H) (a1 : Int32) : Option x_H := (Option.bind (fX6_isGuest a1) fun r1 => (if r1 = 0 then some (u) else (if x_in a1 12 then (Option.bind (fX2_send u (2 : Int32) a1 (u 6 (Int32.toNatClampNeg a1)) (-1 : Int32) (0 : Int32)) fun r5 => x_let (x_hu r5.2 7 (Int32.toNatClampNeg a1) r5.1) fun u7 => x_let (x_hu u7 8 (Int32.toNatClampNeg a1) (u7 0 0)) fun u9 => some (u9)) else none)))
set_option maxHeartbeats 4000000 in
set_option maxRecDepth 100000 in
theorem mX2_sendWant (l : Launch) (X : x_T) (σ : x_S) (j : Nat) (hj : j < 10) (sz : Nat) (u : x_H) (a1 : Int32) (r : x_H) (h : fX2_sendWant u a1 = some r) : Met l yX2_sendWant (x_ws yX2_sendWant cX2_sendWant 2 none) rm_X2_sendWant (x_Pc X (x_sh σ j u) sz [.ref (X.2.2 j 0), .int a1]) (x_Qv X (x_sh σ j r) sz) 0 0 (x_A X sz) := by
  refine Met.ofW (cc := cX2_sendWant) (maxL := 2) (ret := none) (by decide) rfl ?_
  intro p e s m args below meth c s₁ B hml hv
  obtain ⟨F, hI, rfl, rfl⟩ := x_begin B hml hv
  replace F : x_F p s m _ meth c cX2_sendWant 2 RX2 none := F
  have hx := F.1
  have hb := F.2.1
  have hml := F.2.2.1
  have hown := F.2.2.2.1
  have hts := F.2.2.2.2.1
  refine x_entry (vs := [.ref (X.2.2 j 0), .int a1]) (n := 2) (Nat.le_of_ble_eq_true rfl) (fun ls hl => ?_)
  replace hl : lv_has ls 2 [(0, .ref (X.2.2 j 0)), (1, .int a1)] := hl
  unfold fX2_sendWant at h
  refine lv_iload_n hx hb dX2_sendWant_0 rfl (lv_at hl 1 rfl) ?_
  obtain ⟨r1, h2, h⟩ := x_bnd h
  refine x_aci hI (x_runN (rest := []) F hI (mX6_isGuest l X (x_sh σ j u) _ a1 r1 h2) u_mln_X2_93 u_co_X6_isGuest u_ini_X6 u_st_X6_isGuest hd_X6_isGuest ⟨by decide, by decide⟩ ⟨rfl, rfl⟩ rfl hl.1 rfl (Nat.le_of_ble_eq_true rfl) dX2_sendWant_1 ⟨Nat.zero_le _, Nat.zero_le _⟩) (fun H locs hI => ?_)
  refine lv_if_eq (tgt := 46) hx hb dX2_sendWant_4 (by decide) (fun c3 => ?_) (fun c3 => ?_)
  · have h := x_ift h c3
    rw [x_some h]
    exact x_vret F hI dX2_sendWant_46
  · have h := x_iff h c3
    refine lv_aload_n hx hb dX2_sendWant_7 rfl (lv_at hl 0 rfl) ?_
    refine xg_2_0 F hI (x_inH hj (by decide)) u_fl_X2_12 dX2_sendWant_8 ?_
    refine xg_1_2 F hI (x_inH hj (by decide)) u_fl_X2_104 dX2_sendWant_11 ?_
    refine lv_iload_n hx hb dX2_sendWant_14 rfl (lv_at hl 1 rfl) ?_
    refine lv_aload_n hx hb dX2_sendWant_15 rfl (lv_at hl 0 rfl) ?_
    refine lv_iconst (v := 2) hx hb dX2_sendWant_16 (by decide) ?_
    refine lv_iload_n hx hb dX2_sendWant_17 rfl (lv_at hl 1 rfl) ?_
    refine lv_aload_n hx hb dX2_sendWant_18 rfl (lv_at hl 0 rfl) ?_
    refine xg_2_0 F hI (x_inH hj (by decide)) u_fl_X2_12 dX2_sendWant_19 ?_
    refine xg_1_1 F hI (x_inH hj (by decide)) u_fl_X2_107 dX2_sendWant_22 ?_
    refine lv_iload_n hx hb dX2_sendWant_25 rfl (lv_at hl 1 rfl) ?_
    obtain ⟨g4, h⟩ := x_chk h
    refine xh_iald (n := 12) F hI (x_inH hj (by decide)) (fun _ => rfl) g4 dX2_sendWant_26 ?_
    refine lv_iconst (v := (-1)) hx hb dX2_sendWant_27 (by decide) ?_
    refine lv_iconst (v := 0) hx hb dX2_sendWant_28 (by decide) ?_
    obtain ⟨r5, h6, h⟩ := x_bnd h
    refine x_aci hI (x_runV (rest := [.int a1, .ref (X.2.2 j 7)]) F hI (mX2_send l X σ j hj _ u (2 : Int32) a1 (u 6 (Int32.toNatClampNeg a1)) (-1 : Int32) (0 : Int32) r5 h6) g_X2_100 ⟨rfl, hd_X2_send⟩ ⟨by decide, by decide⟩ ⟨rfl, rfl⟩ (x_inH hj (by decide)) rfl rfl rfl rfl hl.1 rfl (Nat.le_of_ble_eq_true rfl) dX2_sendWant_29 ⟨Nat.zero_le _, Nat.zero_le _⟩) (fun H locs hI => ?_)
    refine xh_iast (n := 12) F hI (x_inH hj (by decide)) (fun _ => rfl) g4 dX2_sendWant_32 (fun H locs u7 e8 hI => ?_)
    have h := x_let_at h e8
    refine lv_aload_n hx hb dX2_sendWant_33 rfl (lv_at hl 0 rfl) ?_
    refine xg_2_0 F hI (x_inH hj (by decide)) u_fl_X2_12 dX2_sendWant_34 ?_
    refine xg_1_3 F hI (x_inH hj (by decide)) u_fl_X2_108 dX2_sendWant_37 ?_
    refine lv_iload_n hx hb dX2_sendWant_40 rfl (lv_at hl 1 rfl) ?_
    refine lv_aload_n hx hb dX2_sendWant_41 rfl (lv_at hl 0 rfl) ?_
    refine xg_2_4 F hI (x_inH hj (by decide)) u_fl_X2_50 dX2_sendWant_42 ?_
    refine xh_iast (n := 12) F hI (x_inH hj (by decide)) (fun _ => rfl) g4 dX2_sendWant_45 (fun H locs u9 e10 hI => ?_)
    have h := x_let_at h e10
    rw [x_some h]
    exact x_vret F hI dX2_sendWant_46
abbrev rm_X2_leaveRoom : Room := { frames := 2, cells := 0, slots := 0, locals := 41 }
def fX2_leaveRoom (u : x_H) (a1 : Int32) : Option x_H := (Option.bind (fX6_isGuest a1) fun r1 => (if r1 = 0 then some (u) else (if x_in a1 12 then (Option.bind (fX2_send u (6 : Int32) a1 (u 6 (Int32.toNatClampNeg a1)) (-1 : Int32) (0 : Int32)) fun r5 => (Option.bind (fX1_rest r5.2 a1) fun r7 => some (r7))) else none)))
set_option maxHeartbeats 4000000 in
set_option maxRecDepth 100000 in
theorem mX2_leaveRoom (l : Launch) (X : x_T) (σ : x_S) (j : Nat) (hj : j < 10) (sz : Nat) (u : x_H) (a1 : Int32) (r : x_H) (h : fX2_leaveRoom u a1 = some r) : Met l yX2_leaveRoom (x_ws yX2_leaveRoom cX2_leaveRoom 2 none) rm_X2_leaveRoom (x_Pc X (x_sh σ j u) sz [.ref (X.2.2 j 0), .int a1]) (x_Qv X (x_sh σ j r) sz) 0 0 (x_A X sz) := by
  refine Met.ofW (cc := cX2_leaveRoom) (maxL := 2) (ret := none) (by decide) rfl ?_
  intro p e s m args below meth c s₁ B hml hv
  obtain ⟨F, hI, rfl, rfl⟩ := x_begin B hml hv
  replace F : x_F p s m _ meth c cX2_leaveRoom 2 RX2 none := F
  have hx := F.1
  have hb := F.2.1
  have hml := F.2.2.1
  have hown := F.2.2.2.1
  have hts := F.2.2.2.2.1
  refine x_entry (vs := [.ref (X.2.2 j 0), .int a1]) (n := 2) (Nat.le_of_ble_eq_true rfl) (fun ls hl => ?_)
  replace hl : lv_has ls 2 [(0, .ref (X.2.2 j 0)), (1, .int a1)] := hl
  unfold fX2_leaveRoom at h
  refine lv_iload_n hx hb dX2_leaveRoom_0 rfl (lv_at hl 1 rfl) ?_
  obtain ⟨r1, h2, h⟩ := x_bnd h
  refine x_aci hI (x_runN (rest := []) F hI (mX6_isGuest l X (x_sh σ j u) _ a1 r1 h2) u_mln_X2_93 u_co_X6_isGuest u_ini_X6 u_st_X6_isGuest hd_X6_isGuest ⟨by decide, by decide⟩ ⟨rfl, rfl⟩ rfl hl.1 rfl (Nat.le_of_ble_eq_true rfl) dX2_leaveRoom_1 ⟨Nat.zero_le _, Nat.zero_le _⟩) (fun H locs hI => ?_)
  refine lv_if_eq (tgt := 34) hx hb dX2_leaveRoom_4 (by decide) (fun c3 => ?_) (fun c3 => ?_)
  · have h := x_ift h c3
    rw [x_some h]
    exact x_vret F hI dX2_leaveRoom_34
  · have h := x_iff h c3
    refine lv_aload_n hx hb dX2_leaveRoom_7 rfl (lv_at hl 0 rfl) ?_
    refine lv_bipush (v := 6) hx hb dX2_leaveRoom_8 (by decide) ?_
    refine lv_iload_n hx hb dX2_leaveRoom_10 rfl (lv_at hl 1 rfl) ?_
    refine lv_aload_n hx hb dX2_leaveRoom_11 rfl (lv_at hl 0 rfl) ?_
    refine xg_2_0 F hI (x_inH hj (by decide)) u_fl_X2_12 dX2_leaveRoom_12 ?_
    refine xg_1_1 F hI (x_inH hj (by decide)) u_fl_X2_107 dX2_leaveRoom_15 ?_
    refine lv_iload_n hx hb dX2_leaveRoom_18 rfl (lv_at hl 1 rfl) ?_
    obtain ⟨g4, h⟩ := x_chk h
    refine xh_iald (n := 12) F hI (x_inH hj (by decide)) (fun _ => rfl) g4 dX2_leaveRoom_19 ?_
    refine lv_iconst (v := (-1)) hx hb dX2_leaveRoom_20 (by decide) ?_
    refine lv_iconst (v := 0) hx hb dX2_leaveRoom_21 (by decide) ?_
    obtain ⟨r5, h6, h⟩ := x_bnd h
    refine x_aci hI (x_runV (rest := []) F hI (mX2_send l X σ j hj _ u (6 : Int32) a1 (u 6 (Int32.toNatClampNeg a1)) (-1 : Int32) (0 : Int32) r5 h6) g_X2_100 ⟨rfl, hd_X2_send⟩ ⟨by decide, by decide⟩ ⟨rfl, rfl⟩ (x_inH hj (by decide)) rfl rfl rfl rfl hl.1 rfl (Nat.le_of_ble_eq_true rfl) dX2_leaveRoom_22 ⟨Nat.zero_le _, Nat.zero_le _⟩) (fun H locs hI => ?_)
    refine lv_pop hx hb dX2_leaveRoom_25 rfl ?_
    refine lv_aload_n hx hb dX2_leaveRoom_26 rfl (lv_at hl 0 rfl) ?_
    refine xg_2_0 F hI (x_inH hj (by decide)) u_fl_X2_12 dX2_leaveRoom_27 ?_
    refine lv_iload_n hx hb dX2_leaveRoom_30 rfl (lv_at hl 1 rfl) ?_
    obtain ⟨r7, h8, h⟩ := x_bnd h
    refine x_acv hI (x_runV (rest := []) F hI (mX1_rest l X σ j hj _ r5.2 a1 r7 h8) g_X2_111 ⟨rfl, hd_X1_rest⟩ ⟨by decide, by decide⟩ ⟨rfl, rfl⟩ (x_inH hj (by decide)) rfl rfl rfl rfl hl.1 rfl (Nat.le_of_ble_eq_true rfl) dX2_leaveRoom_31 ⟨Nat.zero_le _, Nat.zero_le _⟩) (fun H locs hI => ?_)
    rw [x_some h]
    exact x_vret F hI dX2_leaveRoom_34
abbrev rm_X2_sleepsByGhost : Room := { frames := 2, cells := 0, slots := 0, locals := 41 }
def fX2_sleepsByGhost (u : x_H) (a1 : Int32) : Option Int32 := (Option.bind (fX6_isGuest a1) fun r1 => (if r1 = 0 then some (0 : Int32) else (if x_in a1 12 then (if (u 5 (Int32.toNatClampNeg a1)) = (3 : Int32) then (Option.bind (fX3_ghostIn u (u 6 (Int32.toNatClampNeg a1))) fun r6 => (if r6 = 0 then some (0 : Int32) else some (1 : Int32))) else some (0 : Int32)) else none)))
set_option maxHeartbeats 4000000 in
set_option maxRecDepth 100000 in
theorem mX2_sleepsByGhost (l : Launch) (X : x_T) (σ : x_S) (j : Nat) (hj : j < 10) (sz : Nat) (u : x_H) (a1 : Int32) (r : Int32) (h : fX2_sleepsByGhost u a1 = some r) : Met l yX2_sleepsByGhost (x_ws yX2_sleepsByGhost cX2_sleepsByGhost 2 (some .boolean)) rm_X2_sleepsByGhost (x_Pc X (x_sh σ j u) sz [.ref (X.2.2 j 0), .int a1]) (x_Qi X r (x_sh σ j u) sz) 0 0 (x_A X sz) := by
  refine Met.ofW (cc := cX2_sleepsByGhost) (maxL := 2) (ret := (some .boolean)) (by decide) rfl ?_
  intro p e s m args below meth c s₁ B hml hv
  obtain ⟨F, hI, rfl, rfl⟩ := x_begin B hml hv
  replace F : x_F p s m _ meth c cX2_sleepsByGhost 2 RX2 (some .boolean) := F
  have hx := F.1
  have hb := F.2.1
  have hml := F.2.2.1
  have hown := F.2.2.2.1
  have hts := F.2.2.2.2.1
  refine x_entry (vs := [.ref (X.2.2 j 0), .int a1]) (n := 2) (Nat.le_of_ble_eq_true rfl) (fun ls hl => ?_)
  replace hl : lv_has ls 2 [(0, .ref (X.2.2 j 0)), (1, .int a1)] := hl
  unfold fX2_sleepsByGhost at h
  refine lv_iload_n hx hb dX2_sleepsByGhost_0 rfl (lv_at hl 1 rfl) ?_
  obtain ⟨r1, h2, h⟩ := x_bnd h
  refine x_aci hI (x_runN (rest := []) F hI (mX6_isGuest l X (x_sh σ j u) _ a1 r1 h2) u_mln_X2_93 u_co_X6_isGuest u_ini_X6 u_st_X6_isGuest hd_X6_isGuest ⟨by decide, by decide⟩ ⟨rfl, rfl⟩ rfl hl.1 rfl (Nat.le_of_ble_eq_true rfl) dX2_sleepsByGhost_1 ⟨Nat.zero_le _, Nat.zero_le _⟩) (fun H locs hI => ?_)
  refine lv_if_eq (tgt := 43) hx hb dX2_sleepsByGhost_4 (by decide) (fun c3 => ?_) (fun c3 => ?_)
  · have h := x_ift h c3
    refine lv_iconst (v := 0) hx hb dX2_sleepsByGhost_43 (by decide) ?_
    rw [x_some h]
    exact x_zret (v := 0) F hI (by decide) dX2_sleepsByGhost_44
  · have h := x_iff h c3
    refine lv_aload_n hx hb dX2_sleepsByGhost_7 rfl (lv_at hl 0 rfl) ?_
    refine xg_2_0 F hI (x_inH hj (by decide)) u_fl_X2_12 dX2_sleepsByGhost_8 ?_
    refine xg_1_0 F hI (x_inH hj (by decide)) u_fl_X2_97 dX2_sleepsByGhost_11 ?_
    refine lv_iload_n hx hb dX2_sleepsByGhost_14 rfl (lv_at hl 1 rfl) ?_
    obtain ⟨g4, h⟩ := x_chk h
    refine xh_iald (n := 12) F hI (x_inH hj (by decide)) (fun _ => rfl) g4 dX2_sleepsByGhost_15 ?_
    refine lv_iconst (v := 3) hx hb dX2_sleepsByGhost_16 (by decide) ?_
    refine lv_icmp_ne (tgt := 43) hx hb dX2_sleepsByGhost_17 (by decide) (fun c5 => ?_) (fun c5 => ?_)
    · have h := x_iff h c5
      refine lv_iconst (v := 0) hx hb dX2_sleepsByGhost_43 (by decide) ?_
      rw [x_some h]
      exact x_zret (v := 0) F hI (by decide) dX2_sleepsByGhost_44
    · have h := x_ift h c5
      refine lv_aload_n hx hb dX2_sleepsByGhost_20 rfl (lv_at hl 0 rfl) ?_
      refine xg_2_1 F hI (x_inH hj (by decide)) u_fl_X2_21 dX2_sleepsByGhost_21 ?_
      refine lv_aload_n hx hb dX2_sleepsByGhost_24 rfl (lv_at hl 0 rfl) ?_
      refine xg_2_0 F hI (x_inH hj (by decide)) u_fl_X2_12 dX2_sleepsByGhost_25 ?_
      refine xg_1_1 F hI (x_inH hj (by decide)) u_fl_X2_107 dX2_sleepsByGhost_28 ?_
      refine lv_iload_n hx hb dX2_sleepsByGhost_31 rfl (lv_at hl 1 rfl) ?_
      refine xh_iald (n := 12) F hI (x_inH hj (by decide)) (fun _ => rfl) g4 dX2_sleepsByGhost_32 ?_
      obtain ⟨r6, h7, h⟩ := x_bnd h
      refine x_aci hI (x_runV (rest := []) F hI (mX3_ghostIn l X σ j hj _ u (u 6 (Int32.toNatClampNeg a1)) r6 h7) g_X2_115 ⟨rfl, hd_X3_ghostIn⟩ ⟨by decide, by decide⟩ ⟨rfl, rfl⟩ (x_inH hj (by decide)) rfl rfl rfl rfl hl.1 rfl (Nat.le_of_ble_eq_true rfl) dX2_sleepsByGhost_33 ⟨Nat.zero_le _, Nat.zero_le _⟩) (fun H locs hI => ?_)
      refine lv_if_eq (tgt := 43) hx hb dX2_sleepsByGhost_36 (by decide) (fun c8 => ?_) (fun c8 => ?_)
      · have h := x_ift h c8
        refine lv_iconst (v := 0) hx hb dX2_sleepsByGhost_43 (by decide) ?_
        rw [x_some h]
        exact x_zret (v := 0) F hI (by decide) dX2_sleepsByGhost_44
      · have h := x_iff h c8
        refine lv_iconst (v := 1) hx hb dX2_sleepsByGhost_39 (by decide) ?_
        refine lv_goto (tgt := 44) hx hb dX2_sleepsByGhost_40 (by decide) ?_
        rw [x_some h]
        exact x_zret (v := 1) F hI (by decide) dX2_sleepsByGhost_44
abbrev rm_X2_hearOffer : Room := { frames := 2, cells := 0, slots := 0, locals := 48 }
def fX2_hearOffer (u : x_H) (a1 : Int32) (a2 : Int32) : Option x_H := (Option.bind (fX6_isGuest a1) fun r1 => (if r1 = 0 then some (u) else (if x_in a1 12 then (if (u 5 (Int32.toNatClampNeg a1)) = (1 : Int32) then x_let (x_hu u 5 (Int32.toNatClampNeg a1) (2 : Int32)) fun u6 => x_let (x_hu u6 6 (Int32.toNatClampNeg a1) a2) fun u8 => (Option.bind (fX2_sendWant u8 a1) fun r10 => some (r10)) else some (u)) else none)))
set_option maxHeartbeats 4000000 in
set_option maxRecDepth 100000 in
theorem mX2_hearOffer (l : Launch) (X : x_T) (σ : x_S) (j : Nat) (hj : j < 10) (sz : Nat) (u : x_H) (a1 : Int32) (a2 : Int32) (r : x_H) (h : fX2_hearOffer u a1 a2 = some r) : Met l yX2_hearOffer (x_ws yX2_hearOffer cX2_hearOffer 3 none) rm_X2_hearOffer (x_Pc X (x_sh σ j u) sz [.ref (X.2.2 j 0), .int a1, .int a2]) (x_Qv X (x_sh σ j r) sz) 0 0 (x_A X sz) := by
  refine Met.ofW (cc := cX2_hearOffer) (maxL := 3) (ret := none) (by decide) rfl ?_
  intro p e s m args below meth c s₁ B hml hv
  obtain ⟨F, hI, rfl, rfl⟩ := x_begin B hml hv
  replace F : x_F p s m _ meth c cX2_hearOffer 3 RX2 none := F
  have hx := F.1
  have hb := F.2.1
  have hml := F.2.2.1
  have hown := F.2.2.2.1
  have hts := F.2.2.2.2.1
  refine x_entry (vs := [.ref (X.2.2 j 0), .int a1, .int a2]) (n := 3) (Nat.le_of_ble_eq_true rfl) (fun ls hl => ?_)
  replace hl : lv_has ls 3 [(0, .ref (X.2.2 j 0)), (1, .int a1), (2, .int a2)] := hl
  unfold fX2_hearOffer at h
  refine lv_iload_n hx hb dX2_hearOffer_0 rfl (lv_at hl 1 rfl) ?_
  obtain ⟨r1, h2, h⟩ := x_bnd h
  refine x_aci hI (x_runN (rest := []) F hI (mX6_isGuest l X (x_sh σ j u) _ a1 r1 h2) u_mln_X2_93 u_co_X6_isGuest u_ini_X6 u_st_X6_isGuest hd_X6_isGuest ⟨by decide, by decide⟩ ⟨rfl, rfl⟩ rfl hl.1 rfl (Nat.le_of_ble_eq_true rfl) dX2_hearOffer_1 ⟨Nat.zero_le _, Nat.zero_le _⟩) (fun H locs hI => ?_)
  refine lv_if_eq (tgt := 45) hx hb dX2_hearOffer_4 (by decide) (fun c3 => ?_) (fun c3 => ?_)
  · have h := x_ift h c3
    rw [x_some h]
    exact x_vret F hI dX2_hearOffer_45
  · have h := x_iff h c3
    refine lv_aload_n hx hb dX2_hearOffer_7 rfl (lv_at hl 0 rfl) ?_
    refine xg_2_0 F hI (x_inH hj (by decide)) u_fl_X2_12 dX2_hearOffer_8 ?_
    refine xg_1_0 F hI (x_inH hj (by decide)) u_fl_X2_97 dX2_hearOffer_11 ?_
    refine lv_iload_n hx hb dX2_hearOffer_14 rfl (lv_at hl 1 rfl) ?_
    obtain ⟨g4, h⟩ := x_chk h
    refine xh_iald (n := 12) F hI (x_inH hj (by decide)) (fun _ => rfl) g4 dX2_hearOffer_15 ?_
    refine lv_iconst (v := 1) hx hb dX2_hearOffer_16 (by decide) ?_
    refine lv_icmp_ne (tgt := 45) hx hb dX2_hearOffer_17 (by decide) (fun c5 => ?_) (fun c5 => ?_)
    · have h := x_iff h c5
      rw [x_some h]
      exact x_vret F hI dX2_hearOffer_45
    · have h := x_ift h c5
      refine lv_aload_n hx hb dX2_hearOffer_20 rfl (lv_at hl 0 rfl) ?_
      refine xg_2_0 F hI (x_inH hj (by decide)) u_fl_X2_12 dX2_hearOffer_21 ?_
      refine xg_1_0 F hI (x_inH hj (by decide)) u_fl_X2_97 dX2_hearOffer_24 ?_
      refine lv_iload_n hx hb dX2_hearOffer_27 rfl (lv_at hl 1 rfl) ?_
      refine lv_iconst (v := 2) hx hb dX2_hearOffer_28 (by decide) ?_
      refine xh_iast (n := 12) F hI (x_inH hj (by decide)) (fun _ => rfl) g4 dX2_hearOffer_29 (fun H locs u6 e7 hI => ?_)
      have h := x_let_at h e7
      refine lv_aload_n hx hb dX2_hearOffer_30 rfl (lv_at hl 0 rfl) ?_
      refine xg_2_0 F hI (x_inH hj (by decide)) u_fl_X2_12 dX2_hearOffer_31 ?_
      refine xg_1_1 F hI (x_inH hj (by decide)) u_fl_X2_107 dX2_hearOffer_34 ?_
      refine lv_iload_n hx hb dX2_hearOffer_37 rfl (lv_at hl 1 rfl) ?_
      refine lv_iload_n hx hb dX2_hearOffer_38 rfl (lv_at hl 2 rfl) ?_
      refine xh_iast (n := 12) F hI (x_inH hj (by decide)) (fun _ => rfl) g4 dX2_hearOffer_39 (fun H locs u8 e9 hI => ?_)
      have h := x_let_at h e9
      refine lv_aload_n hx hb dX2_hearOffer_40 rfl (lv_at hl 0 rfl) ?_
      refine lv_iload_n hx hb dX2_hearOffer_41 rfl (lv_at hl 1 rfl) ?_
      obtain ⟨r10, h11, h⟩ := x_bnd h
      refine x_acv hI (x_runV (rest := []) F hI (mX2_sendWant l X σ j hj _ u8 a1 r10 h11) g_X2_118 ⟨rfl, hd_X2_sendWant⟩ ⟨by decide, by decide⟩ ⟨rfl, rfl⟩ (x_inH hj (by decide)) rfl rfl rfl rfl hl.1 rfl (Nat.le_of_ble_eq_true rfl) dX2_hearOffer_42 ⟨Nat.zero_le _, Nat.zero_le _⟩) (fun H locs hI => ?_)
      rw [x_some h]
      exact x_vret F hI dX2_hearOffer_45
abbrev rm_X2_hearYes : Room := { frames := 2, cells := 0, slots := 0, locals := 43 }
def fX2_hearYes (u : x_H) (a1 : Int32) (a2 : Int32) (a3 : Int32) (a4 : Int32) : Option x_H := (Option.bind (fX6_isGuest a1) fun r1 => (if r1 = 0 then some (u) else (Option.bind (fX1_heeds u a1 a2 a3) fun r4 => (if r4 = 0 then some (u) else (if x_in a1 12 then (if (u 0 0) < ((u 8 (Int32.toNatClampNeg a1)) + a4) then (if (u 5 (Int32.toNatClampNeg a1)) = (2 : Int32) then (Option.bind (fX3_ghostIn u a2) fun r10 => (if r10 = 0 then (Option.bind (fX1_take u a1 a4) fun r13 => some (r13)) else (Option.bind (fX2_send u (5 : Int32) a1 a2 (-1 : Int32) (0 : Int32)) fun r15 => (Option.bind (fX1_rest r15.2 a1) fun r17 => some (r17))))) else (Option.bind (fX1_take u a1 a4) fun r19 => some (r19))) else (Option.bind (fX1_rest u a1) fun r21 => some (r21))) else none)))))
set_option maxHeartbeats 4000000 in
set_option maxRecDepth 100000 in
theorem mX2_hearYes (l : Launch) (X : x_T) (σ : x_S) (j : Nat) (hj : j < 10) (sz : Nat) (u : x_H) (a1 : Int32) (a2 : Int32) (a3 : Int32) (a4 : Int32) (r : x_H) (h : fX2_hearYes u a1 a2 a3 a4 = some r) : Met l yX2_hearYes (x_ws yX2_hearYes cX2_hearYes 5 none) rm_X2_hearYes (x_Pc X (x_sh σ j u) sz [.ref (X.2.2 j 0), .int a1, .int a2, .int a3, .int a4]) (x_Qv X (x_sh σ j r) sz) 0 0 (x_A X sz) := by
  refine Met.ofW (cc := cX2_hearYes) (maxL := 5) (ret := none) (by decide) rfl ?_
  intro p e s m args below meth c s₁ B hml hv
  obtain ⟨F, hI, rfl, rfl⟩ := x_begin B hml hv
  replace F : x_F p s m _ meth c cX2_hearYes 5 RX2 none := F
  have hx := F.1
  have hb := F.2.1
  have hml := F.2.2.1
  have hown := F.2.2.2.1
  have hts := F.2.2.2.2.1
  refine x_entry (vs := [.ref (X.2.2 j 0), .int a1, .int a2, .int a3, .int a4]) (n := 5) (Nat.le_of_ble_eq_true rfl) (fun ls hl => ?_)
  replace hl : lv_has ls 5 [(0, .ref (X.2.2 j 0)), (1, .int a1), (2, .int a2), (3, .int a3), (4, .int a4)] := hl
  unfold fX2_hearYes at h
  refine lv_iload_n hx hb dX2_hearYes_0 rfl (lv_at hl 1 rfl) ?_
  obtain ⟨r1, h2, h⟩ := x_bnd h
  refine x_aci hI (x_runN (rest := []) F hI (mX6_isGuest l X (x_sh σ j u) _ a1 r1 h2) u_mln_X2_93 u_co_X6_isGuest u_ini_X6 u_st_X6_isGuest hd_X6_isGuest ⟨by decide, by decide⟩ ⟨rfl, rfl⟩ rfl hl.1 rfl (Nat.le_of_ble_eq_true rfl) dX2_hearYes_1 ⟨Nat.zero_le _, Nat.zero_le _⟩) (fun H locs hI => ?_)
  refine lv_if_eq (tgt := 20) hx hb dX2_hearYes_4 (by decide) (fun c3 => ?_) (fun c3 => ?_)
  · have h := x_ift h c3
    rw [x_some h]
    exact x_vret F hI dX2_hearYes_20
  · have h := x_iff h c3
    refine lv_aload_n hx hb dX2_hearYes_7 rfl (lv_at hl 0 rfl) ?_
    refine xg_2_0 F hI (x_inH hj (by decide)) u_fl_X2_12 dX2_hearYes_8 ?_
    refine lv_iload_n hx hb dX2_hearYes_11 rfl (lv_at hl 1 rfl) ?_
    refine lv_iload_n hx hb dX2_hearYes_12 rfl (lv_at hl 2 rfl) ?_
    refine lv_iload_n hx hb dX2_hearYes_13 rfl (lv_at hl 3 rfl) ?_
    obtain ⟨r4, h5, h⟩ := x_bnd h
    refine x_aci hI (x_runV (rest := []) F hI (mX1_heeds l X σ j hj _ u a1 a2 a3 r4 h5) g_X2_121 ⟨rfl, hd_X1_heeds⟩ ⟨by decide, by decide⟩ ⟨rfl, rfl⟩ (x_inH hj (by decide)) rfl rfl rfl rfl hl.1 rfl (Nat.le_of_ble_eq_true rfl) dX2_hearYes_14 ⟨Nat.zero_le _, Nat.zero_le _⟩) (fun H locs hI => ?_)
    refine lv_if_ne (tgt := 21) hx hb dX2_hearYes_17 (by decide) (fun c6 => ?_) (fun c6 => ?_)
    · have h := x_iff h c6
      refine lv_aload_n hx hb dX2_hearYes_21 rfl (lv_at hl 0 rfl) ?_
      refine xg_2_0 F hI (x_inH hj (by decide)) u_fl_X2_12 dX2_hearYes_22 ?_
      refine xg_1_3 F hI (x_inH hj (by decide)) u_fl_X2_108 dX2_hearYes_25 ?_
      refine lv_iload_n hx hb dX2_hearYes_28 rfl (lv_at hl 1 rfl) ?_
      obtain ⟨g7, h⟩ := x_chk h
      refine xh_iald (n := 12) F hI (x_inH hj (by decide)) (fun _ => rfl) g7 dX2_hearYes_29 ?_
      refine lv_iload hx hb dX2_hearYes_30 (lv_at hl 4 rfl) ?_
      refine lv_iadd hx hb dX2_hearYes_32 ?_
      refine lv_aload_n hx hb dX2_hearYes_33 rfl (lv_at hl 0 rfl) ?_
      refine xg_2_4 F hI (x_inH hj (by decide)) u_fl_X2_50 dX2_hearYes_34 ?_
      refine lv_icmp_gt (tgt := 51) hx hb dX2_hearYes_37 (by decide) (fun c8 => ?_) (fun c8 => ?_)
      · have h := x_ift h c8
        refine lv_aload_n hx hb dX2_hearYes_51 rfl (lv_at hl 0 rfl) ?_
        refine xg_2_0 F hI (x_inH hj (by decide)) u_fl_X2_12 dX2_hearYes_52 ?_
        refine xg_1_0 F hI (x_inH hj (by decide)) u_fl_X2_97 dX2_hearYes_55 ?_
        refine lv_iload_n hx hb dX2_hearYes_58 rfl (lv_at hl 1 rfl) ?_
        refine xh_iald (n := 12) F hI (x_inH hj (by decide)) (fun _ => rfl) g7 dX2_hearYes_59 ?_
        refine lv_iconst (v := 2) hx hb dX2_hearYes_60 (by decide) ?_
        refine lv_icmp_ne (tgt := 96) hx hb dX2_hearYes_61 (by decide) (fun c9 => ?_) (fun c9 => ?_)
        · have h := x_iff h c9
          refine lv_aload_n hx hb dX2_hearYes_96 rfl (lv_at hl 0 rfl) ?_
          refine xg_2_0 F hI (x_inH hj (by decide)) u_fl_X2_12 dX2_hearYes_97 ?_
          refine lv_iload_n hx hb dX2_hearYes_100 rfl (lv_at hl 1 rfl) ?_
          refine lv_iload hx hb dX2_hearYes_101 (lv_at hl 4 rfl) ?_
          obtain ⟨r19, h20, h⟩ := x_bnd h
          refine x_acv hI (x_runV (rest := []) F hI (mX1_take l X σ j hj _ u a1 a4 r19 h20) g_X2_125 ⟨rfl, hd_X1_take⟩ ⟨by decide, by decide⟩ ⟨rfl, rfl⟩ (x_inH hj (by decide)) rfl rfl rfl rfl hl.1 rfl (Nat.le_of_ble_eq_true rfl) dX2_hearYes_103 ⟨Nat.zero_le _, Nat.zero_le _⟩) (fun H locs hI => ?_)
          rw [x_some h]
          exact x_vret F hI dX2_hearYes_106
        · have h := x_ift h c9
          refine lv_aload_n hx hb dX2_hearYes_64 rfl (lv_at hl 0 rfl) ?_
          refine xg_2_1 F hI (x_inH hj (by decide)) u_fl_X2_21 dX2_hearYes_65 ?_
          refine lv_iload_n hx hb dX2_hearYes_68 rfl (lv_at hl 2 rfl) ?_
          obtain ⟨r10, h11, h⟩ := x_bnd h
          refine x_aci hI (x_runV (rest := []) F hI (mX3_ghostIn l X σ j hj _ u a2 r10 h11) g_X2_115 ⟨rfl, hd_X3_ghostIn⟩ ⟨by decide, by decide⟩ ⟨rfl, rfl⟩ (x_inH hj (by decide)) rfl rfl rfl rfl hl.1 rfl (Nat.le_of_ble_eq_true rfl) dX2_hearYes_69 ⟨Nat.zero_le _, Nat.zero_le _⟩) (fun H locs hI => ?_)
          refine lv_if_eq (tgt := 96) hx hb dX2_hearYes_72 (by decide) (fun c12 => ?_) (fun c12 => ?_)
          · have h := x_ift h c12
            refine lv_aload_n hx hb dX2_hearYes_96 rfl (lv_at hl 0 rfl) ?_
            refine xg_2_0 F hI (x_inH hj (by decide)) u_fl_X2_12 dX2_hearYes_97 ?_
            refine lv_iload_n hx hb dX2_hearYes_100 rfl (lv_at hl 1 rfl) ?_
            refine lv_iload hx hb dX2_hearYes_101 (lv_at hl 4 rfl) ?_
            obtain ⟨r13, h14, h⟩ := x_bnd h
            refine x_acv hI (x_runV (rest := []) F hI (mX1_take l X σ j hj _ u a1 a4 r13 h14) g_X2_125 ⟨rfl, hd_X1_take⟩ ⟨by decide, by decide⟩ ⟨rfl, rfl⟩ (x_inH hj (by decide)) rfl rfl rfl rfl hl.1 rfl (Nat.le_of_ble_eq_true rfl) dX2_hearYes_103 ⟨Nat.zero_le _, Nat.zero_le _⟩) (fun H locs hI => ?_)
            rw [x_some h]
            exact x_vret F hI dX2_hearYes_106
          · have h := x_iff h c12
            refine lv_aload_n hx hb dX2_hearYes_75 rfl (lv_at hl 0 rfl) ?_
            refine lv_iconst (v := 5) hx hb dX2_hearYes_76 (by decide) ?_
            refine lv_iload_n hx hb dX2_hearYes_77 rfl (lv_at hl 1 rfl) ?_
            refine lv_iload_n hx hb dX2_hearYes_78 rfl (lv_at hl 2 rfl) ?_
            refine lv_iconst (v := (-1)) hx hb dX2_hearYes_79 (by decide) ?_
            refine lv_iconst (v := 0) hx hb dX2_hearYes_80 (by decide) ?_
            obtain ⟨r15, h16, h⟩ := x_bnd h
            refine x_aci hI (x_runV (rest := []) F hI (mX2_send l X σ j hj _ u (5 : Int32) a1 a2 (-1 : Int32) (0 : Int32) r15 h16) g_X2_100 ⟨rfl, hd_X2_send⟩ ⟨by decide, by decide⟩ ⟨rfl, rfl⟩ (x_inH hj (by decide)) rfl rfl rfl rfl hl.1 rfl (Nat.le_of_ble_eq_true rfl) dX2_hearYes_81 ⟨Nat.zero_le _, Nat.zero_le _⟩) (fun H locs hI => ?_)
            refine lv_pop hx hb dX2_hearYes_84 rfl ?_
            refine lv_aload_n hx hb dX2_hearYes_85 rfl (lv_at hl 0 rfl) ?_
            refine xg_2_0 F hI (x_inH hj (by decide)) u_fl_X2_12 dX2_hearYes_86 ?_
            refine lv_iload_n hx hb dX2_hearYes_89 rfl (lv_at hl 1 rfl) ?_
            obtain ⟨r17, h18, h⟩ := x_bnd h
            refine x_acv hI (x_runV (rest := []) F hI (mX1_rest l X σ j hj _ r15.2 a1 r17 h18) g_X2_111 ⟨rfl, hd_X1_rest⟩ ⟨by decide, by decide⟩ ⟨rfl, rfl⟩ (x_inH hj (by decide)) rfl rfl rfl rfl hl.1 rfl (Nat.le_of_ble_eq_true rfl) dX2_hearYes_90 ⟨Nat.zero_le _, Nat.zero_le _⟩) (fun H locs hI => ?_)
            refine lv_goto (tgt := 106) hx hb dX2_hearYes_93 (by decide) ?_
            rw [x_some h]
            exact x_vret F hI dX2_hearYes_106
      · have h := x_iff h c8
        refine lv_aload_n hx hb dX2_hearYes_40 rfl (lv_at hl 0 rfl) ?_
        refine xg_2_0 F hI (x_inH hj (by decide)) u_fl_X2_12 dX2_hearYes_41 ?_
        refine lv_iload_n hx hb dX2_hearYes_44 rfl (lv_at hl 1 rfl) ?_
        obtain ⟨r21, h22, h⟩ := x_bnd h
        refine x_acv hI (x_runV (rest := []) F hI (mX1_rest l X σ j hj _ u a1 r21 h22) g_X2_111 ⟨rfl, hd_X1_rest⟩ ⟨by decide, by decide⟩ ⟨rfl, rfl⟩ (x_inH hj (by decide)) rfl rfl rfl rfl hl.1 rfl (Nat.le_of_ble_eq_true rfl) dX2_hearYes_45 ⟨Nat.zero_le _, Nat.zero_le _⟩) (fun H locs hI => ?_)
        refine lv_goto (tgt := 106) hx hb dX2_hearYes_48 (by decide) ?_
        rw [x_some h]
        exact x_vret F hI dX2_hearYes_106
    · have h := x_ift h c6
      rw [x_some h]
      exact x_vret F hI dX2_hearYes_20
abbrev rm_X2_hearNo : Room := { frames := 2, cells := 0, slots := 0, locals := 43 }
def fX2_hearNo (u : x_H) (a1 : Int32) (a2 : Int32) (a3 : Int32) : Option x_H := (Option.bind (fX1_heeds u a1 a2 a3) fun r1 => (if r1 = 0 then some (u) else (Option.bind (fX1_rest u a1) fun r4 => some (r4))))
set_option maxHeartbeats 4000000 in
set_option maxRecDepth 100000 in
theorem mX2_hearNo (l : Launch) (X : x_T) (σ : x_S) (j : Nat) (hj : j < 10) (sz : Nat) (u : x_H) (a1 : Int32) (a2 : Int32) (a3 : Int32) (r : x_H) (h : fX2_hearNo u a1 a2 a3 = some r) : Met l yX2_hearNo (x_ws yX2_hearNo cX2_hearNo 4 none) rm_X2_hearNo (x_Pc X (x_sh σ j u) sz [.ref (X.2.2 j 0), .int a1, .int a2, .int a3]) (x_Qv X (x_sh σ j r) sz) 0 0 (x_A X sz) := by
  refine Met.ofW (cc := cX2_hearNo) (maxL := 4) (ret := none) (by decide) rfl ?_
  intro p e s m args below meth c s₁ B hml hv
  obtain ⟨F, hI, rfl, rfl⟩ := x_begin B hml hv
  replace F : x_F p s m _ meth c cX2_hearNo 4 RX2 none := F
  have hx := F.1
  have hb := F.2.1
  have hml := F.2.2.1
  have hown := F.2.2.2.1
  have hts := F.2.2.2.2.1
  refine x_entry (vs := [.ref (X.2.2 j 0), .int a1, .int a2, .int a3]) (n := 4) (Nat.le_of_ble_eq_true rfl) (fun ls hl => ?_)
  replace hl : lv_has ls 4 [(0, .ref (X.2.2 j 0)), (1, .int a1), (2, .int a2), (3, .int a3)] := hl
  unfold fX2_hearNo at h
  refine lv_aload_n hx hb dX2_hearNo_0 rfl (lv_at hl 0 rfl) ?_
  refine xg_2_0 F hI (x_inH hj (by decide)) u_fl_X2_12 dX2_hearNo_1 ?_
  refine lv_iload_n hx hb dX2_hearNo_4 rfl (lv_at hl 1 rfl) ?_
  refine lv_iload_n hx hb dX2_hearNo_5 rfl (lv_at hl 2 rfl) ?_
  refine lv_iload_n hx hb dX2_hearNo_6 rfl (lv_at hl 3 rfl) ?_
  obtain ⟨r1, h2, h⟩ := x_bnd h
  refine x_aci hI (x_runV (rest := []) F hI (mX1_heeds l X σ j hj _ u a1 a2 a3 r1 h2) g_X2_121 ⟨rfl, hd_X1_heeds⟩ ⟨by decide, by decide⟩ ⟨rfl, rfl⟩ (x_inH hj (by decide)) rfl rfl rfl rfl hl.1 rfl (Nat.le_of_ble_eq_true rfl) dX2_hearNo_7 ⟨Nat.zero_le _, Nat.zero_le _⟩) (fun H locs hI => ?_)
  refine lv_if_eq (tgt := 21) hx hb dX2_hearNo_10 (by decide) (fun c3 => ?_) (fun c3 => ?_)
  · have h := x_ift h c3
    rw [x_some h]
    exact x_vret F hI dX2_hearNo_21
  · have h := x_iff h c3
    refine lv_aload_n hx hb dX2_hearNo_13 rfl (lv_at hl 0 rfl) ?_
    refine xg_2_0 F hI (x_inH hj (by decide)) u_fl_X2_12 dX2_hearNo_14 ?_
    refine lv_iload_n hx hb dX2_hearNo_17 rfl (lv_at hl 1 rfl) ?_
    obtain ⟨r4, h5, h⟩ := x_bnd h
    refine x_acv hI (x_runV (rest := []) F hI (mX1_rest l X σ j hj _ u a1 r4 h5) g_X2_111 ⟨rfl, hd_X1_rest⟩ ⟨by decide, by decide⟩ ⟨rfl, rfl⟩ (x_inH hj (by decide)) rfl rfl rfl rfl hl.1 rfl (Nat.le_of_ble_eq_true rfl) dX2_hearNo_18 ⟨Nat.zero_le _, Nat.zero_le _⟩) (fun H locs hI => ?_)
    rw [x_some h]
    exact x_vret F hI dX2_hearNo_21
abbrev rm_X2_answerSeek : Room := { frames := 2, cells := 0, slots := 0, locals := 46 }
def fX2_answerSeek (u : x_H) (a1 : Int32) : Option x_H := (Option.bind (fX3_roomToOffer u a1) fun r1 => (if r1 = (-1 : Int32) then some (u) else (Option.bind (fX3_offer u r1 a1 (u 0 0)) fun r4 => (Option.bind (fX2_send r4 (1 : Int32) a1 r1 (-1 : Int32) (0 : Int32)) fun r6 => some (r6.2)))))
set_option maxHeartbeats 4000000 in
set_option maxRecDepth 100000 in
theorem mX2_answerSeek (l : Launch) (X : x_T) (σ : x_S) (j : Nat) (hj : j < 10) (sz : Nat) (u : x_H) (a1 : Int32) (r : x_H) (h : fX2_answerSeek u a1 = some r) : Met l yX2_answerSeek (x_ws yX2_answerSeek cX2_answerSeek 3 none) rm_X2_answerSeek (x_Pc X (x_sh σ j u) sz [.ref (X.2.2 j 0), .int a1]) (x_Qv X (x_sh σ j r) sz) 0 0 (x_A X sz) := by
  refine Met.ofW (cc := cX2_answerSeek) (maxL := 3) (ret := none) (by decide) rfl ?_
  intro p e s m args below meth c s₁ B hml hv
  obtain ⟨F, hI, rfl, rfl⟩ := x_begin B hml hv
  replace F : x_F p s m _ meth c cX2_answerSeek 3 RX2 none := F
  have hx := F.1
  have hb := F.2.1
  have hml := F.2.2.1
  have hown := F.2.2.2.1
  have hts := F.2.2.2.2.1
  refine x_entry (vs := [.ref (X.2.2 j 0), .int a1]) (n := 3) (Nat.le_of_ble_eq_true rfl) (fun ls hl => ?_)
  replace hl : lv_has ls 3 [(0, .ref (X.2.2 j 0)), (1, .int a1)] := hl
  unfold fX2_answerSeek at h
  refine lv_aload_n hx hb dX2_answerSeek_0 rfl (lv_at hl 0 rfl) ?_
  refine xg_2_1 F hI (x_inH hj (by decide)) u_fl_X2_21 dX2_answerSeek_1 ?_
  refine lv_iload_n hx hb dX2_answerSeek_4 rfl (lv_at hl 1 rfl) ?_
  obtain ⟨r1, h2, h⟩ := x_bnd h
  refine x_aci hI (x_runV (rest := []) F hI (mX3_roomToOffer l X σ j hj _ u a1 r1 h2) g_X2_129 ⟨rfl, hd_X3_roomToOffer⟩ ⟨by decide, by decide⟩ ⟨rfl, rfl⟩ (x_inH hj (by decide)) rfl rfl rfl rfl hl.1 rfl (Nat.le_of_ble_eq_true rfl) dX2_answerSeek_5 ⟨Nat.zero_le _, Nat.zero_le _⟩) (fun H locs hI => ?_)
  refine lv_istore_n (lv' := [(2, .int r1), (0, .ref (X.2.2 j 0)), (1, .int a1)]) hx hb dX2_answerSeek_8 rfl hl (by decide) rfl (fun ls hl => ?_)
  refine lv_iload_n hx hb dX2_answerSeek_9 rfl (lv_at hl 0 rfl) ?_
  refine lv_iconst (v := (-1)) hx hb dX2_answerSeek_10 (by decide) ?_
  refine lv_icmp_eq (tgt := 37) hx hb dX2_answerSeek_11 (by decide) (fun c3 => ?_) (fun c3 => ?_)
  · have h := x_ift h c3
    rw [x_some h]
    exact x_vret F hI dX2_answerSeek_37
  · have h := x_iff h c3
    refine lv_aload_n hx hb dX2_answerSeek_14 rfl (lv_at hl 1 rfl) ?_
    refine xg_2_1 F hI (x_inH hj (by decide)) u_fl_X2_21 dX2_answerSeek_15 ?_
    refine lv_iload_n hx hb dX2_answerSeek_18 rfl (lv_at hl 0 rfl) ?_
    refine lv_iload_n hx hb dX2_answerSeek_19 rfl (lv_at hl 2 rfl) ?_
    refine lv_aload_n hx hb dX2_answerSeek_20 rfl (lv_at hl 1 rfl) ?_
    refine xg_2_4 F hI (x_inH hj (by decide)) u_fl_X2_50 dX2_answerSeek_21 ?_
    obtain ⟨r4, h5, h⟩ := x_bnd h
    refine x_acv hI (x_runV (rest := []) F hI (mX3_offer l X σ j hj _ u r1 a1 (u 0 0) r4 h5) g_X2_133 ⟨rfl, hd_X3_offer⟩ ⟨by decide, by decide⟩ ⟨rfl, rfl⟩ (x_inH hj (by decide)) rfl rfl rfl rfl hl.1 rfl (Nat.le_of_ble_eq_true rfl) dX2_answerSeek_24 ⟨Nat.zero_le _, Nat.zero_le _⟩) (fun H locs hI => ?_)
    refine lv_aload_n hx hb dX2_answerSeek_27 rfl (lv_at hl 1 rfl) ?_
    refine lv_iconst (v := 1) hx hb dX2_answerSeek_28 (by decide) ?_
    refine lv_iload_n hx hb dX2_answerSeek_29 rfl (lv_at hl 2 rfl) ?_
    refine lv_iload_n hx hb dX2_answerSeek_30 rfl (lv_at hl 0 rfl) ?_
    refine lv_iconst (v := (-1)) hx hb dX2_answerSeek_31 (by decide) ?_
    refine lv_iconst (v := 0) hx hb dX2_answerSeek_32 (by decide) ?_
    obtain ⟨r6, h7, h⟩ := x_bnd h
    refine x_aci hI (x_runV (rest := []) F hI (mX2_send l X σ j hj _ r4 (1 : Int32) a1 r1 (-1 : Int32) (0 : Int32) r6 h7) g_X2_100 ⟨rfl, hd_X2_send⟩ ⟨by decide, by decide⟩ ⟨rfl, rfl⟩ (x_inH hj (by decide)) rfl rfl rfl rfl hl.1 rfl (Nat.le_of_ble_eq_true rfl) dX2_answerSeek_33 ⟨Nat.zero_le _, Nat.zero_le _⟩) (fun H locs hI => ?_)
    refine lv_pop hx hb dX2_answerSeek_36 rfl ?_
    rw [x_some h]
    exact x_vret F hI dX2_answerSeek_37
abbrev rm_X2_answerWant : Room := { frames := 2, cells := 0, slots := 0, locals := 47 }
def fX2_answerWant (u : x_H) (a1 : Int32) (a2 : Int32) (a3 : Int32) : Option x_H := (Option.bind (fX3_isHeldFor u a2 a1) fun r1 => (if r1 = 0 then (Option.bind (fX2_send u (4 : Int32) a1 a2 a3 (0 : Int32)) fun r4 => some (r4.2)) else (Option.bind (fX2_send u (3 : Int32) a1 a2 a3 (u 2 1)) fun r6 => (Option.bind (fX3_lease r6.2 a2 a1 (r6.2 0 0) r6.1) fun r8 => x_let (x_hu r8 0 4 ((r8 0 4) + (1 : Int32))) fun u10 => some (u10)))))
set_option maxHeartbeats 4000000 in
set_option maxRecDepth 100000 in
theorem mX2_answerWant (l : Launch) (X : x_T) (σ : x_S) (j : Nat) (hj : j < 10) (sz : Nat) (u : x_H) (a1 : Int32) (a2 : Int32) (a3 : Int32) (r : x_H) (h : fX2_answerWant u a1 a2 a3 = some r) : Met l yX2_answerWant (x_ws yX2_answerWant cX2_answerWant 5 none) rm_X2_answerWant (x_Pc X (x_sh σ j u) sz [.ref (X.2.2 j 0), .int a1, .int a2, .int a3]) (x_Qv X (x_sh σ j r) sz) 0 0 (x_A X sz) := by
  refine Met.ofW (cc := cX2_answerWant) (maxL := 5) (ret := none) (by decide) rfl ?_
  intro p e s m args below meth c s₁ B hml hv
  obtain ⟨F, hI, rfl, rfl⟩ := x_begin B hml hv
  replace F : x_F p s m _ meth c cX2_answerWant 5 RX2 none := F
  have hx := F.1
  have hb := F.2.1
  have hml := F.2.2.1
  have hown := F.2.2.2.1
  have hts := F.2.2.2.2.1
  refine x_entry (vs := [.ref (X.2.2 j 0), .int a1, .int a2, .int a3]) (n := 5) (Nat.le_of_ble_eq_true rfl) (fun ls hl => ?_)
  replace hl : lv_has ls 5 [(0, .ref (X.2.2 j 0)), (1, .int a1), (2, .int a2), (3, .int a3)] := hl
  unfold fX2_answerWant at h
  refine lv_aload_n hx hb dX2_answerWant_0 rfl (lv_at hl 0 rfl) ?_
  refine xg_2_1 F hI (x_inH hj (by decide)) u_fl_X2_21 dX2_answerWant_1 ?_
  refine lv_iload_n hx hb dX2_answerWant_4 rfl (lv_at hl 2 rfl) ?_
  refine lv_iload_n hx hb dX2_answerWant_5 rfl (lv_at hl 1 rfl) ?_
  obtain ⟨r1, h2, h⟩ := x_bnd h
  refine x_aci hI (x_runV (rest := []) F hI (mX3_isHeldFor l X σ j hj _ u a2 a1 r1 h2) g_X2_137 ⟨rfl, hd_X3_isHeldFor⟩ ⟨by decide, by decide⟩ ⟨rfl, rfl⟩ (x_inH hj (by decide)) rfl rfl rfl rfl hl.1 rfl (Nat.le_of_ble_eq_true rfl) dX2_answerWant_6 ⟨Nat.zero_le _, Nat.zero_le _⟩) (fun H locs hI => ?_)
  refine lv_if_eq (tgt := 57) hx hb dX2_answerWant_9 (by decide) (fun c3 => ?_) (fun c3 => ?_)
  · have h := x_ift h c3
    refine lv_aload_n hx hb dX2_answerWant_57 rfl (lv_at hl 0 rfl) ?_
    refine lv_iconst (v := 4) hx hb dX2_answerWant_58 (by decide) ?_
    refine lv_iload_n hx hb dX2_answerWant_59 rfl (lv_at hl 1 rfl) ?_
    refine lv_iload_n hx hb dX2_answerWant_60 rfl (lv_at hl 2 rfl) ?_
    refine lv_iload_n hx hb dX2_answerWant_61 rfl (lv_at hl 3 rfl) ?_
    refine lv_iconst (v := 0) hx hb dX2_answerWant_62 (by decide) ?_
    obtain ⟨r4, h5, h⟩ := x_bnd h
    refine x_aci hI (x_runV (rest := []) F hI (mX2_send l X σ j hj _ u (4 : Int32) a1 a2 a3 (0 : Int32) r4 h5) g_X2_100 ⟨rfl, hd_X2_send⟩ ⟨by decide, by decide⟩ ⟨rfl, rfl⟩ (x_inH hj (by decide)) rfl rfl rfl rfl hl.1 rfl (Nat.le_of_ble_eq_true rfl) dX2_answerWant_63 ⟨Nat.zero_le _, Nat.zero_le _⟩) (fun H locs hI => ?_)
    refine lv_pop hx hb dX2_answerWant_66 rfl ?_
    rw [x_some h]
    exact x_vret F hI dX2_answerWant_67
  · have h := x_iff h c3
    refine lv_aload_n hx hb dX2_answerWant_12 rfl (lv_at hl 0 rfl) ?_
    refine lv_iconst (v := 3) hx hb dX2_answerWant_13 (by decide) ?_
    refine lv_iload_n hx hb dX2_answerWant_14 rfl (lv_at hl 1 rfl) ?_
    refine lv_iload_n hx hb dX2_answerWant_15 rfl (lv_at hl 2 rfl) ?_
    refine lv_iload_n hx hb dX2_answerWant_16 rfl (lv_at hl 3 rfl) ?_
    refine lv_aload_n hx hb dX2_answerWant_17 rfl (lv_at hl 0 rfl) ?_
    refine xg_2_1 F hI (x_inH hj (by decide)) u_fl_X2_21 dX2_answerWant_18 ?_
    refine xg_3_8 F hI (x_inH hj (by decide)) u_fl_X2_141 dX2_answerWant_21 ?_
    obtain ⟨r6, h7, h⟩ := x_bnd h
    refine x_aci hI (x_runV (rest := []) F hI (mX2_send l X σ j hj _ u (3 : Int32) a1 a2 a3 (u 2 1) r6 h7) g_X2_100 ⟨rfl, hd_X2_send⟩ ⟨by decide, by decide⟩ ⟨rfl, rfl⟩ (x_inH hj (by decide)) rfl rfl rfl rfl hl.1 rfl (Nat.le_of_ble_eq_true rfl) dX2_answerWant_24 ⟨Nat.zero_le _, Nat.zero_le _⟩) (fun H locs hI => ?_)
    refine lv_istore (lv' := [(4, .int r6.1), (0, .ref (X.2.2 j 0)), (1, .int a1), (2, .int a2), (3, .int a3)]) hx hb dX2_answerWant_27 hl (by decide) rfl (fun ls hl => ?_)
    refine lv_aload_n hx hb dX2_answerWant_29 rfl (lv_at hl 1 rfl) ?_
    refine xg_2_1 F hI (x_inH hj (by decide)) u_fl_X2_21 dX2_answerWant_30 ?_
    refine lv_iload_n hx hb dX2_answerWant_33 rfl (lv_at hl 3 rfl) ?_
    refine lv_iload_n hx hb dX2_answerWant_34 rfl (lv_at hl 2 rfl) ?_
    refine lv_aload_n hx hb dX2_answerWant_35 rfl (lv_at hl 1 rfl) ?_
    refine xg_2_4 F hI (x_inH hj (by decide)) u_fl_X2_50 dX2_answerWant_36 ?_
    refine lv_iload hx hb dX2_answerWant_39 (lv_at hl 0 rfl) ?_
    obtain ⟨r8, h9, h⟩ := x_bnd h
    refine x_acv hI (x_runV (rest := []) F hI (mX3_lease l X σ j hj _ r6.2 a2 a1 (r6.2 0 0) r6.1 r8 h9) g_X2_144 ⟨rfl, hd_X3_lease⟩ ⟨by decide, by decide⟩ ⟨rfl, rfl⟩ (x_inH hj (by decide)) rfl rfl rfl rfl hl.1 rfl (Nat.le_of_ble_eq_true rfl) dX2_answerWant_41 ⟨Nat.zero_le _, Nat.zero_le _⟩) (fun H locs hI => ?_)
    refine lv_aload_n hx hb dX2_answerWant_44 rfl (lv_at hl 1 rfl) ?_
    refine lv_dup hx hb dX2_answerWant_45 rfl ?_
    refine xg_2_8 F hI (x_inH hj (by decide)) u_fl_X2_63 dX2_answerWant_46 ?_
    refine lv_iconst (v := 1) hx hb dX2_answerWant_49 (by decide) ?_
    refine lv_iadd hx hb dX2_answerWant_50 ?_
    refine xp_2_8 F hI (x_inH hj (by decide)) u_fl_X2_63 dX2_answerWant_51 (fun H locs u10 e11 hI => ?_)
    have h := x_let_at h e11
    refine lv_goto (tgt := 67) hx hb dX2_answerWant_54 (by decide) ?_
    rw [x_some h]
    exact x_vret F hI dX2_answerWant_67
abbrev rm_X2_hearRefusal : Room := { frames := 2, cells := 0, slots := 0, locals := 45 }
def fX2_hearRefusal (u : x_H) (a1 : Int32) (a2 : Int32) (a3 : Int32) : Option x_H := (Option.bind (fX3_mayEnd u a2 a1 a3) fun r1 => (if r1 = 0 then some (u) else (Option.bind (fX3_shut u a2 (u 0 0)) fun r4 => x_let (x_hu r4 0 6 ((r4 0 6) + (1 : Int32))) fun u6 => some (u6))))
set_option maxHeartbeats 4000000 in
set_option maxRecDepth 100000 in
theorem mX2_hearRefusal (l : Launch) (X : x_T) (σ : x_S) (j : Nat) (hj : j < 10) (sz : Nat) (u : x_H) (a1 : Int32) (a2 : Int32) (a3 : Int32) (r : x_H) (h : fX2_hearRefusal u a1 a2 a3 = some r) : Met l yX2_hearRefusal (x_ws yX2_hearRefusal cX2_hearRefusal 4 none) rm_X2_hearRefusal (x_Pc X (x_sh σ j u) sz [.ref (X.2.2 j 0), .int a1, .int a2, .int a3]) (x_Qv X (x_sh σ j r) sz) 0 0 (x_A X sz) := by
  refine Met.ofW (cc := cX2_hearRefusal) (maxL := 4) (ret := none) (by decide) rfl ?_
  intro p e s m args below meth c s₁ B hml hv
  obtain ⟨F, hI, rfl, rfl⟩ := x_begin B hml hv
  replace F : x_F p s m _ meth c cX2_hearRefusal 4 RX2 none := F
  have hx := F.1
  have hb := F.2.1
  have hml := F.2.2.1
  have hown := F.2.2.2.1
  have hts := F.2.2.2.2.1
  refine x_entry (vs := [.ref (X.2.2 j 0), .int a1, .int a2, .int a3]) (n := 4) (Nat.le_of_ble_eq_true rfl) (fun ls hl => ?_)
  replace hl : lv_has ls 4 [(0, .ref (X.2.2 j 0)), (1, .int a1), (2, .int a2), (3, .int a3)] := hl
  unfold fX2_hearRefusal at h
  refine lv_aload_n hx hb dX2_hearRefusal_0 rfl (lv_at hl 0 rfl) ?_
  refine xg_2_1 F hI (x_inH hj (by decide)) u_fl_X2_21 dX2_hearRefusal_1 ?_
  refine lv_iload_n hx hb dX2_hearRefusal_4 rfl (lv_at hl 2 rfl) ?_
  refine lv_iload_n hx hb dX2_hearRefusal_5 rfl (lv_at hl 1 rfl) ?_
  refine lv_iload_n hx hb dX2_hearRefusal_6 rfl (lv_at hl 3 rfl) ?_
  obtain ⟨r1, h2, h⟩ := x_bnd h
  refine x_aci hI (x_runV (rest := []) F hI (mX3_mayEnd l X σ j hj _ u a2 a1 a3 r1 h2) g_X2_148 ⟨rfl, hd_X3_mayEnd⟩ ⟨by decide, by decide⟩ ⟨rfl, rfl⟩ (x_inH hj (by decide)) rfl rfl rfl rfl hl.1 rfl (Nat.le_of_ble_eq_true rfl) dX2_hearRefusal_7 ⟨Nat.zero_le _, Nat.zero_le _⟩) (fun H locs hI => ?_)
  refine lv_if_eq (tgt := 35) hx hb dX2_hearRefusal_10 (by decide) (fun c3 => ?_) (fun c3 => ?_)
  · have h := x_ift h c3
    rw [x_some h]
    exact x_vret F hI dX2_hearRefusal_35
  · have h := x_iff h c3
    refine lv_aload_n hx hb dX2_hearRefusal_13 rfl (lv_at hl 0 rfl) ?_
    refine xg_2_1 F hI (x_inH hj (by decide)) u_fl_X2_21 dX2_hearRefusal_14 ?_
    refine lv_iload_n hx hb dX2_hearRefusal_17 rfl (lv_at hl 2 rfl) ?_
    refine lv_aload_n hx hb dX2_hearRefusal_18 rfl (lv_at hl 0 rfl) ?_
    refine xg_2_4 F hI (x_inH hj (by decide)) u_fl_X2_50 dX2_hearRefusal_19 ?_
    obtain ⟨r4, h5, h⟩ := x_bnd h
    refine x_acv hI (x_runV (rest := []) F hI (mX3_shut l X σ j hj _ u a2 (u 0 0) r4 h5) g_X2_151 ⟨rfl, hd_X3_shut⟩ ⟨by decide, by decide⟩ ⟨rfl, rfl⟩ (x_inH hj (by decide)) rfl rfl rfl rfl hl.1 rfl (Nat.le_of_ble_eq_true rfl) dX2_hearRefusal_22 ⟨Nat.zero_le _, Nat.zero_le _⟩) (fun H locs hI => ?_)
    refine lv_aload_n hx hb dX2_hearRefusal_25 rfl (lv_at hl 0 rfl) ?_
    refine lv_dup hx hb dX2_hearRefusal_26 rfl ?_
    refine xg_2_10 F hI (x_inH hj (by decide)) u_fl_X2_69 dX2_hearRefusal_27 ?_
    refine lv_iconst (v := 1) hx hb dX2_hearRefusal_30 (by decide) ?_
    refine lv_iadd hx hb dX2_hearRefusal_31 ?_
    refine xp_2_10 F hI (x_inH hj (by decide)) u_fl_X2_69 dX2_hearRefusal_32 (fun H locs u6 e7 hI => ?_)
    have h := x_let_at h e7
    rw [x_some h]
    exact x_vret F hI dX2_hearRefusal_35
abbrev rm_X2_hearLeaving : Room := { frames := 2, cells := 0, slots := 0, locals := 45 }
def fX2_hearLeaving (u : x_H) (a1 : Int32) (a2 : Int32) (a3 : Int32) : Option x_H := (Option.bind (fX3_mayEnd u a2 a1 a3) fun r1 => (if r1 = 0 then some (u) else (Option.bind (fX3_free u a2) fun r4 => some (r4))))
set_option maxHeartbeats 4000000 in
set_option maxRecDepth 100000 in
theorem mX2_hearLeaving (l : Launch) (X : x_T) (σ : x_S) (j : Nat) (hj : j < 10) (sz : Nat) (u : x_H) (a1 : Int32) (a2 : Int32) (a3 : Int32) (r : x_H) (h : fX2_hearLeaving u a1 a2 a3 = some r) : Met l yX2_hearLeaving (x_ws yX2_hearLeaving cX2_hearLeaving 4 none) rm_X2_hearLeaving (x_Pc X (x_sh σ j u) sz [.ref (X.2.2 j 0), .int a1, .int a2, .int a3]) (x_Qv X (x_sh σ j r) sz) 0 0 (x_A X sz) := by
  refine Met.ofW (cc := cX2_hearLeaving) (maxL := 4) (ret := none) (by decide) rfl ?_
  intro p e s m args below meth c s₁ B hml hv
  obtain ⟨F, hI, rfl, rfl⟩ := x_begin B hml hv
  replace F : x_F p s m _ meth c cX2_hearLeaving 4 RX2 none := F
  have hx := F.1
  have hb := F.2.1
  have hml := F.2.2.1
  have hown := F.2.2.2.1
  have hts := F.2.2.2.2.1
  refine x_entry (vs := [.ref (X.2.2 j 0), .int a1, .int a2, .int a3]) (n := 4) (Nat.le_of_ble_eq_true rfl) (fun ls hl => ?_)
  replace hl : lv_has ls 4 [(0, .ref (X.2.2 j 0)), (1, .int a1), (2, .int a2), (3, .int a3)] := hl
  unfold fX2_hearLeaving at h
  refine lv_aload_n hx hb dX2_hearLeaving_0 rfl (lv_at hl 0 rfl) ?_
  refine xg_2_1 F hI (x_inH hj (by decide)) u_fl_X2_21 dX2_hearLeaving_1 ?_
  refine lv_iload_n hx hb dX2_hearLeaving_4 rfl (lv_at hl 2 rfl) ?_
  refine lv_iload_n hx hb dX2_hearLeaving_5 rfl (lv_at hl 1 rfl) ?_
  refine lv_iload_n hx hb dX2_hearLeaving_6 rfl (lv_at hl 3 rfl) ?_
  obtain ⟨r1, h2, h⟩ := x_bnd h
  refine x_aci hI (x_runV (rest := []) F hI (mX3_mayEnd l X σ j hj _ u a2 a1 a3 r1 h2) g_X2_148 ⟨rfl, hd_X3_mayEnd⟩ ⟨by decide, by decide⟩ ⟨rfl, rfl⟩ (x_inH hj (by decide)) rfl rfl rfl rfl hl.1 rfl (Nat.le_of_ble_eq_true rfl) dX2_hearLeaving_7 ⟨Nat.zero_le _, Nat.zero_le _⟩) (fun H locs hI => ?_)
  refine lv_if_eq (tgt := 21) hx hb dX2_hearLeaving_10 (by decide) (fun c3 => ?_) (fun c3 => ?_)
  · have h := x_ift h c3
    rw [x_some h]
    exact x_vret F hI dX2_hearLeaving_21
  · have h := x_iff h c3
    refine lv_aload_n hx hb dX2_hearLeaving_13 rfl (lv_at hl 0 rfl) ?_
    refine xg_2_1 F hI (x_inH hj (by decide)) u_fl_X2_21 dX2_hearLeaving_14 ?_
    refine lv_iload_n hx hb dX2_hearLeaving_17 rfl (lv_at hl 2 rfl) ?_
    obtain ⟨r4, h5, h⟩ := x_bnd h
    refine x_acv hI (x_runV (rest := []) F hI (mX3_free l X σ j hj _ u a2 r4 h5) g_X2_154 ⟨rfl, hd_X3_free⟩ ⟨by decide, by decide⟩ ⟨rfl, rfl⟩ (x_inH hj (by decide)) rfl rfl rfl rfl hl.1 rfl (Nat.le_of_ble_eq_true rfl) dX2_hearLeaving_18 ⟨Nat.zero_le _, Nat.zero_le _⟩) (fun H locs hI => ?_)
    rw [x_some h]
    exact x_vret F hI dX2_hearLeaving_21
abbrev rm_X2_deliverAt : Room := { frames := 3, cells := 0, slots := 0, locals := 71 }
def fX2_deliverAt (u : x_H) (a1 : Int32) : Option (Int32 × x_H) := (Option.bind (fX4_hasPlace u a1) fun r1 => (if r1 = 0 then some ((-1 : Int32), u) else (if x_in a1 60 then x_let (u 19 (Int32.toNatClampNeg a1)) fun x5 => x_let (u 20 (Int32.toNatClampNeg a1)) fun x7 => x_let (u 21 (Int32.toNatClampNeg a1)) fun x9 => x_let (u 22 (Int32.toNatClampNeg a1)) fun x11 => x_let (u 23 (Int32.toNatClampNeg a1)) fun x13 => x_let (u 24 (Int32.toNatClampNeg a1)) fun x15 => (Option.bind (fX4_remove u a1) fun r17 => x_let (x_hu r17 0 3 ((r17 0 3) + (1 : Int32))) fun u19 => (if x5 = 0 then (Option.bind (fX2_answerSeek u19 x7) fun r22 => some (x5, r22)) else (if x5 = 1 then (Option.bind (fX2_hearOffer u19 x7 x9) fun r25 => some (x5, r25)) else (if x5 = 2 then (Option.bind (fX2_answerWant u19 x7 x9 x11) fun r28 => some (x5, r28)) else (if x5 = 3 then (Option.bind (fX2_hearYes u19 x7 x9 x13 x15) fun r31 => some (x5, r31)) else (if x5 = 4 then (Option.bind (fX2_hearNo u19 x7 x9 x13) fun r34 => some (x5, r34)) else (if x5 = 5 then (Option.bind (fX2_hearRefusal u19 x7 x9 x11) fun r37 => some (x5, r37)) else (Option.bind (fX2_hearLeaving u19 x7 x9 x11) fun r39 => some (x5, r39))))))))) else none)))
set_option maxHeartbeats 4000000 in
set_option maxRecDepth 100000 in
theorem mX2_deliverAt (l : Launch) (X : x_T) (σ : x_S) (j : Nat) (hj : j < 10) (sz : Nat) (u : x_H) (a1 : Int32) (r : (Int32 × x_H)) (h : fX2_deliverAt u a1 = some r) : Met l yX2_deliverAt (x_ws yX2_deliverAt cX2_deliverAt 8 (some .int)) rm_X2_deliverAt (x_Pc X (x_sh σ j u) sz [.ref (X.2.2 j 0), .int a1]) (x_Qi X r.1 (x_sh σ j r.2) sz) 0 0 (x_A X sz) := by
  refine Met.ofW (cc := cX2_deliverAt) (maxL := 8) (ret := (some .int)) (by decide) rfl ?_
  intro p e s m args below meth c s₁ B hml hv
  obtain ⟨F, hI, rfl, rfl⟩ := x_begin B hml hv
  replace F : x_F p s m _ meth c cX2_deliverAt 8 RX2 (some .int) := F
  have hx := F.1
  have hb := F.2.1
  have hml := F.2.2.1
  have hown := F.2.2.2.1
  have hts := F.2.2.2.2.1
  refine x_entry (vs := [.ref (X.2.2 j 0), .int a1]) (n := 8) (Nat.le_of_ble_eq_true rfl) (fun ls hl => ?_)
  replace hl : lv_has ls 8 [(0, .ref (X.2.2 j 0)), (1, .int a1)] := hl
  unfold fX2_deliverAt at h
  refine lv_aload_n hx hb dX2_deliverAt_0 rfl (lv_at hl 0 rfl) ?_
  refine xg_2_2 F hI (x_inH hj (by decide)) u_fl_X2_28 dX2_deliverAt_1 ?_
  refine lv_iload_n hx hb dX2_deliverAt_4 rfl (lv_at hl 1 rfl) ?_
  obtain ⟨r1, h2, h⟩ := x_bnd h
  refine x_aci hI (x_runV (rest := []) F hI (mX4_hasPlace l X σ j hj _ u a1 r1 h2) g_X2_157 ⟨rfl, hd_X4_hasPlace⟩ ⟨by decide, by decide⟩ ⟨rfl, rfl⟩ (x_inH hj (by decide)) rfl rfl rfl rfl hl.1 rfl (Nat.le_of_ble_eq_true rfl) dX2_deliverAt_5 ⟨Nat.zero_le _, Nat.zero_le _⟩) (fun H locs hI => ?_)
  refine lv_if_ne (tgt := 13) hx hb dX2_deliverAt_8 (by decide) (fun c3 => ?_) (fun c3 => ?_)
  · have h := x_iff h c3
    refine lv_aload_n hx hb dX2_deliverAt_13 rfl (lv_at hl 0 rfl) ?_
    refine xg_2_2 F hI (x_inH hj (by decide)) u_fl_X2_28 dX2_deliverAt_14 ?_
    refine xg_4_0 F hI (x_inH hj (by decide)) u_fl_X2_75 dX2_deliverAt_17 ?_
    refine lv_iload_n hx hb dX2_deliverAt_20 rfl (lv_at hl 1 rfl) ?_
    obtain ⟨g4, h⟩ := x_chk h
    refine xh_iald (n := 60) F hI (x_inH hj (by decide)) (fun _ => rfl) g4 dX2_deliverAt_21 ?_
    refine lv_topi (fun x5 e6 => ?_)
    have h := x_let_at h e6
    refine lv_istore_n (lv' := [(2, .int x5), (0, .ref (X.2.2 j 0)), (1, .int a1)]) hx hb dX2_deliverAt_22 rfl hl (by decide) rfl (fun ls hl => ?_)
    refine lv_aload_n hx hb dX2_deliverAt_23 rfl (lv_at hl 1 rfl) ?_
    refine xg_2_2 F hI (x_inH hj (by decide)) u_fl_X2_28 dX2_deliverAt_24 ?_
    refine xg_4_1 F hI (x_inH hj (by decide)) u_fl_X2_78 dX2_deliverAt_27 ?_
    refine lv_iload_n hx hb dX2_deliverAt_30 rfl (lv_at hl 2 rfl) ?_
    refine xh_iald (n := 60) F hI (x_inH hj (by decide)) (fun _ => rfl) g4 dX2_deliverAt_31 ?_
    refine lv_topi (fun x7 e8 => ?_)
    have h := x_let_at h e8
    refine lv_istore_n (lv' := [(3, .int x7), (2, .int x5), (0, .ref (X.2.2 j 0)), (1, .int a1)]) hx hb dX2_deliverAt_32 rfl hl (by decide) rfl (fun ls hl => ?_)
    refine lv_aload_n hx hb dX2_deliverAt_33 rfl (lv_at hl 2 rfl) ?_
    refine xg_2_2 F hI (x_inH hj (by decide)) u_fl_X2_28 dX2_deliverAt_34 ?_
    refine xg_4_2 F hI (x_inH hj (by decide)) u_fl_X2_81 dX2_deliverAt_37 ?_
    refine lv_iload_n hx hb dX2_deliverAt_40 rfl (lv_at hl 3 rfl) ?_
    refine xh_iald (n := 60) F hI (x_inH hj (by decide)) (fun _ => rfl) g4 dX2_deliverAt_41 ?_
    refine lv_topi (fun x9 e10 => ?_)
    have h := x_let_at h e10
    refine lv_istore (lv' := [(4, .int x9), (3, .int x7), (2, .int x5), (0, .ref (X.2.2 j 0)), (1, .int a1)]) hx hb dX2_deliverAt_42 hl (by decide) rfl (fun ls hl => ?_)
    refine lv_aload_n hx hb dX2_deliverAt_44 rfl (lv_at hl 3 rfl) ?_
    refine xg_2_2 F hI (x_inH hj (by decide)) u_fl_X2_28 dX2_deliverAt_45 ?_
    refine xg_4_3 F hI (x_inH hj (by decide)) u_fl_X2_84 dX2_deliverAt_48 ?_
    refine lv_iload_n hx hb dX2_deliverAt_51 rfl (lv_at hl 4 rfl) ?_
    refine xh_iald (n := 60) F hI (x_inH hj (by decide)) (fun _ => rfl) g4 dX2_deliverAt_52 ?_
    refine lv_topi (fun x11 e12 => ?_)
    have h := x_let_at h e12
    refine lv_istore (lv' := [(5, .int x11), (4, .int x9), (3, .int x7), (2, .int x5), (0, .ref (X.2.2 j 0)), (1, .int a1)]) hx hb dX2_deliverAt_53 hl (by decide) rfl (fun ls hl => ?_)
    refine lv_aload_n hx hb dX2_deliverAt_55 rfl (lv_at hl 4 rfl) ?_
    refine xg_2_2 F hI (x_inH hj (by decide)) u_fl_X2_28 dX2_deliverAt_56 ?_
    refine xg_4_4 F hI (x_inH hj (by decide)) u_fl_X2_87 dX2_deliverAt_59 ?_
    refine lv_iload_n hx hb dX2_deliverAt_62 rfl (lv_at hl 5 rfl) ?_
    refine xh_iald (n := 60) F hI (x_inH hj (by decide)) (fun _ => rfl) g4 dX2_deliverAt_63 ?_
    refine lv_topi (fun x13 e14 => ?_)
    have h := x_let_at h e14
    refine lv_istore (lv' := [(6, .int x13), (5, .int x11), (4, .int x9), (3, .int x7), (2, .int x5), (0, .ref (X.2.2 j 0)), (1, .int a1)]) hx hb dX2_deliverAt_64 hl (by decide) rfl (fun ls hl => ?_)
    refine lv_aload_n hx hb dX2_deliverAt_66 rfl (lv_at hl 5 rfl) ?_
    refine xg_2_2 F hI (x_inH hj (by decide)) u_fl_X2_28 dX2_deliverAt_67 ?_
    refine xg_4_5 F hI (x_inH hj (by decide)) u_fl_X2_90 dX2_deliverAt_70 ?_
    refine lv_iload_n hx hb dX2_deliverAt_73 rfl (lv_at hl 6 rfl) ?_
    refine xh_iald (n := 60) F hI (x_inH hj (by decide)) (fun _ => rfl) g4 dX2_deliverAt_74 ?_
    refine lv_topi (fun x15 e16 => ?_)
    have h := x_let_at h e16
    refine lv_istore (lv' := [(7, .int x15), (6, .int x13), (5, .int x11), (4, .int x9), (3, .int x7), (2, .int x5), (0, .ref (X.2.2 j 0)), (1, .int a1)]) hx hb dX2_deliverAt_75 hl (by decide) rfl (fun ls hl => ?_)
    refine lv_aload_n hx hb dX2_deliverAt_77 rfl (lv_at hl 6 rfl) ?_
    refine xg_2_2 F hI (x_inH hj (by decide)) u_fl_X2_28 dX2_deliverAt_78 ?_
    refine lv_iload_n hx hb dX2_deliverAt_81 rfl (lv_at hl 7 rfl) ?_
    obtain ⟨r17, h18, h⟩ := x_bnd h
    refine x_acv hI (x_runV (rest := []) F hI (mX4_remove l X σ j hj _ u a1 r17 h18) g_X2_160 ⟨rfl, hd_X4_remove⟩ ⟨by decide, by decide⟩ ⟨rfl, rfl⟩ (x_inH hj (by decide)) rfl rfl rfl rfl hl.1 rfl (Nat.le_of_ble_eq_true rfl) dX2_deliverAt_82 ⟨Nat.zero_le _, Nat.zero_le _⟩) (fun H locs hI => ?_)
    refine lv_aload_n hx hb dX2_deliverAt_85 rfl (lv_at hl 6 rfl) ?_
    refine lv_dup hx hb dX2_deliverAt_86 rfl ?_
    refine xg_2_7 F hI (x_inH hj (by decide)) u_fl_X2_60 dX2_deliverAt_87 ?_
    refine lv_iconst (v := 1) hx hb dX2_deliverAt_90 (by decide) ?_
    refine lv_iadd hx hb dX2_deliverAt_91 ?_
    refine xp_2_7 F hI (x_inH hj (by decide)) u_fl_X2_60 dX2_deliverAt_92 (fun H locs u19 e20 hI => ?_)
    have h := x_let_at h e20
    refine lv_iload_n hx hb dX2_deliverAt_95 rfl (lv_at hl 5 rfl) ?_
    by_cases c21 : x5 = 0
    · have h := x_ift h c21
      refine lv_tableIn (tgt := 136) (off := 40) hx hb dX2_deliverAt_96 (by rw [c21]; decide) (by rw [c21]; decide) (by rw [c21]; rfl) (by decide) ?_
      refine lv_aload_n hx hb dX2_deliverAt_136 rfl (lv_at hl 6 rfl) ?_
      refine lv_iload_n hx hb dX2_deliverAt_137 rfl (lv_at hl 4 rfl) ?_
      obtain ⟨r22, h23, h⟩ := x_bnd h
      refine x_acv hI (x_runV (rest := []) F hI (mX2_answerSeek l X σ j hj _ u19 x7 r22 h23) g_X2_163 ⟨rfl, hd_X2_answerSeek⟩ ⟨by decide, by decide⟩ ⟨rfl, rfl⟩ (x_inH hj (by decide)) rfl rfl rfl rfl hl.1 rfl (Nat.le_of_ble_eq_true rfl) dX2_deliverAt_138 ⟨Nat.zero_le _, Nat.zero_le _⟩) (fun H locs hI => ?_)
      refine lv_goto (tgt := 213) hx hb dX2_deliverAt_141 (by decide) ?_
      refine lv_iload_n hx hb dX2_deliverAt_213 rfl (lv_at hl 5 rfl) ?_
      rw [x_some h]
      exact x_iret F hI dX2_deliverAt_214
    · have h := x_iff h c21
      by_cases c24 : x5 = 1
      · have h := x_ift h c24
        refine lv_tableIn (tgt := 144) (off := 48) hx hb dX2_deliverAt_96 (by rw [c24]; decide) (by rw [c24]; decide) (by rw [c24]; rfl) (by decide) ?_
        refine lv_aload_n hx hb dX2_deliverAt_144 rfl (lv_at hl 6 rfl) ?_
        refine lv_iload_n hx hb dX2_deliverAt_145 rfl (lv_at hl 4 rfl) ?_
        refine lv_iload hx hb dX2_deliverAt_146 (lv_at hl 3 rfl) ?_
        obtain ⟨r25, h26, h⟩ := x_bnd h
        refine x_acv hI (x_runV (rest := []) F hI (mX2_hearOffer l X σ j hj _ u19 x7 x9 r25 h26) g_X2_166 ⟨rfl, hd_X2_hearOffer⟩ ⟨by decide, by decide⟩ ⟨rfl, rfl⟩ (x_inH hj (by decide)) rfl rfl rfl rfl hl.1 rfl (Nat.le_of_ble_eq_true rfl) dX2_deliverAt_148 ⟨Nat.zero_le _, Nat.zero_le _⟩) (fun H locs hI => ?_)
        refine lv_goto (tgt := 213) hx hb dX2_deliverAt_151 (by decide) ?_
        refine lv_iload_n hx hb dX2_deliverAt_213 rfl (lv_at hl 5 rfl) ?_
        rw [x_some h]
        exact x_iret F hI dX2_deliverAt_214
      · have h := x_iff h c24
        by_cases c27 : x5 = 2
        · have h := x_ift h c27
          refine lv_tableIn (tgt := 154) (off := 58) hx hb dX2_deliverAt_96 (by rw [c27]; decide) (by rw [c27]; decide) (by rw [c27]; rfl) (by decide) ?_
          refine lv_aload_n hx hb dX2_deliverAt_154 rfl (lv_at hl 6 rfl) ?_
          refine lv_iload_n hx hb dX2_deliverAt_155 rfl (lv_at hl 4 rfl) ?_
          refine lv_iload hx hb dX2_deliverAt_156 (lv_at hl 3 rfl) ?_
          refine lv_iload hx hb dX2_deliverAt_158 (lv_at hl 2 rfl) ?_
          obtain ⟨r28, h29, h⟩ := x_bnd h
          refine x_acv hI (x_runV (rest := []) F hI (mX2_answerWant l X σ j hj _ u19 x7 x9 x11 r28 h29) g_X2_169 ⟨rfl, hd_X2_answerWant⟩ ⟨by decide, by decide⟩ ⟨rfl, rfl⟩ (x_inH hj (by decide)) rfl rfl rfl rfl hl.1 rfl (Nat.le_of_ble_eq_true rfl) dX2_deliverAt_160 ⟨Nat.zero_le _, Nat.zero_le _⟩) (fun H locs hI => ?_)
          refine lv_goto (tgt := 213) hx hb dX2_deliverAt_163 (by decide) ?_
          refine lv_iload_n hx hb dX2_deliverAt_213 rfl (lv_at hl 5 rfl) ?_
          rw [x_some h]
          exact x_iret F hI dX2_deliverAt_214
        · have h := x_iff h c27
          by_cases c30 : x5 = 3
          · have h := x_ift h c30
            refine lv_tableIn (tgt := 166) (off := 70) hx hb dX2_deliverAt_96 (by rw [c30]; decide) (by rw [c30]; decide) (by rw [c30]; rfl) (by decide) ?_
            refine lv_aload_n hx hb dX2_deliverAt_166 rfl (lv_at hl 6 rfl) ?_
            refine lv_iload_n hx hb dX2_deliverAt_167 rfl (lv_at hl 4 rfl) ?_
            refine lv_iload hx hb dX2_deliverAt_168 (lv_at hl 3 rfl) ?_
            refine lv_iload hx hb dX2_deliverAt_170 (lv_at hl 1 rfl) ?_
            refine lv_iload hx hb dX2_deliverAt_172 (lv_at hl 0 rfl) ?_
            obtain ⟨r31, h32, h⟩ := x_bnd h
            refine x_acv hI (x_runV (rest := []) F hI (mX2_hearYes l X σ j hj _ u19 x7 x9 x13 x15 r31 h32) g_X2_172 ⟨rfl, hd_X2_hearYes⟩ ⟨by decide, by decide⟩ ⟨rfl, rfl⟩ (x_inH hj (by decide)) rfl rfl rfl rfl hl.1 rfl (Nat.le_of_ble_eq_true rfl) dX2_deliverAt_174 ⟨Nat.zero_le _, Nat.zero_le _⟩) (fun H locs hI => ?_)
            refine lv_goto (tgt := 213) hx hb dX2_deliverAt_177 (by decide) ?_
            refine lv_iload_n hx hb dX2_deliverAt_213 rfl (lv_at hl 5 rfl) ?_
            rw [x_some h]
            exact x_iret F hI dX2_deliverAt_214
          · have h := x_iff h c30
            by_cases c33 : x5 = 4
            · have h := x_ift h c33
              refine lv_tableIn (tgt := 180) (off := 84) hx hb dX2_deliverAt_96 (by rw [c33]; decide) (by rw [c33]; decide) (by rw [c33]; rfl) (by decide) ?_
              refine lv_aload_n hx hb dX2_deliverAt_180 rfl (lv_at hl 6 rfl) ?_
              refine lv_iload_n hx hb dX2_deliverAt_181 rfl (lv_at hl 4 rfl) ?_
              refine lv_iload hx hb dX2_deliverAt_182 (lv_at hl 3 rfl) ?_
              refine lv_iload hx hb dX2_deliverAt_184 (lv_at hl 1 rfl) ?_
              obtain ⟨r34, h35, h⟩ := x_bnd h
              refine x_acv hI (x_runV (rest := []) F hI (mX2_hearNo l X σ j hj _ u19 x7 x9 x13 r34 h35) g_X2_175 ⟨rfl, hd_X2_hearNo⟩ ⟨by decide, by decide⟩ ⟨rfl, rfl⟩ (x_inH hj (by decide)) rfl rfl rfl rfl hl.1 rfl (Nat.le_of_ble_eq_true rfl) dX2_deliverAt_186 ⟨Nat.zero_le _, Nat.zero_le _⟩) (fun H locs hI => ?_)
              refine lv_goto (tgt := 213) hx hb dX2_deliverAt_189 (by decide) ?_
              refine lv_iload_n hx hb dX2_deliverAt_213 rfl (lv_at hl 5 rfl) ?_
              rw [x_some h]
              exact x_iret F hI dX2_deliverAt_214
            · have h := x_iff h c33
              by_cases c36 : x5 = 5
              · have h := x_ift h c36
                refine lv_tableIn (tgt := 192) (off := 96) hx hb dX2_deliverAt_96 (by rw [c36]; decide) (by rw [c36]; decide) (by rw [c36]; rfl) (by decide) ?_
                refine lv_aload_n hx hb dX2_deliverAt_192 rfl (lv_at hl 6 rfl) ?_
                refine lv_iload_n hx hb dX2_deliverAt_193 rfl (lv_at hl 4 rfl) ?_
                refine lv_iload hx hb dX2_deliverAt_194 (lv_at hl 3 rfl) ?_
                refine lv_iload hx hb dX2_deliverAt_196 (lv_at hl 2 rfl) ?_
                obtain ⟨r37, h38, h⟩ := x_bnd h
                refine x_acv hI (x_runV (rest := []) F hI (mX2_hearRefusal l X σ j hj _ u19 x7 x9 x11 r37 h38) g_X2_178 ⟨rfl, hd_X2_hearRefusal⟩ ⟨by decide, by decide⟩ ⟨rfl, rfl⟩ (x_inH hj (by decide)) rfl rfl rfl rfl hl.1 rfl (Nat.le_of_ble_eq_true rfl) dX2_deliverAt_198 ⟨Nat.zero_le _, Nat.zero_le _⟩) (fun H locs hI => ?_)
                refine lv_goto (tgt := 213) hx hb dX2_deliverAt_201 (by decide) ?_
                refine lv_iload_n hx hb dX2_deliverAt_213 rfl (lv_at hl 5 rfl) ?_
                rw [x_some h]
                exact x_iret F hI dX2_deliverAt_214
              · have h := x_iff h c36
                refine lv_tableOut (tgt := 204) hx hb dX2_deliverAt_96 (x_sw6 c21 c24 c27 c30 c33 c36) (by decide) ?_
                refine lv_aload_n hx hb dX2_deliverAt_204 rfl (lv_at hl 6 rfl) ?_
                refine lv_iload_n hx hb dX2_deliverAt_205 rfl (lv_at hl 4 rfl) ?_
                refine lv_iload hx hb dX2_deliverAt_206 (lv_at hl 3 rfl) ?_
                refine lv_iload hx hb dX2_deliverAt_208 (lv_at hl 2 rfl) ?_
                obtain ⟨r39, h40, h⟩ := x_bnd h
                refine x_acv hI (x_runV (rest := []) F hI (mX2_hearLeaving l X σ j hj _ u19 x7 x9 x11 r39 h40) g_X2_181 ⟨rfl, hd_X2_hearLeaving⟩ ⟨by decide, by decide⟩ ⟨rfl, rfl⟩ (x_inH hj (by decide)) rfl rfl rfl rfl hl.1 rfl (Nat.le_of_ble_eq_true rfl) dX2_deliverAt_210 ⟨Nat.zero_le _, Nat.zero_le _⟩) (fun H locs hI => ?_)
                refine lv_iload_n hx hb dX2_deliverAt_213 rfl (lv_at hl 5 rfl) ?_
                rw [x_some h]
                exact x_iret F hI dX2_deliverAt_214
  · have h := x_ift h c3
    refine lv_iconst (v := (-1)) hx hb dX2_deliverAt_11 (by decide) ?_
    rw [x_some h]
    exact x_iret F hI dX2_deliverAt_12
abbrev rm_X2_loseAt : Room := { frames := 3, cells := 0, slots := 0, locals := 69 }
def fX2_loseAt (u : x_H) (a1 : Int32) : Option (Int32 × x_H) := (Option.bind (fX4_hasPlace u a1) fun r1 => (if r1 = 0 then some ((-1 : Int32), u) else (if x_in a1 60 then x_let (u 19 (Int32.toNatClampNeg a1)) fun x5 => (Option.bind (fX4_remove u a1) fun r7 => x_let (x_hu r7 0 2 ((r7 0 2) + (1 : Int32))) fun u9 => some (x5, u9)) else none)))
set_option maxHeartbeats 4000000 in
set_option maxRecDepth 100000 in
theorem mX2_loseAt (l : Launch) (X : x_T) (σ : x_S) (j : Nat) (hj : j < 10) (sz : Nat) (u : x_H) (a1 : Int32) (r : (Int32 × x_H)) (h : fX2_loseAt u a1 = some r) : Met l yX2_loseAt (x_ws yX2_loseAt cX2_loseAt 3 (some .int)) rm_X2_loseAt (x_Pc X (x_sh σ j u) sz [.ref (X.2.2 j 0), .int a1]) (x_Qi X r.1 (x_sh σ j r.2) sz) 0 0 (x_A X sz) := by
  refine Met.ofW (cc := cX2_loseAt) (maxL := 3) (ret := (some .int)) (by decide) rfl ?_
  intro p e s m args below meth c s₁ B hml hv
  obtain ⟨F, hI, rfl, rfl⟩ := x_begin B hml hv
  replace F : x_F p s m _ meth c cX2_loseAt 3 RX2 (some .int) := F
  have hx := F.1
  have hb := F.2.1
  have hml := F.2.2.1
  have hown := F.2.2.2.1
  have hts := F.2.2.2.2.1
  refine x_entry (vs := [.ref (X.2.2 j 0), .int a1]) (n := 3) (Nat.le_of_ble_eq_true rfl) (fun ls hl => ?_)
  replace hl : lv_has ls 3 [(0, .ref (X.2.2 j 0)), (1, .int a1)] := hl
  unfold fX2_loseAt at h
  refine lv_aload_n hx hb dX2_loseAt_0 rfl (lv_at hl 0 rfl) ?_
  refine xg_2_2 F hI (x_inH hj (by decide)) u_fl_X2_28 dX2_loseAt_1 ?_
  refine lv_iload_n hx hb dX2_loseAt_4 rfl (lv_at hl 1 rfl) ?_
  obtain ⟨r1, h2, h⟩ := x_bnd h
  refine x_aci hI (x_runV (rest := []) F hI (mX4_hasPlace l X σ j hj _ u a1 r1 h2) g_X2_157 ⟨rfl, hd_X4_hasPlace⟩ ⟨by decide, by decide⟩ ⟨rfl, rfl⟩ (x_inH hj (by decide)) rfl rfl rfl rfl hl.1 rfl (Nat.le_of_ble_eq_true rfl) dX2_loseAt_5 ⟨Nat.zero_le _, Nat.zero_le _⟩) (fun H locs hI => ?_)
  refine lv_if_ne (tgt := 13) hx hb dX2_loseAt_8 (by decide) (fun c3 => ?_) (fun c3 => ?_)
  · have h := x_iff h c3
    refine lv_aload_n hx hb dX2_loseAt_13 rfl (lv_at hl 0 rfl) ?_
    refine xg_2_2 F hI (x_inH hj (by decide)) u_fl_X2_28 dX2_loseAt_14 ?_
    refine xg_4_0 F hI (x_inH hj (by decide)) u_fl_X2_75 dX2_loseAt_17 ?_
    refine lv_iload_n hx hb dX2_loseAt_20 rfl (lv_at hl 1 rfl) ?_
    obtain ⟨g4, h⟩ := x_chk h
    refine xh_iald (n := 60) F hI (x_inH hj (by decide)) (fun _ => rfl) g4 dX2_loseAt_21 ?_
    refine lv_topi (fun x5 e6 => ?_)
    have h := x_let_at h e6
    refine lv_istore_n (lv' := [(2, .int x5), (0, .ref (X.2.2 j 0)), (1, .int a1)]) hx hb dX2_loseAt_22 rfl hl (by decide) rfl (fun ls hl => ?_)
    refine lv_aload_n hx hb dX2_loseAt_23 rfl (lv_at hl 1 rfl) ?_
    refine xg_2_2 F hI (x_inH hj (by decide)) u_fl_X2_28 dX2_loseAt_24 ?_
    refine lv_iload_n hx hb dX2_loseAt_27 rfl (lv_at hl 2 rfl) ?_
    obtain ⟨r7, h8, h⟩ := x_bnd h
    refine x_acv hI (x_runV (rest := []) F hI (mX4_remove l X σ j hj _ u a1 r7 h8) g_X2_160 ⟨rfl, hd_X4_remove⟩ ⟨by decide, by decide⟩ ⟨rfl, rfl⟩ (x_inH hj (by decide)) rfl rfl rfl rfl hl.1 rfl (Nat.le_of_ble_eq_true rfl) dX2_loseAt_28 ⟨Nat.zero_le _, Nat.zero_le _⟩) (fun H locs hI => ?_)
    refine lv_aload_n hx hb dX2_loseAt_31 rfl (lv_at hl 1 rfl) ?_
    refine lv_dup hx hb dX2_loseAt_32 rfl ?_
    refine xg_2_6 F hI (x_inH hj (by decide)) u_fl_X2_57 dX2_loseAt_33 ?_
    refine lv_iconst (v := 1) hx hb dX2_loseAt_36 (by decide) ?_
    refine lv_iadd hx hb dX2_loseAt_37 ?_
    refine xp_2_6 F hI (x_inH hj (by decide)) u_fl_X2_57 dX2_loseAt_38 (fun H locs u9 e10 hI => ?_)
    have h := x_let_at h e10
    refine lv_iload_n hx hb dX2_loseAt_41 rfl (lv_at hl 0 rfl) ?_
    rw [x_some h]
    exact x_iret F hI dX2_loseAt_42
  · have h := x_ift h c3
    refine lv_iconst (v := (-1)) hx hb dX2_loseAt_11 (by decide) ?_
    rw [x_some h]
    exact x_iret F hI dX2_loseAt_12
abbrev rm_X2_deliverEach : Room := { frames := 4, cells := 0, slots := 0, locals := 98 }
def fX2_deliverEach_b2 : Nat → x_H → Int32 → Option (Int32 × x_H)
  | 0, _, _ => none
  | n + 1, u, y1 => (if (u 3 0) ≤ 0 then some (y1, u) else (if (300 : Int32) ≤ y1 then some (y1, u) else (Option.bind (fX2_deliverAt u (0 : Int32)) fun r3 => x_let (y1 + (1 : Int32)) fun x5 => fX2_deliverEach_b2 n r3.2 x5)))
set_option maxHeartbeats 4000000 in
set_option maxRecDepth 100000 in
theorem wX2_deliverEach_b2 {p : Program} {l : Launch} {e : Env} {s : State} {m : MethodId} {args : Array Value} {below : List Frame} {meth : Method} {c : Code} {X : x_T} {σ : x_S} {r : (Int32 × x_H)} {j : Nat} (hj : j < 10) (F : x_F p s m args meth c cX2_deliverEach 2 RX2 (some .int)) : ∀ (n : Nat) (u : x_H) (y1 : Int32) (H : Heap) (locs : List Loc) (ls : Array Slot), fX2_deliverEach_b2 n u y1 = some r → x_I X (x_sh σ j u) s H locs → lv_has ls 2 [(0, .ref (X.2.2 j 0)), (1, .int y1)] → W p l e rm_X2_deliverEach s m args below meth c H locs 0 0 (MQ below (x_Qi X r.1 (x_sh σ j r.2) s.heap.size) args s 0 0 (x_A X s.heap.size)) (F0 m 2 ls []) := by
  have hx := F.1
  have hb := F.2.1
  have hml := F.2.2.1
  have hown := F.2.2.2.1
  have hts := F.2.2.2.2.1
  intro n
  induction n with
  | zero =>
    intro u y1 H locs ls h
    rw [fX2_deliverEach_b2] at h
    cases h
  | succ n ih =>
    intro u y1 H locs ls h hI hl
    rw [fX2_deliverEach_b2] at h
    refine lv_aload_n hx hb dX2_deliverEach_2 rfl (lv_at hl 0 rfl) ?_
    refine xg_2_2 F hI (x_inH hj (by decide)) u_fl_X2_28 dX2_deliverEach_3 ?_
    refine xg_4_6 F hI (x_inH hj (by decide)) u_fl_X2_72 dX2_deliverEach_6 ?_
    refine lv_if_le (tgt := 31) hx hb dX2_deliverEach_9 (by decide) (fun c1 => ?_) (fun c1 => ?_)
    · have h := x_ift h c1
      refine lv_iload_n hx hb dX2_deliverEach_31 rfl (lv_at hl 1 rfl) ?_
      rw [x_some h]
      exact x_iret F hI dX2_deliverEach_32
    · have h := x_iff h c1
      refine lv_iload_n hx hb dX2_deliverEach_12 rfl (lv_at hl 1 rfl) ?_
      refine lv_sipush (v := 300) hx hb dX2_deliverEach_13 (by decide) ?_
      refine lv_icmp_ge (tgt := 31) hx hb dX2_deliverEach_16 (by decide) (fun c2 => ?_) (fun c2 => ?_)
      · have h := x_ift h c2
        refine lv_iload_n hx hb dX2_deliverEach_31 rfl (lv_at hl 1 rfl) ?_
        rw [x_some h]
        exact x_iret F hI dX2_deliverEach_32
      · have h := x_iff h c2
        refine lv_aload_n hx hb dX2_deliverEach_19 rfl (lv_at hl 0 rfl) ?_
        refine lv_iconst (v := 0) hx hb dX2_deliverEach_20 (by decide) ?_
        obtain ⟨r3, h4, h⟩ := x_bnd h
        refine x_aci hI (x_runV (rest := []) F hI (mX2_deliverAt l X σ j hj _ u (0 : Int32) r3 h4) g_X2_184 ⟨rfl, hd_X2_deliverAt⟩ ⟨by decide, by decide⟩ ⟨rfl, rfl⟩ (x_inH hj (by decide)) rfl rfl rfl rfl hl.1 rfl (Nat.le_of_ble_eq_true rfl) dX2_deliverEach_21 ⟨Nat.zero_le _, Nat.zero_le _⟩) (fun H locs hI => ?_)
        refine lv_pop hx hb dX2_deliverEach_24 rfl ?_
        obtain ⟨x5, e6⟩ : ∃ z : Int32, z = (y1 + (1 : Int32)) := ⟨_, rfl⟩
        have h := x_let_at h e6
        refine lv_iinc (v := x5) (lv' := [(1, .int x5), (0, .ref (X.2.2 j 0))]) hx hb dX2_deliverEach_25 hl (k := 1) rfl (by rw [e6]; rfl) (by decide) rfl (fun ls hl => ?_)
        refine lv_goto (tgt := 2) hx hb dX2_deliverEach_28 (by decide) ?_
        exact ih r3.2 x5 _ _ _ h hI (lv_sub hl [1, 0] rfl)
def fX2_deliverEach (u : x_H) : Option (Int32 × x_H) := fX2_deliverEach_b2 400 u (0 : Int32)
set_option maxHeartbeats 4000000 in
set_option maxRecDepth 100000 in
theorem mX2_deliverEach (l : Launch) (X : x_T) (σ : x_S) (j : Nat) (hj : j < 10) (sz : Nat) (u : x_H) (r : (Int32 × x_H)) (h : fX2_deliverEach u  = some r) : Met l yX2_deliverEach (x_ws yX2_deliverEach cX2_deliverEach 2 (some .int)) rm_X2_deliverEach (x_Pc X (x_sh σ j u) sz [.ref (X.2.2 j 0)]) (x_Qi X r.1 (x_sh σ j r.2) sz) 0 0 (x_A X sz) := by
  refine Met.ofW (cc := cX2_deliverEach) (maxL := 2) (ret := (some .int)) (by decide) rfl ?_
  intro p e s m args below meth c s₁ B hml hv
  obtain ⟨F, hI, rfl, rfl⟩ := x_begin B hml hv
  replace F : x_F p s m _ meth c cX2_deliverEach 2 RX2 (some .int) := F
  have hx := F.1
  have hb := F.2.1
  have hml := F.2.2.1
  have hown := F.2.2.2.1
  have hts := F.2.2.2.2.1
  refine x_entry (vs := [.ref (X.2.2 j 0)]) (n := 2) (Nat.le_of_ble_eq_true rfl) (fun ls hl => ?_)
  replace hl : lv_has ls 2 [(0, .ref (X.2.2 j 0))] := hl
  unfold fX2_deliverEach at h
  refine lv_iconst (v := 0) hx hb dX2_deliverEach_0 (by decide) ?_
  refine lv_istore_n (lv' := [(1, .int (0)), (0, .ref (X.2.2 j 0))]) hx hb dX2_deliverEach_1 rfl hl (by decide) rfl (fun ls hl => ?_)
  exact wX2_deliverEach_b2 hj F 400 u (0 : Int32) _ _ _ h hI (lv_sub hl [1, 0] rfl)
abbrev rm_X2_tickGuests : Room := { frames := 2, cells := 0, slots := 0, locals := 48 }
def fX2_tickGuests_b4 : Nat → x_H → Int32 → Int32 → Option (Int32 × x_H)
  | 0, _, _, _ => none
  | n + 1, u, y1, y2 => (if (12 : Int32) ≤ y2 then some (y1, u) else (if x_in y2 12 then (if (u 5 (Int32.toNatClampNeg y2)) = (3 : Int32) then (Option.bind (fX1_ticksUntilEnd u y2 (u 0 0)) fun r4 => (if r4 = 0 then (Option.bind (fX1_rest u y2) fun r7 => x_let (x_hu r7 0 5 ((r7 0 5) + (1 : Int32))) fun u9 => x_let (y1 + (1 : Int32)) fun x11 => x_let (y2 + (1 : Int32)) fun x13 => fX2_tickGuests_b4 n u9 x11 x13) else (Option.bind (fX1_asksAt u y2 (u 0 0)) fun r15 => (if r15 = 0 then x_let (y2 + (1 : Int32)) fun x18 => fX2_tickGuests_b4 n u y1 x18 else (Option.bind (fX2_sendWant u y2) fun r20 => x_let (y2 + (1 : Int32)) fun x22 => fX2_tickGuests_b4 n r20 y1 x22))))) else (Option.bind (fX1_asksAt u y2 (u 0 0)) fun r24 => (if r24 = 0 then x_let (y2 + (1 : Int32)) fun x27 => fX2_tickGuests_b4 n u y1 x27 else (Option.bind (fX2_sendWant u y2) fun r29 => x_let (y2 + (1 : Int32)) fun x31 => fX2_tickGuests_b4 n r29 y1 x31)))) else none))
set_option maxHeartbeats 4000000 in
set_option maxRecDepth 100000 in
theorem wX2_tickGuests_b4 {p : Program} {l : Launch} {e : Env} {s : State} {m : MethodId} {args : Array Value} {below : List Frame} {meth : Method} {c : Code} {X : x_T} {σ : x_S} {r : (Int32 × x_H)} {j : Nat} (hj : j < 10) (F : x_F p s m args meth c cX2_tickGuests 3 RX2 (some .int)) : ∀ (n : Nat) (u : x_H) (y1 : Int32) (y2 : Int32) (H : Heap) (locs : List Loc) (ls : Array Slot), fX2_tickGuests_b4 n u y1 y2 = some r → x_I X (x_sh σ j u) s H locs → lv_has ls 3 [(0, .ref (X.2.2 j 0)), (1, .int y1), (2, .int y2)] → W p l e rm_X2_tickGuests s m args below meth c H locs 0 0 (MQ below (x_Qi X r.1 (x_sh σ j r.2) s.heap.size) args s 0 0 (x_A X s.heap.size)) (F0 m 4 ls []) := by
  have hx := F.1
  have hb := F.2.1
  have hml := F.2.2.1
  have hown := F.2.2.2.1
  have hts := F.2.2.2.2.1
  intro n
  induction n with
  | zero =>
    intro u y1 y2 H locs ls h
    rw [fX2_tickGuests_b4] at h
    cases h
  | succ n ih =>
    intro u y1 y2 H locs ls h hI hl
    rw [fX2_tickGuests_b4] at h
    refine lv_iload_n hx hb dX2_tickGuests_4 rfl (lv_at hl 2 rfl) ?_
    refine lv_bipush (v := 12) hx hb dX2_tickGuests_5 (by decide) ?_
    refine lv_icmp_ge (tgt := 88) hx hb dX2_tickGuests_7 (by decide) (fun c1 => ?_) (fun c1 => ?_)
    · have h := x_ift h c1
      refine lv_iload_n hx hb dX2_tickGuests_88 rfl (lv_at hl 1 rfl) ?_
      rw [x_some h]
      exact x_iret F hI dX2_tickGuests_89
    · have h := x_iff h c1
      refine lv_aload_n hx hb dX2_tickGuests_10 rfl (lv_at hl 0 rfl) ?_
      refine xg_2_0 F hI (x_inH hj (by decide)) u_fl_X2_12 dX2_tickGuests_11 ?_
      refine xg_1_0 F hI (x_inH hj (by decide)) u_fl_X2_97 dX2_tickGuests_14 ?_
      refine lv_iload_n hx hb dX2_tickGuests_17 rfl (lv_at hl 2 rfl) ?_
      obtain ⟨g2, h⟩ := x_chk h
      refine xh_iald (n := 12) F hI (x_inH hj (by decide)) (fun _ => rfl) g2 dX2_tickGuests_18 ?_
      refine lv_iconst (v := 3) hx hb dX2_tickGuests_19 (by decide) ?_
      refine lv_icmp_ne (tgt := 62) hx hb dX2_tickGuests_20 (by decide) (fun c3 => ?_) (fun c3 => ?_)
      · have h := x_iff h c3
        refine lv_aload_n hx hb dX2_tickGuests_62 rfl (lv_at hl 0 rfl) ?_
        refine xg_2_0 F hI (x_inH hj (by decide)) u_fl_X2_12 dX2_tickGuests_63 ?_
        refine lv_iload_n hx hb dX2_tickGuests_66 rfl (lv_at hl 2 rfl) ?_
        refine lv_aload_n hx hb dX2_tickGuests_67 rfl (lv_at hl 0 rfl) ?_
        refine xg_2_4 F hI (x_inH hj (by decide)) u_fl_X2_50 dX2_tickGuests_68 ?_
        obtain ⟨r24, h25, h⟩ := x_bnd h
        refine x_aci hI (x_runV (rest := []) F hI (mX1_asksAt l X σ j hj _ u y2 (u 0 0) r24 h25) g_X2_198 ⟨rfl, hd_X1_asksAt⟩ ⟨by decide, by decide⟩ ⟨rfl, rfl⟩ (x_inH hj (by decide)) rfl rfl rfl rfl hl.1 rfl (Nat.le_of_ble_eq_true rfl) dX2_tickGuests_71 ⟨Nat.zero_le _, Nat.zero_le _⟩) (fun H locs hI => ?_)
        refine lv_if_eq (tgt := 82) hx hb dX2_tickGuests_74 (by decide) (fun c26 => ?_) (fun c26 => ?_)
        · have h := x_ift h c26
          obtain ⟨x27, e28⟩ : ∃ z : Int32, z = (y2 + (1 : Int32)) := ⟨_, rfl⟩
          have h := x_let_at h e28
          refine lv_iinc (v := x27) (lv' := [(2, .int x27), (0, .ref (X.2.2 j 0)), (1, .int y1)]) hx hb dX2_tickGuests_82 hl (k := 2) rfl (by rw [e28]; rfl) (by decide) rfl (fun ls hl => ?_)
          refine lv_goto (tgt := 4) hx hb dX2_tickGuests_85 (by decide) ?_
          exact ih u y1 x27 _ _ _ h hI (lv_sub hl [1, 2, 0] rfl)
        · have h := x_iff h c26
          refine lv_aload_n hx hb dX2_tickGuests_77 rfl (lv_at hl 0 rfl) ?_
          refine lv_iload_n hx hb dX2_tickGuests_78 rfl (lv_at hl 2 rfl) ?_
          obtain ⟨r29, h30, h⟩ := x_bnd h
          refine x_acv hI (x_runV (rest := []) F hI (mX2_sendWant l X σ j hj _ u y2 r29 h30) g_X2_118 ⟨rfl, hd_X2_sendWant⟩ ⟨by decide, by decide⟩ ⟨rfl, rfl⟩ (x_inH hj (by decide)) rfl rfl rfl rfl hl.1 rfl (Nat.le_of_ble_eq_true rfl) dX2_tickGuests_79 ⟨Nat.zero_le _, Nat.zero_le _⟩) (fun H locs hI => ?_)
          obtain ⟨x31, e32⟩ : ∃ z : Int32, z = (y2 + (1 : Int32)) := ⟨_, rfl⟩
          have h := x_let_at h e32
          refine lv_iinc (v := x31) (lv' := [(2, .int x31), (0, .ref (X.2.2 j 0)), (1, .int y1)]) hx hb dX2_tickGuests_82 hl (k := 2) rfl (by rw [e32]; rfl) (by decide) rfl (fun ls hl => ?_)
          refine lv_goto (tgt := 4) hx hb dX2_tickGuests_85 (by decide) ?_
          exact ih r29 y1 x31 _ _ _ h hI (lv_sub hl [1, 2, 0] rfl)
      · have h := x_ift h c3
        refine lv_aload_n hx hb dX2_tickGuests_23 rfl (lv_at hl 0 rfl) ?_
        refine xg_2_0 F hI (x_inH hj (by decide)) u_fl_X2_12 dX2_tickGuests_24 ?_
        refine lv_iload_n hx hb dX2_tickGuests_27 rfl (lv_at hl 2 rfl) ?_
        refine lv_aload_n hx hb dX2_tickGuests_28 rfl (lv_at hl 0 rfl) ?_
        refine xg_2_4 F hI (x_inH hj (by decide)) u_fl_X2_50 dX2_tickGuests_29 ?_
        obtain ⟨r4, h5, h⟩ := x_bnd h
        refine x_aci hI (x_runV (rest := []) F hI (mX1_ticksUntilEnd l X σ j hj _ u y2 (u 0 0) r4 h5) g_X2_194 ⟨rfl, hd_X1_ticksUntilEnd⟩ ⟨by decide, by decide⟩ ⟨rfl, rfl⟩ (x_inH hj (by decide)) rfl rfl rfl rfl hl.1 rfl (Nat.le_of_ble_eq_true rfl) dX2_tickGuests_32 ⟨Nat.zero_le _, Nat.zero_le _⟩) (fun H locs hI => ?_)
        refine lv_if_ne (tgt := 62) hx hb dX2_tickGuests_35 (by decide) (fun c6 => ?_) (fun c6 => ?_)
        · have h := x_iff h c6
          refine lv_aload_n hx hb dX2_tickGuests_62 rfl (lv_at hl 0 rfl) ?_
          refine xg_2_0 F hI (x_inH hj (by decide)) u_fl_X2_12 dX2_tickGuests_63 ?_
          refine lv_iload_n hx hb dX2_tickGuests_66 rfl (lv_at hl 2 rfl) ?_
          refine lv_aload_n hx hb dX2_tickGuests_67 rfl (lv_at hl 0 rfl) ?_
          refine xg_2_4 F hI (x_inH hj (by decide)) u_fl_X2_50 dX2_tickGuests_68 ?_
          obtain ⟨r15, h16, h⟩ := x_bnd h
          refine x_aci hI (x_runV (rest := []) F hI (mX1_asksAt l X σ j hj _ u y2 (u 0 0) r15 h16) g_X2_198 ⟨rfl, hd_X1_asksAt⟩ ⟨by decide, by decide⟩ ⟨rfl, rfl⟩ (x_inH hj (by decide)) rfl rfl rfl rfl hl.1 rfl (Nat.le_of_ble_eq_true rfl) dX2_tickGuests_71 ⟨Nat.zero_le _, Nat.zero_le _⟩) (fun H locs hI => ?_)
          refine lv_if_eq (tgt := 82) hx hb dX2_tickGuests_74 (by decide) (fun c17 => ?_) (fun c17 => ?_)
          · have h := x_ift h c17
            obtain ⟨x18, e19⟩ : ∃ z : Int32, z = (y2 + (1 : Int32)) := ⟨_, rfl⟩
            have h := x_let_at h e19
            refine lv_iinc (v := x18) (lv' := [(2, .int x18), (0, .ref (X.2.2 j 0)), (1, .int y1)]) hx hb dX2_tickGuests_82 hl (k := 2) rfl (by rw [e19]; rfl) (by decide) rfl (fun ls hl => ?_)
            refine lv_goto (tgt := 4) hx hb dX2_tickGuests_85 (by decide) ?_
            exact ih u y1 x18 _ _ _ h hI (lv_sub hl [1, 2, 0] rfl)
          · have h := x_iff h c17
            refine lv_aload_n hx hb dX2_tickGuests_77 rfl (lv_at hl 0 rfl) ?_
            refine lv_iload_n hx hb dX2_tickGuests_78 rfl (lv_at hl 2 rfl) ?_
            obtain ⟨r20, h21, h⟩ := x_bnd h
            refine x_acv hI (x_runV (rest := []) F hI (mX2_sendWant l X σ j hj _ u y2 r20 h21) g_X2_118 ⟨rfl, hd_X2_sendWant⟩ ⟨by decide, by decide⟩ ⟨rfl, rfl⟩ (x_inH hj (by decide)) rfl rfl rfl rfl hl.1 rfl (Nat.le_of_ble_eq_true rfl) dX2_tickGuests_79 ⟨Nat.zero_le _, Nat.zero_le _⟩) (fun H locs hI => ?_)
            obtain ⟨x22, e23⟩ : ∃ z : Int32, z = (y2 + (1 : Int32)) := ⟨_, rfl⟩
            have h := x_let_at h e23
            refine lv_iinc (v := x22) (lv' := [(2, .int x22), (0, .ref (X.2.2 j 0)), (1, .int y1)]) hx hb dX2_tickGuests_82 hl (k := 2) rfl (by rw [e23]; rfl) (by decide) rfl (fun ls hl => ?_)
            refine lv_goto (tgt := 4) hx hb dX2_tickGuests_85 (by decide) ?_
            exact ih r20 y1 x22 _ _ _ h hI (lv_sub hl [1, 2, 0] rfl)
        · have h := x_ift h c6
          refine lv_aload_n hx hb dX2_tickGuests_38 rfl (lv_at hl 0 rfl) ?_
          refine xg_2_0 F hI (x_inH hj (by decide)) u_fl_X2_12 dX2_tickGuests_39 ?_
          refine lv_iload_n hx hb dX2_tickGuests_42 rfl (lv_at hl 2 rfl) ?_
          obtain ⟨r7, h8, h⟩ := x_bnd h
          refine x_acv hI (x_runV (rest := []) F hI (mX1_rest l X σ j hj _ u y2 r7 h8) g_X2_111 ⟨rfl, hd_X1_rest⟩ ⟨by decide, by decide⟩ ⟨rfl, rfl⟩ (x_inH hj (by decide)) rfl rfl rfl rfl hl.1 rfl (Nat.le_of_ble_eq_true rfl) dX2_tickGuests_43 ⟨Nat.zero_le _, Nat.zero_le _⟩) (fun H locs hI => ?_)
          refine lv_aload_n hx hb dX2_tickGuests_46 rfl (lv_at hl 0 rfl) ?_
          refine lv_dup hx hb dX2_tickGuests_47 rfl ?_
          refine xg_2_9 F hI (x_inH hj (by decide)) u_fl_X2_66 dX2_tickGuests_48 ?_
          refine lv_iconst (v := 1) hx hb dX2_tickGuests_51 (by decide) ?_
          refine lv_iadd hx hb dX2_tickGuests_52 ?_
          refine xp_2_9 F hI (x_inH hj (by decide)) u_fl_X2_66 dX2_tickGuests_53 (fun H locs u9 e10 hI => ?_)
          have h := x_let_at h e10
          obtain ⟨x11, e12⟩ : ∃ z : Int32, z = (y1 + (1 : Int32)) := ⟨_, rfl⟩
          have h := x_let_at h e12
          refine lv_iinc (v := x11) (lv' := [(1, .int x11), (0, .ref (X.2.2 j 0)), (2, .int y2)]) hx hb dX2_tickGuests_56 hl (k := 1) rfl (by rw [e12]; rfl) (by decide) rfl (fun ls hl => ?_)
          refine lv_goto (tgt := 82) hx hb dX2_tickGuests_59 (by decide) ?_
          obtain ⟨x13, e14⟩ : ∃ z : Int32, z = (y2 + (1 : Int32)) := ⟨_, rfl⟩
          have h := x_let_at h e14
          refine lv_iinc (v := x13) (lv' := [(2, .int x13), (1, .int x11), (0, .ref (X.2.2 j 0))]) hx hb dX2_tickGuests_82 hl (k := 2) rfl (by rw [e14]; rfl) (by decide) rfl (fun ls hl => ?_)
          refine lv_goto (tgt := 4) hx hb dX2_tickGuests_85 (by decide) ?_
          exact ih u9 x11 x13 _ _ _ h hI (lv_sub hl [2, 1, 0] rfl)
def fX2_tickGuests (u : x_H) : Option (Int32 × x_H) := fX2_tickGuests_b4 400 u (0 : Int32) (0 : Int32)
set_option maxHeartbeats 4000000 in
set_option maxRecDepth 100000 in
theorem mX2_tickGuests (l : Launch) (X : x_T) (σ : x_S) (j : Nat) (hj : j < 10) (sz : Nat) (u : x_H) (r : (Int32 × x_H)) (h : fX2_tickGuests u  = some r) : Met l yX2_tickGuests (x_ws yX2_tickGuests cX2_tickGuests 3 (some .int)) rm_X2_tickGuests (x_Pc X (x_sh σ j u) sz [.ref (X.2.2 j 0)]) (x_Qi X r.1 (x_sh σ j r.2) sz) 0 0 (x_A X sz) := by
  refine Met.ofW (cc := cX2_tickGuests) (maxL := 3) (ret := (some .int)) (by decide) rfl ?_
  intro p e s m args below meth c s₁ B hml hv
  obtain ⟨F, hI, rfl, rfl⟩ := x_begin B hml hv
  replace F : x_F p s m _ meth c cX2_tickGuests 3 RX2 (some .int) := F
  have hx := F.1
  have hb := F.2.1
  have hml := F.2.2.1
  have hown := F.2.2.2.1
  have hts := F.2.2.2.2.1
  refine x_entry (vs := [.ref (X.2.2 j 0)]) (n := 3) (Nat.le_of_ble_eq_true rfl) (fun ls hl => ?_)
  replace hl : lv_has ls 3 [(0, .ref (X.2.2 j 0))] := hl
  unfold fX2_tickGuests at h
  refine lv_iconst (v := 0) hx hb dX2_tickGuests_0 (by decide) ?_
  refine lv_istore_n (lv' := [(1, .int (0)), (0, .ref (X.2.2 j 0))]) hx hb dX2_tickGuests_1 rfl hl (by decide) rfl (fun ls hl => ?_)
  refine lv_iconst (v := 0) hx hb dX2_tickGuests_2 (by decide) ?_
  refine lv_istore_n (lv' := [(2, .int (0)), (1, .int (0)), (0, .ref (X.2.2 j 0))]) hx hb dX2_tickGuests_3 rfl hl (by decide) rfl (fun ls hl => ?_)
  exact wX2_tickGuests_b4 hj F 400 u (0 : Int32) (0 : Int32) _ _ _ h hI (lv_sub hl [2, 1, 0] rfl)
abbrev rm_X2_letTicksGo : Room := { frames := 3, cells := 0, slots := 0, locals := 70 }
def fX2_letTicksGo_b4 : Nat → x_H → Int32 → Int32 → Int32 → Option (Int32 × x_H)
  | 0, _, _, _, _ => none
  | n + 1, u, y1, y2, y3 => (if y1 ≤ y3 then some (y2, u) else (if (100 : Int32) ≤ y3 then some (y2, u) else x_let (x_hu u 0 0 ((u 0 0) + (1 : Int32))) fun u3 => (Option.bind (fX3_freeEnded u3 (u3 0 0)) fun r5 => (Option.bind (fX2_tickGuests r5.2 ) fun r7 => x_let (y2 + r7.1) fun x9 => x_let (y3 + (1 : Int32)) fun x11 => fX2_letTicksGo_b4 n r7.2 y1 x9 x11))))
set_option maxHeartbeats 4000000 in
set_option maxRecDepth 100000 in
theorem wX2_letTicksGo_b4 {p : Program} {l : Launch} {e : Env} {s : State} {m : MethodId} {args : Array Value} {below : List Frame} {meth : Method} {c : Code} {X : x_T} {σ : x_S} {r : (Int32 × x_H)} {j : Nat} (hj : j < 10) (F : x_F p s m args meth c cX2_letTicksGo 4 RX2 (some .int)) : ∀ (n : Nat) (u : x_H) (y1 : Int32) (y2 : Int32) (y3 : Int32) (H : Heap) (locs : List Loc) (ls : Array Slot), fX2_letTicksGo_b4 n u y1 y2 y3 = some r → x_I X (x_sh σ j u) s H locs → lv_has ls 4 [(0, .ref (X.2.2 j 0)), (1, .int y1), (2, .int y2), (3, .int y3)] → W p l e rm_X2_letTicksGo s m args below meth c H locs 0 0 (MQ below (x_Qi X r.1 (x_sh σ j r.2) s.heap.size) args s 0 0 (x_A X s.heap.size)) (F0 m 4 ls []) := by
  have hx := F.1
  have hb := F.2.1
  have hml := F.2.2.1
  have hown := F.2.2.2.1
  have hts := F.2.2.2.2.1
  intro n
  induction n with
  | zero =>
    intro u y1 y2 y3 H locs ls h
    rw [fX2_letTicksGo_b4] at h
    cases h
  | succ n ih =>
    intro u y1 y2 y3 H locs ls h hI hl
    rw [fX2_letTicksGo_b4] at h
    refine lv_iload_n hx hb dX2_letTicksGo_4 rfl (lv_at hl 3 rfl) ?_
    refine lv_iload_n hx hb dX2_letTicksGo_5 rfl (lv_at hl 1 rfl) ?_
    refine lv_icmp_ge (tgt := 50) hx hb dX2_letTicksGo_6 (by decide) (fun c1 => ?_) (fun c1 => ?_)
    · have h := x_ift h c1
      refine lv_iload_n hx hb dX2_letTicksGo_50 rfl (lv_at hl 2 rfl) ?_
      rw [x_some h]
      exact x_iret F hI dX2_letTicksGo_51
    · have h := x_iff h c1
      refine lv_iload_n hx hb dX2_letTicksGo_9 rfl (lv_at hl 3 rfl) ?_
      refine lv_bipush (v := 100) hx hb dX2_letTicksGo_10 (by decide) ?_
      refine lv_icmp_ge (tgt := 50) hx hb dX2_letTicksGo_12 (by decide) (fun c2 => ?_) (fun c2 => ?_)
      · have h := x_ift h c2
        refine lv_iload_n hx hb dX2_letTicksGo_50 rfl (lv_at hl 2 rfl) ?_
        rw [x_some h]
        exact x_iret F hI dX2_letTicksGo_51
      · have h := x_iff h c2
        refine lv_aload_n hx hb dX2_letTicksGo_15 rfl (lv_at hl 0 rfl) ?_
        refine lv_dup hx hb dX2_letTicksGo_16 rfl ?_
        refine xg_2_4 F hI (x_inH hj (by decide)) u_fl_X2_50 dX2_letTicksGo_17 ?_
        refine lv_iconst (v := 1) hx hb dX2_letTicksGo_20 (by decide) ?_
        refine lv_iadd hx hb dX2_letTicksGo_21 ?_
        refine xp_2_4 F hI (x_inH hj (by decide)) u_fl_X2_50 dX2_letTicksGo_22 (fun H locs u3 e4 hI => ?_)
        have h := x_let_at h e4
        refine lv_aload_n hx hb dX2_letTicksGo_25 rfl (lv_at hl 0 rfl) ?_
        refine xg_2_1 F hI (x_inH hj (by decide)) u_fl_X2_21 dX2_letTicksGo_26 ?_
        refine lv_aload_n hx hb dX2_letTicksGo_29 rfl (lv_at hl 0 rfl) ?_
        refine xg_2_4 F hI (x_inH hj (by decide)) u_fl_X2_50 dX2_letTicksGo_30 ?_
        obtain ⟨r5, h6, h⟩ := x_bnd h
        refine x_aci hI (x_runV (rest := []) F hI (mX3_freeEnded l X σ j hj _ u3 (u3 0 0) r5 h6) g_X2_187 ⟨rfl, hd_X3_freeEnded⟩ ⟨by decide, by decide⟩ ⟨rfl, rfl⟩ (x_inH hj (by decide)) rfl rfl rfl rfl hl.1 rfl (Nat.le_of_ble_eq_true rfl) dX2_letTicksGo_33 ⟨Nat.zero_le _, Nat.zero_le _⟩) (fun H locs hI => ?_)
        refine lv_pop hx hb dX2_letTicksGo_36 rfl ?_
        refine lv_iload_n hx hb dX2_letTicksGo_37 rfl (lv_at hl 2 rfl) ?_
        refine lv_aload_n hx hb dX2_letTicksGo_38 rfl (lv_at hl 0 rfl) ?_
        obtain ⟨r7, h8, h⟩ := x_bnd h
        refine x_aci hI (x_runV (rest := [.int y2]) F hI (mX2_tickGuests l X σ j hj _ r5.2  r7 h8) g_X2_190 ⟨rfl, hd_X2_tickGuests⟩ ⟨by decide, by decide⟩ ⟨rfl, rfl⟩ (x_inH hj (by decide)) rfl rfl rfl rfl hl.1 rfl (Nat.le_of_ble_eq_true rfl) dX2_letTicksGo_39 ⟨Nat.zero_le _, Nat.zero_le _⟩) (fun H locs hI => ?_)
        refine lv_iadd hx hb dX2_letTicksGo_42 ?_
        refine lv_topi (fun x9 e10 => ?_)
        have h := x_let_at h e10
        refine lv_istore_n (lv' := [(2, .int x9), (0, .ref (X.2.2 j 0)), (1, .int y1), (3, .int y3)]) hx hb dX2_letTicksGo_43 rfl hl (by decide) rfl (fun ls hl => ?_)
        obtain ⟨x11, e12⟩ : ∃ z : Int32, z = (y3 + (1 : Int32)) := ⟨_, rfl⟩
        have h := x_let_at h e12
        refine lv_iinc (v := x11) (lv' := [(3, .int x11), (2, .int x9), (0, .ref (X.2.2 j 0)), (1, .int y1)]) hx hb dX2_letTicksGo_44 hl (k := 3) rfl (by rw [e12]; rfl) (by decide) rfl (fun ls hl => ?_)
        refine lv_goto (tgt := 4) hx hb dX2_letTicksGo_47 (by decide) ?_
        exact ih r7.2 y1 x9 x11 _ _ _ h hI (lv_sub hl [2, 3, 1, 0] rfl)
def fX2_letTicksGo (u : x_H) (a1 : Int32) : Option (Int32 × x_H) := fX2_letTicksGo_b4 400 u a1 (0 : Int32) (0 : Int32)
set_option maxHeartbeats 4000000 in
set_option maxRecDepth 100000 in
theorem mX2_letTicksGo (l : Launch) (X : x_T) (σ : x_S) (j : Nat) (hj : j < 10) (sz : Nat) (u : x_H) (a1 : Int32) (r : (Int32 × x_H)) (h : fX2_letTicksGo u a1 = some r) : Met l yX2_letTicksGo (x_ws yX2_letTicksGo cX2_letTicksGo 4 (some .int)) rm_X2_letTicksGo (x_Pc X (x_sh σ j u) sz [.ref (X.2.2 j 0), .int a1]) (x_Qi X r.1 (x_sh σ j r.2) sz) 0 0 (x_A X sz) := by
  refine Met.ofW (cc := cX2_letTicksGo) (maxL := 4) (ret := (some .int)) (by decide) rfl ?_
  intro p e s m args below meth c s₁ B hml hv
  obtain ⟨F, hI, rfl, rfl⟩ := x_begin B hml hv
  replace F : x_F p s m _ meth c cX2_letTicksGo 4 RX2 (some .int) := F
  have hx := F.1
  have hb := F.2.1
  have hml := F.2.2.1
  have hown := F.2.2.2.1
  have hts := F.2.2.2.2.1
  refine x_entry (vs := [.ref (X.2.2 j 0), .int a1]) (n := 4) (Nat.le_of_ble_eq_true rfl) (fun ls hl => ?_)
  replace hl : lv_has ls 4 [(0, .ref (X.2.2 j 0)), (1, .int a1)] := hl
  unfold fX2_letTicksGo at h
  refine lv_iconst (v := 0) hx hb dX2_letTicksGo_0 (by decide) ?_
  refine lv_istore_n (lv' := [(2, .int (0)), (0, .ref (X.2.2 j 0)), (1, .int a1)]) hx hb dX2_letTicksGo_1 rfl hl (by decide) rfl (fun ls hl => ?_)
  refine lv_iconst (v := 0) hx hb dX2_letTicksGo_2 (by decide) ?_
  refine lv_istore_n (lv' := [(3, .int (0)), (2, .int (0)), (0, .ref (X.2.2 j 0)), (1, .int a1)]) hx hb dX2_letTicksGo_3 rfl hl (by decide) rfl (fun ls hl => ?_)
  exact wX2_letTicksGo_b4 hj F 400 u a1 (0 : Int32) (0 : Int32) _ _ _ h hI (lv_sub hl [2, 3, 1, 0] rfl)
abbrev rm_X2_playPart : Room := { frames := 4, cells := 0, slots := 0, locals := 98 }
def fX2_playPart_j67 (u : x_H) (y1 : Int32) (y2 : Int32) (z0 : Int32) : Option (Int32 × x_H) := (Option.bind (fX6_isGuest y2) fun r13 => (if r13 = 0 then some ((0 : Int32), u) else (if x_in y2 12 then (if (u 5 (Int32.toNatClampNeg y2)) = z0 then (if y1 = (115 : Int32) then (Option.bind (fX2_beginSeeking u y2) fun r19 => some ((1 : Int32), r19)) else (if y1 = (103 : Int32) then (Option.bind (fX2_leaveRoom u y2) fun r22 => some ((1 : Int32), r22)) else (Option.bind (fX2_sendWant u y2) fun r24 => some ((1 : Int32), r24)))) else some ((0 : Int32), u)) else none)))
set_option maxHeartbeats 4000000 in
set_option maxRecDepth 100000 in
theorem wX2_playPart_j67 {p : Program} {l : Launch} {e : Env} {s : State} {m : MethodId} {args : Array Value} {below : List Frame} {meth : Method} {c : Code} {X : x_T} {σ : x_S} {r : (Int32 × x_H)} {j : Nat} (hj : j < 10) (F : x_F p s m args meth c cX2_playPart 4 RX2 (some .boolean)) (u : x_H) (y1 : Int32) (y2 : Int32) (z0 : Int32) (H : Heap) (locs : List Loc) (ls : Array Slot) (h : fX2_playPart_j67 u y1 y2 z0 = some r) (hI : x_I X (x_sh σ j u) s H locs) (hl : lv_has ls 4 [(0, .ref (X.2.2 j 0)), (1, .int y1), (2, .int y2)]) : W p l e rm_X2_playPart s m args below meth c H locs 0 0 (MQ below (x_Qi X r.1 (x_sh σ j r.2) s.heap.size) args s 0 0 (x_A X s.heap.size)) (F0 m 67 ls [.int z0]) := by
  have hx := F.1
  have hb := F.2.1
  have hml := F.2.2.1
  have hown := F.2.2.2.1
  have hts := F.2.2.2.2.1
  unfold fX2_playPart_j67 at h
  refine lv_istore_n (lv' := [(3, .int z0), (0, .ref (X.2.2 j 0)), (1, .int y1), (2, .int y2)]) hx hb dX2_playPart_67 rfl hl (by decide) rfl (fun ls hl => ?_)
  refine lv_iload_n hx hb dX2_playPart_68 rfl (lv_at hl 3 rfl) ?_
  obtain ⟨r13, h14, h⟩ := x_bnd h
  refine x_aci hI (x_runN (rest := []) F hI (mX6_isGuest l X (x_sh σ j u) _ y2 r13 h14) u_mln_X2_93 u_co_X6_isGuest u_ini_X6 u_st_X6_isGuest hd_X6_isGuest ⟨by decide, by decide⟩ ⟨rfl, rfl⟩ rfl hl.1 rfl (Nat.le_of_ble_eq_true rfl) dX2_playPart_69 ⟨Nat.zero_le _, Nat.zero_le _⟩) (fun H locs hI => ?_)
  refine lv_if_eq (tgt := 88) hx hb dX2_playPart_72 (by decide) (fun c15 => ?_) (fun c15 => ?_)
  · have h := x_ift h c15
    refine lv_iconst (v := 0) hx hb dX2_playPart_88 (by decide) ?_
    rw [x_some h]
    exact x_zret (v := 0) F hI (by decide) dX2_playPart_89
  · have h := x_iff h c15
    refine lv_aload_n hx hb dX2_playPart_75 rfl (lv_at hl 1 rfl) ?_
    refine xg_2_0 F hI (x_inH hj (by decide)) u_fl_X2_12 dX2_playPart_76 ?_
    refine xg_1_0 F hI (x_inH hj (by decide)) u_fl_X2_97 dX2_playPart_79 ?_
    refine lv_iload_n hx hb dX2_playPart_82 rfl (lv_at hl 3 rfl) ?_
    obtain ⟨g16, h⟩ := x_chk h
    refine xh_iald (n := 12) F hI (x_inH hj (by decide)) (fun _ => rfl) g16 dX2_playPart_83 ?_
    refine lv_iload_n hx hb dX2_playPart_84 rfl (lv_at hl 0 rfl) ?_
    refine lv_icmp_eq (tgt := 90) hx hb dX2_playPart_85 (by decide) (fun c17 => ?_) (fun c17 => ?_)
    · have h := x_ift h c17
      refine lv_iload_n hx hb dX2_playPart_90 rfl (lv_at hl 2 rfl) ?_
      refine lv_bipush (v := 115) hx hb dX2_playPart_91 (by decide) ?_
      refine lv_icmp_ne (tgt := 104) hx hb dX2_playPart_93 (by decide) (fun c18 => ?_) (fun c18 => ?_)
      · have h := x_iff h c18
        refine lv_iload_n hx hb dX2_playPart_104 rfl (lv_at hl 2 rfl) ?_
        refine lv_bipush (v := 103) hx hb dX2_playPart_105 (by decide) ?_
        refine lv_icmp_ne (tgt := 118) hx hb dX2_playPart_107 (by decide) (fun c21 => ?_) (fun c21 => ?_)
        · have h := x_iff h c21
          refine lv_aload_n hx hb dX2_playPart_118 rfl (lv_at hl 1 rfl) ?_
          refine lv_iload_n hx hb dX2_playPart_119 rfl (lv_at hl 3 rfl) ?_
          obtain ⟨r24, h25, h⟩ := x_bnd h
          refine x_acv hI (x_runV (rest := []) F hI (mX2_sendWant l X σ j hj _ u y2 r24 h25) g_X2_118 ⟨rfl, hd_X2_sendWant⟩ ⟨by decide, by decide⟩ ⟨rfl, rfl⟩ (x_inH hj (by decide)) rfl rfl rfl rfl hl.1 rfl (Nat.le_of_ble_eq_true rfl) dX2_playPart_120 ⟨Nat.zero_le _, Nat.zero_le _⟩) (fun H locs hI => ?_)
          refine lv_iconst (v := 1) hx hb dX2_playPart_123 (by decide) ?_
          rw [x_some h]
          exact x_zret (v := 1) F hI (by decide) dX2_playPart_124
        · have h := x_ift h c21
          refine lv_aload_n hx hb dX2_playPart_110 rfl (lv_at hl 1 rfl) ?_
          refine lv_iload_n hx hb dX2_playPart_111 rfl (lv_at hl 3 rfl) ?_
          obtain ⟨r22, h23, h⟩ := x_bnd h
          refine x_acv hI (x_runV (rest := []) F hI (mX2_leaveRoom l X σ j hj _ u y2 r22 h23) g_X2_210 ⟨rfl, hd_X2_leaveRoom⟩ ⟨by decide, by decide⟩ ⟨rfl, rfl⟩ (x_inH hj (by decide)) rfl rfl rfl rfl hl.1 rfl (Nat.le_of_ble_eq_true rfl) dX2_playPart_112 ⟨Nat.zero_le _, Nat.zero_le _⟩) (fun H locs hI => ?_)
          refine lv_goto (tgt := 123) hx hb dX2_playPart_115 (by decide) ?_
          refine lv_iconst (v := 1) hx hb dX2_playPart_123 (by decide) ?_
          rw [x_some h]
          exact x_zret (v := 1) F hI (by decide) dX2_playPart_124
      · have h := x_ift h c18
        refine lv_aload_n hx hb dX2_playPart_96 rfl (lv_at hl 1 rfl) ?_
        refine lv_iload_n hx hb dX2_playPart_97 rfl (lv_at hl 3 rfl) ?_
        obtain ⟨r19, h20, h⟩ := x_bnd h
        refine x_acv hI (x_runV (rest := []) F hI (mX2_beginSeeking l X σ j hj _ u y2 r19 h20) g_X2_207 ⟨rfl, hd_X2_beginSeeking⟩ ⟨by decide, by decide⟩ ⟨rfl, rfl⟩ (x_inH hj (by decide)) rfl rfl rfl rfl hl.1 rfl (Nat.le_of_ble_eq_true rfl) dX2_playPart_98 ⟨Nat.zero_le _, Nat.zero_le _⟩) (fun H locs hI => ?_)
        refine lv_goto (tgt := 123) hx hb dX2_playPart_101 (by decide) ?_
        refine lv_iconst (v := 1) hx hb dX2_playPart_123 (by decide) ?_
        rw [x_some h]
        exact x_zret (v := 1) F hI (by decide) dX2_playPart_124
    · have h := x_iff h c17
      refine lv_iconst (v := 0) hx hb dX2_playPart_88 (by decide) ?_
      rw [x_some h]
      exact x_zret (v := 0) F hI (by decide) dX2_playPart_89
def fX2_playPart (u : x_H) (a1 : Int32) (a2 : Int32) : Option (Int32 × x_H) := (if a1 = (116 : Int32) then (Option.bind (fX2_letTicksGo u a2) fun r2 => some ((1 : Int32), r2.2)) else (if a1 = (100 : Int32) then (Option.bind (fX2_deliverAt u a2) fun r5 => (if r5.1 = (-1 : Int32) then some ((0 : Int32), r5.2) else some ((1 : Int32), r5.2))) else (if a1 = (120 : Int32) then (Option.bind (fX2_loseAt u a2) fun r9 => (if r9.1 = (-1 : Int32) then some ((0 : Int32), r9.2) else some ((1 : Int32), r9.2))) else (if a1 = (115 : Int32) then fX2_playPart_j67 u a1 a2 (0 : Int32) else fX2_playPart_j67 u a1 a2 (3 : Int32)))))
set_option maxHeartbeats 4000000 in
set_option maxRecDepth 100000 in
theorem mX2_playPart (l : Launch) (X : x_T) (σ : x_S) (j : Nat) (hj : j < 10) (sz : Nat) (u : x_H) (a1 : Int32) (a2 : Int32) (r : (Int32 × x_H)) (h : fX2_playPart u a1 a2 = some r) : Met l yX2_playPart (x_ws yX2_playPart cX2_playPart 4 (some .boolean)) rm_X2_playPart (x_Pc X (x_sh σ j u) sz [.ref (X.2.2 j 0), .int a1, .int a2]) (x_Qi X r.1 (x_sh σ j r.2) sz) 0 0 (x_A X sz) := by
  refine Met.ofW (cc := cX2_playPart) (maxL := 4) (ret := (some .boolean)) (by decide) rfl ?_
  intro p e s m args below meth c s₁ B hml hv
  obtain ⟨F, hI, rfl, rfl⟩ := x_begin B hml hv
  replace F : x_F p s m _ meth c cX2_playPart 4 RX2 (some .boolean) := F
  have hx := F.1
  have hb := F.2.1
  have hml := F.2.2.1
  have hown := F.2.2.2.1
  have hts := F.2.2.2.2.1
  refine x_entry (vs := [.ref (X.2.2 j 0), .int a1, .int a2]) (n := 4) (Nat.le_of_ble_eq_true rfl) (fun ls hl => ?_)
  replace hl : lv_has ls 4 [(0, .ref (X.2.2 j 0)), (1, .int a1), (2, .int a2)] := hl
  unfold fX2_playPart at h
  refine lv_iload_n hx hb dX2_playPart_0 rfl (lv_at hl 1 rfl) ?_
  refine lv_bipush (v := 116) hx hb dX2_playPart_1 (by decide) ?_
  refine lv_icmp_ne (tgt := 14) hx hb dX2_playPart_3 (by decide) (fun c1 => ?_) (fun c1 => ?_)
  · have h := x_iff h c1
    refine lv_iload_n hx hb dX2_playPart_14 rfl (lv_at hl 1 rfl) ?_
    refine lv_bipush (v := 100) hx hb dX2_playPart_15 (by decide) ?_
    refine lv_icmp_ne (tgt := 35) hx hb dX2_playPart_17 (by decide) (fun c4 => ?_) (fun c4 => ?_)
    · have h := x_iff h c4
      refine lv_iload_n hx hb dX2_playPart_35 rfl (lv_at hl 1 rfl) ?_
      refine lv_bipush (v := 120) hx hb dX2_playPart_36 (by decide) ?_
      refine lv_icmp_ne (tgt := 56) hx hb dX2_playPart_38 (by decide) (fun c8 => ?_) (fun c8 => ?_)
      · have h := x_iff h c8
        refine lv_iload_n hx hb dX2_playPart_56 rfl (lv_at hl 1 rfl) ?_
        refine lv_bipush (v := 115) hx hb dX2_playPart_57 (by decide) ?_
        refine lv_icmp_ne (tgt := 66) hx hb dX2_playPart_59 (by decide) (fun c12 => ?_) (fun c12 => ?_)
        · have h := x_iff h c12
          refine lv_iconst (v := 3) hx hb dX2_playPart_66 (by decide) ?_
          exact wX2_playPart_j67 hj F u a1 a2 (3 : Int32) _ _ _ h hI (lv_sub hl [0, 1, 2] rfl)
        · have h := x_ift h c12
          refine lv_iconst (v := 0) hx hb dX2_playPart_62 (by decide) ?_
          refine lv_goto (tgt := 67) hx hb dX2_playPart_63 (by decide) ?_
          exact wX2_playPart_j67 hj F u a1 a2 (0 : Int32) _ _ _ h hI (lv_sub hl [0, 1, 2] rfl)
      · have h := x_ift h c8
        refine lv_aload_n hx hb dX2_playPart_41 rfl (lv_at hl 0 rfl) ?_
        refine lv_iload_n hx hb dX2_playPart_42 rfl (lv_at hl 2 rfl) ?_
        obtain ⟨r9, h10, h⟩ := x_bnd h
        refine x_aci hI (x_runV (rest := []) F hI (mX2_loseAt l X σ j hj _ u a2 r9 h10) g_X2_204 ⟨rfl, hd_X2_loseAt⟩ ⟨by decide, by decide⟩ ⟨rfl, rfl⟩ (x_inH hj (by decide)) rfl rfl rfl rfl hl.1 rfl (Nat.le_of_ble_eq_true rfl) dX2_playPart_43 ⟨Nat.zero_le _, Nat.zero_le _⟩) (fun H locs hI => ?_)
        refine lv_iconst (v := (-1)) hx hb dX2_playPart_46 (by decide) ?_
        refine lv_icmp_eq (tgt := 54) hx hb dX2_playPart_47 (by decide) (fun c11 => ?_) (fun c11 => ?_)
        · have h := x_ift h c11
          refine lv_iconst (v := 0) hx hb dX2_playPart_54 (by decide) ?_
          rw [x_some h]
          exact x_zret (v := 0) F hI (by decide) dX2_playPart_55
        · have h := x_iff h c11
          refine lv_iconst (v := 1) hx hb dX2_playPart_50 (by decide) ?_
          refine lv_goto (tgt := 55) hx hb dX2_playPart_51 (by decide) ?_
          rw [x_some h]
          exact x_zret (v := 1) F hI (by decide) dX2_playPart_55
    · have h := x_ift h c4
      refine lv_aload_n hx hb dX2_playPart_20 rfl (lv_at hl 0 rfl) ?_
      refine lv_iload_n hx hb dX2_playPart_21 rfl (lv_at hl 2 rfl) ?_
      obtain ⟨r5, h6, h⟩ := x_bnd h
      refine x_aci hI (x_runV (rest := []) F hI (mX2_deliverAt l X σ j hj _ u a2 r5 h6) g_X2_184 ⟨rfl, hd_X2_deliverAt⟩ ⟨by decide, by decide⟩ ⟨rfl, rfl⟩ (x_inH hj (by decide)) rfl rfl rfl rfl hl.1 rfl (Nat.le_of_ble_eq_true rfl) dX2_playPart_22 ⟨Nat.zero_le _, Nat.zero_le _⟩) (fun H locs hI => ?_)
      refine lv_iconst (v := (-1)) hx hb dX2_playPart_25 (by decide) ?_
      refine lv_icmp_eq (tgt := 33) hx hb dX2_playPart_26 (by decide) (fun c7 => ?_) (fun c7 => ?_)
      · have h := x_ift h c7
        refine lv_iconst (v := 0) hx hb dX2_playPart_33 (by decide) ?_
        rw [x_some h]
        exact x_zret (v := 0) F hI (by decide) dX2_playPart_34
      · have h := x_iff h c7
        refine lv_iconst (v := 1) hx hb dX2_playPart_29 (by decide) ?_
        refine lv_goto (tgt := 34) hx hb dX2_playPart_30 (by decide) ?_
        rw [x_some h]
        exact x_zret (v := 1) F hI (by decide) dX2_playPart_34
  · have h := x_ift h c1
    refine lv_aload_n hx hb dX2_playPart_6 rfl (lv_at hl 0 rfl) ?_
    refine lv_iload_n hx hb dX2_playPart_7 rfl (lv_at hl 2 rfl) ?_
    obtain ⟨r2, h3, h⟩ := x_bnd h
    refine x_aci hI (x_runV (rest := []) F hI (mX2_letTicksGo l X σ j hj _ u a2 r2 h3) g_X2_201 ⟨rfl, hd_X2_letTicksGo⟩ ⟨by decide, by decide⟩ ⟨rfl, rfl⟩ (x_inH hj (by decide)) rfl rfl rfl rfl hl.1 rfl (Nat.le_of_ble_eq_true rfl) dX2_playPart_8 ⟨Nat.zero_le _, Nat.zero_le _⟩) (fun H locs hI => ?_)
    refine lv_pop hx hb dX2_playPart_11 rfl ?_
    refine lv_iconst (v := 1) hx hb dX2_playPart_12 (by decide) ?_
    rw [x_some h]
    exact x_zret (v := 1) F hI (by decide) dX2_playPart_13
abbrev rm_X2_copyFrom : Room := { frames := 3, cells := 0, slots := 0, locals := 68 }
def fX2_copyFrom (u : x_H) (w : x_H) : Option x_H := (Option.bind (fX1_copyFrom u w) fun r4 => (Option.bind (fX3_copyFrom r4 w) fun r8 => (Option.bind (fX4_copyFrom r8 w) fun r12 => x_let (x_hs r12 4 (w 4)) fun u13 => x_let (x_hu u13 0 0 (w 0 0)) fun u15 => x_let (x_hu u15 0 1 (w 0 1)) fun u17 => x_let (x_hu u17 0 2 (w 0 2)) fun u19 => x_let (x_hu u19 0 3 (w 0 3)) fun u21 => x_let (x_hu u21 0 4 (w 0 4)) fun u23 => x_let (x_hu u23 0 5 (w 0 5)) fun u25 => x_let (x_hu u25 0 6 (w 0 6)) fun u27 => some (u27))))
set_option maxHeartbeats 4000000 in
set_option maxRecDepth 100000 in
theorem mX2_copyFrom (l : Launch) (X : x_T) (σ : x_S) (i j : Nat) (hi : i < 10) (hj : j < 10) (hne : i ≠ j) {w : x_H} (hw : σ i = w) (sz : Nat) (u : x_H) (r : x_H) (h : fX2_copyFrom u w  = some r) : Met l yX2_copyFrom (x_ws yX2_copyFrom cX2_copyFrom 2 none) rm_X2_copyFrom (x_Pc X (x_sh σ j u) sz [.ref (X.2.2 j 0), .ref (X.2.2 i 0)]) (x_Qv X (x_sh σ j r) sz) 0 0 (x_A X sz) := by
  refine Met.ofW (cc := cX2_copyFrom) (maxL := 2) (ret := none) (by decide) rfl ?_
  intro p e s m args below meth c s₁ B hml hv
  obtain ⟨F, hI, rfl, rfl⟩ := x_begin B hml hv
  replace F : x_F p s m _ meth c cX2_copyFrom 2 RX2 none := F
  have hx := F.1
  have hb := F.2.1
  have hml := F.2.2.1
  have hown := F.2.2.2.1
  have hts := F.2.2.2.2.1
  refine x_entry (vs := [.ref (X.2.2 j 0), .ref (X.2.2 i 0)]) (n := 2) (Nat.le_of_ble_eq_true rfl) (fun ls hl => ?_)
  replace hl : lv_has ls 2 [(0, .ref (X.2.2 j 0)), (1, .ref (X.2.2 i 0))] := hl
  unfold fX2_copyFrom at h
  refine lv_aload_n hx hb dX2_copyFrom_0 rfl (lv_at hl 0 rfl) ?_
  refine xg_2_0 F hI (x_inH hj (by decide)) u_fl_X2_12 dX2_copyFrom_1 ?_
  refine lv_aload_n hx hb dX2_copyFrom_4 rfl (lv_at hl 1 rfl) ?_
  refine xo_2_0 F hI (x_inH hi (by decide)) hne hw u_fl_X2_12 dX2_copyFrom_5 ?_
  obtain ⟨r4, h3, h⟩ := x_bnd h
  refine x_acv hI (x_runV (rest := []) F hI (mX1_copyFrom l X σ i j hi hj hne hw _ u r4 h3) g_X2_36 ⟨rfl, hd_X1_copyFrom⟩ ⟨by decide, by decide⟩ ⟨rfl, rfl⟩ (x_inH hj (by decide)) rfl rfl rfl rfl hl.1 rfl (Nat.le_of_ble_eq_true rfl) dX2_copyFrom_8 ⟨Nat.zero_le _, Nat.zero_le _⟩) (fun H locs hI => ?_)
  refine lv_aload_n hx hb dX2_copyFrom_11 rfl (lv_at hl 0 rfl) ?_
  refine xg_2_1 F hI (x_inH hj (by decide)) u_fl_X2_21 dX2_copyFrom_12 ?_
  refine lv_aload_n hx hb dX2_copyFrom_15 rfl (lv_at hl 1 rfl) ?_
  refine xo_2_1 F hI (x_inH hi (by decide)) hne hw u_fl_X2_21 dX2_copyFrom_16 ?_
  obtain ⟨r8, h7, h⟩ := x_bnd h
  refine x_acv hI (x_runV (rest := []) F hI (mX3_copyFrom l X σ i j hi hj hne hw _ r4 r8 h7) g_X2_40 ⟨rfl, hd_X3_copyFrom⟩ ⟨by decide, by decide⟩ ⟨rfl, rfl⟩ (x_inH hj (by decide)) rfl rfl rfl rfl hl.1 rfl (Nat.le_of_ble_eq_true rfl) dX2_copyFrom_19 ⟨Nat.zero_le _, Nat.zero_le _⟩) (fun H locs hI => ?_)
  refine lv_aload_n hx hb dX2_copyFrom_22 rfl (lv_at hl 0 rfl) ?_
  refine xg_2_2 F hI (x_inH hj (by decide)) u_fl_X2_28 dX2_copyFrom_23 ?_
  refine lv_aload_n hx hb dX2_copyFrom_26 rfl (lv_at hl 1 rfl) ?_
  refine xo_2_2 F hI (x_inH hi (by decide)) hne hw u_fl_X2_28 dX2_copyFrom_27 ?_
  obtain ⟨r12, h11, h⟩ := x_bnd h
  refine x_acv hI (x_runV (rest := []) F hI (mX4_copyFrom l X σ i j hi hj hne hw _ r8 r12 h11) g_X2_43 ⟨rfl, hd_X4_copyFrom⟩ ⟨by decide, by decide⟩ ⟨rfl, rfl⟩ (x_inH hj (by decide)) rfl rfl rfl rfl hl.1 rfl (Nat.le_of_ble_eq_true rfl) dX2_copyFrom_30 ⟨Nat.zero_le _, Nat.zero_le _⟩) (fun H locs hI => ?_)
  refine lv_aload_n hx hb dX2_copyFrom_33 rfl (lv_at hl 1 rfl) ?_
  refine xo_2_3 F hI (x_inH hi (by decide)) hne hw u_fl_X2_32 dX2_copyFrom_34 ?_
  refine lv_aload_n hx hb dX2_copyFrom_37 rfl (lv_at hl 0 rfl) ?_
  refine xg_2_3 F hI (x_inH hj (by decide)) u_fl_X2_32 dX2_copyFrom_38 ?_
  refine x_acv hI (x_runN (rest := []) F hI (mX6_copyNumbers l X _ _ (n := 7) (x_inH hi (by decide)) (x_inH hj (by decide)) (fun _ => rfl) (fun _ => rfl) (by decide)) u_mln_X2_46 u_co_X6_copyNumbers u_ini_X6 u_st_X6_copyNumbers hd_X6_copyNumbers ⟨by decide, by decide⟩ ⟨rfl, rfl⟩ rfl hl.1 rfl (Nat.le_of_ble_eq_true rfl) dX2_copyFrom_41 ⟨Nat.zero_le _, Nat.zero_le _⟩) (fun H locs hI => ?_)
  rw [x_sh_eq, x_sh_sh, x_sh_ne _ _ hne, hw] at hI
  obtain ⟨u13, e14⟩ : ∃ z : x_H, z = (x_hs r12 4 (w 4)) := ⟨_, rfl⟩
  rw [← e14] at hI
  have h := x_let_at h e14
  refine lv_aload_n hx hb dX2_copyFrom_44 rfl (lv_at hl 0 rfl) ?_
  refine lv_aload_n hx hb dX2_copyFrom_45 rfl (lv_at hl 1 rfl) ?_
  refine xo_2_4 F hI (x_inH hi (by decide)) hne hw u_fl_X2_50 dX2_copyFrom_46 ?_
  refine xp_2_4 F hI (x_inH hj (by decide)) u_fl_X2_50 dX2_copyFrom_49 (fun H locs u15 e16 hI => ?_)
  have h := x_let_at h e16
  refine lv_aload_n hx hb dX2_copyFrom_52 rfl (lv_at hl 0 rfl) ?_
  refine lv_aload_n hx hb dX2_copyFrom_53 rfl (lv_at hl 1 rfl) ?_
  refine xo_2_5 F hI (x_inH hi (by decide)) hne hw u_fl_X2_54 dX2_copyFrom_54 ?_
  refine xp_2_5 F hI (x_inH hj (by decide)) u_fl_X2_54 dX2_copyFrom_57 (fun H locs u17 e18 hI => ?_)
  have h := x_let_at h e18
  refine lv_aload_n hx hb dX2_copyFrom_60 rfl (lv_at hl 0 rfl) ?_
  refine lv_aload_n hx hb dX2_copyFrom_61 rfl (lv_at hl 1 rfl) ?_
  refine xo_2_6 F hI (x_inH hi (by decide)) hne hw u_fl_X2_57 dX2_copyFrom_62 ?_
  refine xp_2_6 F hI (x_inH hj (by decide)) u_fl_X2_57 dX2_copyFrom_65 (fun H locs u19 e20 hI => ?_)
  have h := x_let_at h e20
  refine lv_aload_n hx hb dX2_copyFrom_68 rfl (lv_at hl 0 rfl) ?_
  refine lv_aload_n hx hb dX2_copyFrom_69 rfl (lv_at hl 1 rfl) ?_
  refine xo_2_7 F hI (x_inH hi (by decide)) hne hw u_fl_X2_60 dX2_copyFrom_70 ?_
  refine xp_2_7 F hI (x_inH hj (by decide)) u_fl_X2_60 dX2_copyFrom_73 (fun H locs u21 e22 hI => ?_)
  have h := x_let_at h e22
  refine lv_aload_n hx hb dX2_copyFrom_76 rfl (lv_at hl 0 rfl) ?_
  refine lv_aload_n hx hb dX2_copyFrom_77 rfl (lv_at hl 1 rfl) ?_
  refine xo_2_8 F hI (x_inH hi (by decide)) hne hw u_fl_X2_63 dX2_copyFrom_78 ?_
  refine xp_2_8 F hI (x_inH hj (by decide)) u_fl_X2_63 dX2_copyFrom_81 (fun H locs u23 e24 hI => ?_)
  have h := x_let_at h e24
  refine lv_aload_n hx hb dX2_copyFrom_84 rfl (lv_at hl 0 rfl) ?_
  refine lv_aload_n hx hb dX2_copyFrom_85 rfl (lv_at hl 1 rfl) ?_
  refine xo_2_9 F hI (x_inH hi (by decide)) hne hw u_fl_X2_66 dX2_copyFrom_86 ?_
  refine xp_2_9 F hI (x_inH hj (by decide)) u_fl_X2_66 dX2_copyFrom_89 (fun H locs u25 e26 hI => ?_)
  have h := x_let_at h e26
  refine lv_aload_n hx hb dX2_copyFrom_92 rfl (lv_at hl 0 rfl) ?_
  refine lv_aload_n hx hb dX2_copyFrom_93 rfl (lv_at hl 1 rfl) ?_
  refine xo_2_10 F hI (x_inH hi (by decide)) hne hw u_fl_X2_69 dX2_copyFrom_94 ?_
  refine xp_2_10 F hI (x_inH hj (by decide)) u_fl_X2_69 dX2_copyFrom_97 (fun H locs u27 e28 hI => ?_)
  have h := x_let_at h e28
  rw [x_some h]
  exact x_vret F hI dX2_copyFrom_100
