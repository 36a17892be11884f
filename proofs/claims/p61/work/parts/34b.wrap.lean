abbrev rm_L_seek : Room := { frames := 8, cells := 1, slots := 6, locals := 131 }
def fL_seek (σ : x_S) (a1 : Int32) : Option (Int64 × x_S) := (x_or (eX6_seek σ a1) (fun q1 => (if q1.1 = 0 then some ((-9000000000000000001 : Int64), q1.2) else (if q1.1 = 2 then some ((-9000000000000000003 : Int64), q1.2) else none))) (Option.bind (fX6_seek σ a1) fun r5 => some ((r5.1).toInt64, r5.2)))
set_option maxHeartbeats 4000000 in
set_option maxRecDepth 100000 in
theorem mL_seek (l : Launch) (hl0 : l.stackTraces = false) (X : x_T) (sz : Nat) (σ : x_S) (a1 : Int32) (r : Int64 × x_S) (h : fL_seek σ a1 = some r) : Met l yL_seek (xl_ws yL_seek cL_seek 3 (some .long) [(0, 6, 7, 15), (0, 6, 12, 19)]) rm_L_seek (x_PcT X σ sz [.ref (X.2.2 10 32), .int a1]) (x_Ql X r.1 r.2 sz) 1 6 (x_A X sz) := by
  refine va_MetW (cc := cL_seek) (maxL := 3) (ret := (some .long)) (hh := [(0, 6, 7, 15), (0, 6, 12, 19)]) (by decide) rfl ?_
  intro p e s m args below meth c s₁ B hml hv
  obtain ⟨F, Z, ht, hI, rfl, rfl⟩ := xl_begin B hml hv
  replace F : x_F p s m _ meth c cL_seek 3 RL (some .long) := F
  have hx := F.1
  have hb := F.2.1
  have hml := F.2.2.1
  have hown := F.2.2.2.1
  have hts := F.2.2.2.2.1
  refine x_entry (vs := [.ref (X.2.2 10 32), .int a1]) (n := 3) (Nat.le_of_ble_eq_true rfl) (fun ls hl => ?_)
  replace hl : lv_has ls 3 [(0, .ref (X.2.2 10 32)), (1, .int a1)] := hl
  unfold fL_seek at h
  refine lv_aload_n hx hb dL_seek_0 rfl (lv_at hl 0 rfl) ?_
  refine lv_iload_n hx hb dL_seek_1 rfl (lv_at hl 1 rfl) ?_
  rcases x_or_el h with ⟨q1, h2, h⟩ | ⟨-, h⟩
  · refine xl_aci hI (xt_runV (rest := []) F Z hI (xX6_seek l hl0 X _ σ a1 q1 h2) g_L_9 ⟨rfl, hd_X6_seek⟩ ⟨by decide, by decide⟩ ⟨rfl, rfl⟩ (x_inO (by decide)) rfl rfl rfl rfl hl.1 rfl (Nat.le_of_ble_eq_true rfl) dL_seek_2 ⟨by decide, by decide⟩) (fun H locs ce q9 hI hce hcv hcl => ?_)
    by_cases c4 : q1.1 = 0
    · have h := x_ift h c4
      rw [c4] at hcl
      refine xl_catch1 (b := 6) (hp := 7) (e0 := 0) F Z ht (by decide) rfl (by decide) hce hcv hcl ?_
      refine lv_astore_n (lv' := [(2, .ref q9), (0, .ref (X.2.2 10 32)), (1, .int a1)]) hx hb dL_seek_7 rfl hl (by decide) rfl (fun ls hl => ?_)
      refine lv_ldc2 (v := -9000000000000000001) hx hb hown (hts _ u_cl_L_17) dL_seek_8 ?_
      rw [x_some h]
      exact xl_lret F hI (Nat.le_of_ble_eq_true rfl) (Nat.le_of_ble_eq_true rfl) dL_seek_11
    · have h := x_iff h c4
      by_cases c3 : q1.1 = 2
      · have h := x_ift h c3
        rw [c3] at hcl
        refine xl_catch2 (b := 6) (hp := 12) (e0 := 0) F Z ht (by decide) rfl (by decide) hce hcv hcl ?_
        refine lv_astore_n (lv' := [(2, .ref q9), (0, .ref (X.2.2 10 32)), (1, .int a1)]) hx hb dL_seek_12 rfl hl (by decide) rfl (fun ls hl => ?_)
        refine lv_ldc2 (v := -9000000000000000003) hx hb hown (hts _ u_cl_L_21) dL_seek_13 ?_
        rw [x_some h]
        exact xl_lret F hI (Nat.le_of_ble_eq_true rfl) (Nat.le_of_ble_eq_true rfl) dL_seek_16
      · have h := x_iff h c3
        cases h
  · obtain ⟨r5, h6, h⟩ := x_bnd h
    refine x_aci hI (x_runV (rest := []) F hI (mX6_seek l X _ σ a1 r5 h6) g_L_9 ⟨rfl, hd_X6_seek⟩ ⟨by decide, by decide⟩ ⟨rfl, rfl⟩ (x_inO (by decide)) rfl rfl rfl rfl hl.1 rfl (Nat.le_of_ble_eq_true rfl) dL_seek_2 ⟨Nat.zero_le _, Nat.zero_le _⟩) (fun H locs hI => ?_)
    refine lv_i2l hx hb dL_seek_5 rfl ?_
    rw [x_some h]
    exact xl_lret F hI (Nat.le_of_ble_eq_true rfl) (Nat.le_of_ble_eq_true rfl) dL_seek_6
abbrev rm_L_leave : Room := { frames := 8, cells := 1, slots := 6, locals := 132 }
def fL_leave (σ : x_S) (a1 : Int32) : Option (Int64 × x_S) := (x_or (eX6_leave σ a1) (fun q1 => (if q1.1 = 0 then some ((-9000000000000000001 : Int64), q1.2) else (if q1.1 = 2 then some ((-9000000000000000003 : Int64), q1.2) else none))) (Option.bind (fX6_leave σ a1) fun r5 => some ((r5.1).toInt64, r5.2)))
set_option maxHeartbeats 4000000 in
set_option maxRecDepth 100000 in
theorem mL_leave (l : Launch) (hl0 : l.stackTraces = false) (X : x_T) (sz : Nat) (σ : x_S) (a1 : Int32) (r : Int64 × x_S) (h : fL_leave σ a1 = some r) : Met l yL_leave (xl_ws yL_leave cL_leave 3 (some .long) [(0, 6, 7, 15), (0, 6, 12, 19)]) rm_L_leave (x_PcT X σ sz [.ref (X.2.2 10 32), .int a1]) (x_Ql X r.1 r.2 sz) 1 6 (x_A X sz) := by
  refine va_MetW (cc := cL_leave) (maxL := 3) (ret := (some .long)) (hh := [(0, 6, 7, 15), (0, 6, 12, 19)]) (by decide) rfl ?_
  intro p e s m args below meth c s₁ B hml hv
  obtain ⟨F, Z, ht, hI, rfl, rfl⟩ := xl_begin B hml hv
  replace F : x_F p s m _ meth c cL_leave 3 RL (some .long) := F
  have hx := F.1
  have hb := F.2.1
  have hml := F.2.2.1
  have hown := F.2.2.2.1
  have hts := F.2.2.2.2.1
  refine x_entry (vs := [.ref (X.2.2 10 32), .int a1]) (n := 3) (Nat.le_of_ble_eq_true rfl) (fun ls hl => ?_)
  replace hl : lv_has ls 3 [(0, .ref (X.2.2 10 32)), (1, .int a1)] := hl
  unfold fL_leave at h
  refine lv_aload_n hx hb dL_leave_0 rfl (lv_at hl 0 rfl) ?_
  refine lv_iload_n hx hb dL_leave_1 rfl (lv_at hl 1 rfl) ?_
  rcases x_or_el h with ⟨q1, h2, h⟩ | ⟨-, h⟩
  · refine xl_aci hI (xt_runV (rest := []) F Z hI (xX6_leave l hl0 X _ σ a1 q1 h2) g_L_23 ⟨rfl, hd_X6_leave⟩ ⟨by decide, by decide⟩ ⟨rfl, rfl⟩ (x_inO (by decide)) rfl rfl rfl rfl hl.1 rfl (Nat.le_of_ble_eq_true rfl) dL_leave_2 ⟨by decide, by decide⟩) (fun H locs ce q9 hI hce hcv hcl => ?_)
    by_cases c4 : q1.1 = 0
    · have h := x_ift h c4
      rw [c4] at hcl
      refine xl_catch1 (b := 6) (hp := 7) (e0 := 0) F Z ht (by decide) rfl (by decide) hce hcv hcl ?_
      refine lv_astore_n (lv' := [(2, .ref q9), (0, .ref (X.2.2 10 32)), (1, .int a1)]) hx hb dL_leave_7 rfl hl (by decide) rfl (fun ls hl => ?_)
      refine lv_ldc2 (v := -9000000000000000001) hx hb hown (hts _ u_cl_L_17) dL_leave_8 ?_
      rw [x_some h]
      exact xl_lret F hI (Nat.le_of_ble_eq_true rfl) (Nat.le_of_ble_eq_true rfl) dL_leave_11
    · have h := x_iff h c4
      by_cases c3 : q1.1 = 2
      · have h := x_ift h c3
        rw [c3] at hcl
        refine xl_catch2 (b := 6) (hp := 12) (e0 := 0) F Z ht (by decide) rfl (by decide) hce hcv hcl ?_
        refine lv_astore_n (lv' := [(2, .ref q9), (0, .ref (X.2.2 10 32)), (1, .int a1)]) hx hb dL_leave_12 rfl hl (by decide) rfl (fun ls hl => ?_)
        refine lv_ldc2 (v := -9000000000000000003) hx hb hown (hts _ u_cl_L_21) dL_leave_13 ?_
        rw [x_some h]
        exact xl_lret F hI (Nat.le_of_ble_eq_true rfl) (Nat.le_of_ble_eq_true rfl) dL_leave_16
      · have h := x_iff h c3
        cases h
  · obtain ⟨r5, h6, h⟩ := x_bnd h
    refine x_aci hI (x_runV (rest := []) F hI (mX6_leave l X _ σ a1 r5 h6) g_L_23 ⟨rfl, hd_X6_leave⟩ ⟨by decide, by decide⟩ ⟨rfl, rfl⟩ (x_inO (by decide)) rfl rfl rfl rfl hl.1 rfl (Nat.le_of_ble_eq_true rfl) dL_leave_2 ⟨Nat.zero_le _, Nat.zero_le _⟩) (fun H locs hI => ?_)
    refine lv_i2l hx hb dL_leave_5 rfl ?_
    rw [x_some h]
    exact xl_lret F hI (Nat.le_of_ble_eq_true rfl) (Nat.le_of_ble_eq_true rfl) dL_leave_6
abbrev rm_L_giveUp : Room := { frames := 8, cells := 1, slots := 6, locals := 132 }
def fL_giveUp (σ : x_S) (a1 : Int32) : Option (Int64 × x_S) := (x_or (eX6_giveUp σ a1) (fun q1 => (if q1.1 = 0 then some ((-9000000000000000001 : Int64), q1.2) else (if q1.1 = 2 then some ((-9000000000000000003 : Int64), q1.2) else none))) (Option.bind (fX6_giveUp σ a1) fun r5 => some ((r5.1).toInt64, r5.2)))
set_option maxHeartbeats 4000000 in
set_option maxRecDepth 100000 in
theorem mL_giveUp (l : Launch) (hl0 : l.stackTraces = false) (X : x_T) (sz : Nat) (σ : x_S) (a1 : Int32) (r : Int64 × x_S) (h : fL_giveUp σ a1 = some r) : Met l yL_giveUp (xl_ws yL_giveUp cL_giveUp 3 (some .long) [(0, 6, 7, 15), (0, 6, 12, 19)]) rm_L_giveUp (x_PcT X σ sz [.ref (X.2.2 10 32), .int a1]) (x_Ql X r.1 r.2 sz) 1 6 (x_A X sz) := by
  refine va_MetW (cc := cL_giveUp) (maxL := 3) (ret := (some .long)) (hh := [(0, 6, 7, 15), (0, 6, 12, 19)]) (by decide) rfl ?_
  intro p e s m args below meth c s₁ B hml hv
  obtain ⟨F, Z, ht, hI, rfl, rfl⟩ := xl_begin B hml hv
  replace F : x_F p s m _ meth c cL_giveUp 3 RL (some .long) := F
  have hx := F.1
  have hb := F.2.1
  have hml := F.2.2.1
  have hown := F.2.2.2.1
  have hts := F.2.2.2.2.1
  refine x_entry (vs := [.ref (X.2.2 10 32), .int a1]) (n := 3) (Nat.le_of_ble_eq_true rfl) (fun ls hl => ?_)
  replace hl : lv_has ls 3 [(0, .ref (X.2.2 10 32)), (1, .int a1)] := hl
  unfold fL_giveUp at h
  refine lv_aload_n hx hb dL_giveUp_0 rfl (lv_at hl 0 rfl) ?_
  refine lv_iload_n hx hb dL_giveUp_1 rfl (lv_at hl 1 rfl) ?_
  rcases x_or_el h with ⟨q1, h2, h⟩ | ⟨-, h⟩
  · refine xl_aci hI (xt_runV (rest := []) F Z hI (xX6_giveUp l hl0 X _ σ a1 q1 h2) g_L_26 ⟨rfl, hd_X6_giveUp⟩ ⟨by decide, by decide⟩ ⟨rfl, rfl⟩ (x_inO (by decide)) rfl rfl rfl rfl hl.1 rfl (Nat.le_of_ble_eq_true rfl) dL_giveUp_2 ⟨by decide, by decide⟩) (fun H locs ce q9 hI hce hcv hcl => ?_)
    by_cases c4 : q1.1 = 0
    · have h := x_ift h c4
      rw [c4] at hcl
      refine xl_catch1 (b := 6) (hp := 7) (e0 := 0) F Z ht (by decide) rfl (by decide) hce hcv hcl ?_
      refine lv_astore_n (lv' := [(2, .ref q9), (0, .ref (X.2.2 10 32)), (1, .int a1)]) hx hb dL_giveUp_7 rfl hl (by decide) rfl (fun ls hl => ?_)
      refine lv_ldc2 (v := -9000000000000000001) hx hb hown (hts _ u_cl_L_17) dL_giveUp_8 ?_
      rw [x_some h]
      exact xl_lret F hI (Nat.le_of_ble_eq_true rfl) (Nat.le_of_ble_eq_true rfl) dL_giveUp_11
    · have h := x_iff h c4
      by_cases c3 : q1.1 = 2
      · have h := x_ift h c3
        rw [c3] at hcl
        refine xl_catch2 (b := 6) (hp := 12) (e0 := 0) F Z ht (by decide) rfl (by decide) hce hcv hcl ?_
        refine lv_astore_n (lv' := [(2, .ref q9), (0, .ref (X.2.2 10 32)), (1, .int a1)]) hx hb dL_giveUp_12 rfl hl (by decide) rfl (fun ls hl => ?_)
        refine lv_ldc2 (v := -9000000000000000003) hx hb hown (hts _ u_cl_L_21) dL_giveUp_13 ?_
        rw [x_some h]
        exact xl_lret F hI (Nat.le_of_ble_eq_true rfl) (Nat.le_of_ble_eq_true rfl) dL_giveUp_16
      · have h := x_iff h c3
        cases h
  · obtain ⟨r5, h6, h⟩ := x_bnd h
    refine x_aci hI (x_runV (rest := []) F hI (mX6_giveUp l X _ σ a1 r5 h6) g_L_26 ⟨rfl, hd_X6_giveUp⟩ ⟨by decide, by decide⟩ ⟨rfl, rfl⟩ (x_inO (by decide)) rfl rfl rfl rfl hl.1 rfl (Nat.le_of_ble_eq_true rfl) dL_giveUp_2 ⟨Nat.zero_le _, Nat.zero_le _⟩) (fun H locs hI => ?_)
    refine lv_i2l hx hb dL_giveUp_5 rfl ?_
    rw [x_some h]
    exact xl_lret F hI (Nat.le_of_ble_eq_true rfl) (Nat.le_of_ble_eq_true rfl) dL_giveUp_6
abbrev rm_L_renew : Room := { frames := 8, cells := 1, slots := 6, locals := 131 }
def fL_renew (σ : x_S) (a1 : Int32) : Option (Int64 × x_S) := (x_or (eX6_renew σ a1) (fun q1 => (if q1.1 = 0 then some ((-9000000000000000001 : Int64), q1.2) else (if q1.1 = 2 then some ((-9000000000000000003 : Int64), q1.2) else none))) (Option.bind (fX6_renew σ a1) fun r5 => some ((r5.1).toInt64, r5.2)))
set_option maxHeartbeats 4000000 in
set_option maxRecDepth 100000 in
theorem mL_renew (l : Launch) (hl0 : l.stackTraces = false) (X : x_T) (sz : Nat) (σ : x_S) (a1 : Int32) (r : Int64 × x_S) (h : fL_renew σ a1 = some r) : Met l yL_renew (xl_ws yL_renew cL_renew 3 (some .long) [(0, 6, 7, 15), (0, 6, 12, 19)]) rm_L_renew (x_PcT X σ sz [.ref (X.2.2 10 32), .int a1]) (x_Ql X r.1 r.2 sz) 1 6 (x_A X sz) := by
  refine va_MetW (cc := cL_renew) (maxL := 3) (ret := (some .long)) (hh := [(0, 6, 7, 15), (0, 6, 12, 19)]) (by decide) rfl ?_
  intro p e s m args below meth c s₁ B hml hv
  obtain ⟨F, Z, ht, hI, rfl, rfl⟩ := xl_begin B hml hv
  replace F : x_F p s m _ meth c cL_renew 3 RL (some .long) := F
  have hx := F.1
  have hb := F.2.1
  have hml := F.2.2.1
  have hown := F.2.2.2.1
  have hts := F.2.2.2.2.1
  refine x_entry (vs := [.ref (X.2.2 10 32), .int a1]) (n := 3) (Nat.le_of_ble_eq_true rfl) (fun ls hl => ?_)
  replace hl : lv_has ls 3 [(0, .ref (X.2.2 10 32)), (1, .int a1)] := hl
  unfold fL_renew at h
  refine lv_aload_n hx hb dL_renew_0 rfl (lv_at hl 0 rfl) ?_
  refine lv_iload_n hx hb dL_renew_1 rfl (lv_at hl 1 rfl) ?_
  rcases x_or_el h with ⟨q1, h2, h⟩ | ⟨-, h⟩
  · refine xl_aci hI (xt_runV (rest := []) F Z hI (xX6_renew l hl0 X _ σ a1 q1 h2) g_L_29 ⟨rfl, hd_X6_renew⟩ ⟨by decide, by decide⟩ ⟨rfl, rfl⟩ (x_inO (by decide)) rfl rfl rfl rfl hl.1 rfl (Nat.le_of_ble_eq_true rfl) dL_renew_2 ⟨by decide, by decide⟩) (fun H locs ce q9 hI hce hcv hcl => ?_)
    by_cases c4 : q1.1 = 0
    · have h := x_ift h c4
      rw [c4] at hcl
      refine xl_catch1 (b := 6) (hp := 7) (e0 := 0) F Z ht (by decide) rfl (by decide) hce hcv hcl ?_
      refine lv_astore_n (lv' := [(2, .ref q9), (0, .ref (X.2.2 10 32)), (1, .int a1)]) hx hb dL_renew_7 rfl hl (by decide) rfl (fun ls hl => ?_)
      refine lv_ldc2 (v := -9000000000000000001) hx hb hown (hts _ u_cl_L_17) dL_renew_8 ?_
      rw [x_some h]
      exact xl_lret F hI (Nat.le_of_ble_eq_true rfl) (Nat.le_of_ble_eq_true rfl) dL_renew_11
    · have h := x_iff h c4
      by_cases c3 : q1.1 = 2
      · have h := x_ift h c3
        rw [c3] at hcl
        refine xl_catch2 (b := 6) (hp := 12) (e0 := 0) F Z ht (by decide) rfl (by decide) hce hcv hcl ?_
        refine lv_astore_n (lv' := [(2, .ref q9), (0, .ref (X.2.2 10 32)), (1, .int a1)]) hx hb dL_renew_12 rfl hl (by decide) rfl (fun ls hl => ?_)
        refine lv_ldc2 (v := -9000000000000000003) hx hb hown (hts _ u_cl_L_21) dL_renew_13 ?_
        rw [x_some h]
        exact xl_lret F hI (Nat.le_of_ble_eq_true rfl) (Nat.le_of_ble_eq_true rfl) dL_renew_16
      · have h := x_iff h c3
        cases h
  · obtain ⟨r5, h6, h⟩ := x_bnd h
    refine x_aci hI (x_runV (rest := []) F hI (mX6_renew l X _ σ a1 r5 h6) g_L_29 ⟨rfl, hd_X6_renew⟩ ⟨by decide, by decide⟩ ⟨rfl, rfl⟩ (x_inO (by decide)) rfl rfl rfl rfl hl.1 rfl (Nat.le_of_ble_eq_true rfl) dL_renew_2 ⟨Nat.zero_le _, Nat.zero_le _⟩) (fun H locs hI => ?_)
    refine lv_i2l hx hb dL_renew_5 rfl ?_
    rw [x_some h]
    exact xl_lret F hI (Nat.le_of_ble_eq_true rfl) (Nat.le_of_ble_eq_true rfl) dL_renew_6
abbrev rm_L_unreserve : Room := { frames := 8, cells := 1, slots := 6, locals := 131 }
def fL_unreserve (σ : x_S) (a1 : Int32) : Option (Int64 × x_S) := (x_or (eX6_unreserve σ a1) (fun q1 => (if q1.1 = 0 then some ((-9000000000000000001 : Int64), q1.2) else (if q1.1 = 2 then some ((-9000000000000000003 : Int64), q1.2) else none))) (Option.bind (fX6_unreserve σ a1) fun r5 => some ((r5.1).toInt64, r5.2)))
set_option maxHeartbeats 4000000 in
set_option maxRecDepth 100000 in
theorem mL_unreserve (l : Launch) (hl0 : l.stackTraces = false) (X : x_T) (sz : Nat) (σ : x_S) (a1 : Int32) (r : Int64 × x_S) (h : fL_unreserve σ a1 = some r) : Met l yL_unreserve (xl_ws yL_unreserve cL_unreserve 3 (some .long) [(0, 6, 7, 15), (0, 6, 12, 19)]) rm_L_unreserve (x_PcT X σ sz [.ref (X.2.2 10 32), .int a1]) (x_Ql X r.1 r.2 sz) 1 6 (x_A X sz) := by
  refine va_MetW (cc := cL_unreserve) (maxL := 3) (ret := (some .long)) (hh := [(0, 6, 7, 15), (0, 6, 12, 19)]) (by decide) rfl ?_
  intro p e s m args below meth c s₁ B hml hv
  obtain ⟨F, Z, ht, hI, rfl, rfl⟩ := xl_begin B hml hv
  replace F : x_F p s m _ meth c cL_unreserve 3 RL (some .long) := F
  have hx := F.1
  have hb := F.2.1
  have hml := F.2.2.1
  have hown := F.2.2.2.1
  have hts := F.2.2.2.2.1
  refine x_entry (vs := [.ref (X.2.2 10 32), .int a1]) (n := 3) (Nat.le_of_ble_eq_true rfl) (fun ls hl => ?_)
  replace hl : lv_has ls 3 [(0, .ref (X.2.2 10 32)), (1, .int a1)] := hl
  unfold fL_unreserve at h
  refine lv_aload_n hx hb dL_unreserve_0 rfl (lv_at hl 0 rfl) ?_
  refine lv_iload_n hx hb dL_unreserve_1 rfl (lv_at hl 1 rfl) ?_
  rcases x_or_el h with ⟨q1, h2, h⟩ | ⟨-, h⟩
  · refine xl_aci hI (xt_runV (rest := []) F Z hI (xX6_unreserve l hl0 X _ σ a1 q1 h2) g_L_32 ⟨rfl, hd_X6_unreserve⟩ ⟨by decide, by decide⟩ ⟨rfl, rfl⟩ (x_inO (by decide)) rfl rfl rfl rfl hl.1 rfl (Nat.le_of_ble_eq_true rfl) dL_unreserve_2 ⟨by decide, by decide⟩) (fun H locs ce q9 hI hce hcv hcl => ?_)
    by_cases c4 : q1.1 = 0
    · have h := x_ift h c4
      rw [c4] at hcl
      refine xl_catch1 (b := 6) (hp := 7) (e0 := 0) F Z ht (by decide) rfl (by decide) hce hcv hcl ?_
      refine lv_astore_n (lv' := [(2, .ref q9), (0, .ref (X.2.2 10 32)), (1, .int a1)]) hx hb dL_unreserve_7 rfl hl (by decide) rfl (fun ls hl => ?_)
      refine lv_ldc2 (v := -9000000000000000001) hx hb hown (hts _ u_cl_L_17) dL_unreserve_8 ?_
      rw [x_some h]
      exact xl_lret F hI (Nat.le_of_ble_eq_true rfl) (Nat.le_of_ble_eq_true rfl) dL_unreserve_11
    · have h := x_iff h c4
      by_cases c3 : q1.1 = 2
      · have h := x_ift h c3
        rw [c3] at hcl
        refine xl_catch2 (b := 6) (hp := 12) (e0 := 0) F Z ht (by decide) rfl (by decide) hce hcv hcl ?_
        refine lv_astore_n (lv' := [(2, .ref q9), (0, .ref (X.2.2 10 32)), (1, .int a1)]) hx hb dL_unreserve_12 rfl hl (by decide) rfl (fun ls hl => ?_)
        refine lv_ldc2 (v := -9000000000000000003) hx hb hown (hts _ u_cl_L_21) dL_unreserve_13 ?_
        rw [x_some h]
        exact xl_lret F hI (Nat.le_of_ble_eq_true rfl) (Nat.le_of_ble_eq_true rfl) dL_unreserve_16
      · have h := x_iff h c3
        cases h
  · obtain ⟨r5, h6, h⟩ := x_bnd h
    refine x_aci hI (x_runV (rest := []) F hI (mX6_unreserve l X _ σ a1 r5 h6) g_L_32 ⟨rfl, hd_X6_unreserve⟩ ⟨by decide, by decide⟩ ⟨rfl, rfl⟩ (x_inO (by decide)) rfl rfl rfl rfl hl.1 rfl (Nat.le_of_ble_eq_true rfl) dL_unreserve_2 ⟨Nat.zero_le _, Nat.zero_le _⟩) (fun H locs hI => ?_)
    refine lv_i2l hx hb dL_unreserve_5 rfl ?_
    rw [x_some h]
    exact xl_lret F hI (Nat.le_of_ble_eq_true rfl) (Nat.le_of_ble_eq_true rfl) dL_unreserve_6
abbrev rm_L_turnGhost : Room := { frames := 8, cells := 1, slots := 6, locals := 131 }
def fL_turnGhost (σ : x_S) (a1 : Int32) : Option (Int64 × x_S) := (x_or (eX6_turnGhost σ a1) (fun q1 => (if q1.1 = 0 then some ((-9000000000000000001 : Int64), q1.2) else none)) (Option.bind (fX6_turnGhost σ a1) fun r4 => (if r4.1 = 0 then some ((0 : Int64), r4.2) else some ((1 : Int64), r4.2))))
set_option maxHeartbeats 4000000 in
set_option maxRecDepth 100000 in
theorem mL_turnGhost (l : Launch) (hl0 : l.stackTraces = false) (X : x_T) (sz : Nat) (σ : x_S) (a1 : Int32) (r : Int64 × x_S) (h : fL_turnGhost σ a1 = some r) : Met l yL_turnGhost (xl_ws yL_turnGhost cL_turnGhost 3 (some .long) [(0, 13, 14, 15)]) rm_L_turnGhost (x_PcT X σ sz [.ref (X.2.2 10 32), .int a1]) (x_Ql X r.1 r.2 sz) 1 6 (x_A X sz) := by
  refine va_MetW (cc := cL_turnGhost) (maxL := 3) (ret := (some .long)) (hh := [(0, 13, 14, 15)]) (by decide) rfl ?_
  intro p e s m args below meth c s₁ B hml hv
  obtain ⟨F, Z, ht, hI, rfl, rfl⟩ := xl_begin B hml hv
  replace F : x_F p s m _ meth c cL_turnGhost 3 RL (some .long) := F
  have hx := F.1
  have hb := F.2.1
  have hml := F.2.2.1
  have hown := F.2.2.2.1
  have hts := F.2.2.2.2.1
  refine x_entry (vs := [.ref (X.2.2 10 32), .int a1]) (n := 3) (Nat.le_of_ble_eq_true rfl) (fun ls hl => ?_)
  replace hl : lv_has ls 3 [(0, .ref (X.2.2 10 32)), (1, .int a1)] := hl
  unfold fL_turnGhost at h
  refine lv_aload_n hx hb dL_turnGhost_0 rfl (lv_at hl 0 rfl) ?_
  refine lv_iload_n hx hb dL_turnGhost_1 rfl (lv_at hl 1 rfl) ?_
  rcases x_or_el h with ⟨q1, h2, h⟩ | ⟨-, h⟩
  · refine xl_aci hI (xt_runV (rest := []) F Z hI (xX6_turnGhost l hl0 X _ σ a1 q1 h2) g_L_35 ⟨rfl, hd_X6_turnGhost⟩ ⟨by decide, by decide⟩ ⟨rfl, rfl⟩ (x_inO (by decide)) rfl rfl rfl rfl hl.1 rfl (Nat.le_of_ble_eq_true rfl) dL_turnGhost_2 ⟨by decide, by decide⟩) (fun H locs ce q9 hI hce hcv hcl => ?_)
    by_cases c3 : q1.1 = 0
    · have h := x_ift h c3
      rw [c3] at hcl
      refine xl_catch1 (b := 13) (hp := 14) (e0 := 0) F Z ht (by decide) rfl (by decide) hce hcv hcl ?_
      refine lv_astore_n (lv' := [(2, .ref q9), (0, .ref (X.2.2 10 32)), (1, .int a1)]) hx hb dL_turnGhost_14 rfl hl (by decide) rfl (fun ls hl => ?_)
      refine lv_ldc2 (v := -9000000000000000001) hx hb hown (hts _ u_cl_L_17) dL_turnGhost_15 ?_
      rw [x_some h]
      exact xl_lret F hI (Nat.le_of_ble_eq_true rfl) (Nat.le_of_ble_eq_true rfl) dL_turnGhost_18
    · have h := x_iff h c3
      cases h
  · obtain ⟨r4, h5, h⟩ := x_bnd h
    refine x_aci hI (x_runV (rest := []) F hI (mX6_turnGhost l X _ σ a1 r4 h5) g_L_35 ⟨rfl, hd_X6_turnGhost⟩ ⟨by decide, by decide⟩ ⟨rfl, rfl⟩ (x_inO (by decide)) rfl rfl rfl rfl hl.1 rfl (Nat.le_of_ble_eq_true rfl) dL_turnGhost_2 ⟨Nat.zero_le _, Nat.zero_le _⟩) (fun H locs hI => ?_)
    refine lv_if_eq (tgt := 12) hx hb dL_turnGhost_5 (by decide) (fun c6 => ?_) (fun c6 => ?_)
    · have h := x_ift h c6
      refine lv_lconst (v := 0) hx hb dL_turnGhost_12 (by decide) ?_
      rw [x_some h]
      exact xl_lret F hI (Nat.le_of_ble_eq_true rfl) (Nat.le_of_ble_eq_true rfl) dL_turnGhost_13
    · have h := x_iff h c6
      refine lv_lconst (v := 1) hx hb dL_turnGhost_8 (by decide) ?_
      refine lv_goto (tgt := 13) hx hb dL_turnGhost_9 (by decide) ?_
      rw [x_some h]
      exact xl_lret F hI (Nat.le_of_ble_eq_true rfl) (Nat.le_of_ble_eq_true rfl) dL_turnGhost_13
abbrev rm_L_changeLease : Room := { frames := 8, cells := 1, slots := 6, locals := 132 }
def fL_changeLease (σ : x_S) (a1 : Int32) : Option (Int64 × x_S) := (x_or (eX6_changeLease σ a1) (fun q1 => (if q1.1 = 1 then some ((-9000000000000000002 : Int64), q1.2) else none)) (Option.bind (fX6_changeLease σ a1) fun r4 => some ((r4.1).toInt64, r4.2)))
set_option maxHeartbeats 4000000 in
set_option maxRecDepth 100000 in
theorem mL_changeLease (l : Launch) (hl0 : l.stackTraces = false) (X : x_T) (sz : Nat) (σ : x_S) (a1 : Int32) (r : Int64 × x_S) (h : fL_changeLease σ a1 = some r) : Met l yL_changeLease (xl_ws yL_changeLease cL_changeLease 3 (some .long) [(0, 6, 7, 42)]) rm_L_changeLease (x_PcT X σ sz [.ref (X.2.2 10 32), .int a1]) (x_Ql X r.1 r.2 sz) 1 6 (x_A X sz) := by
  refine va_MetW (cc := cL_changeLease) (maxL := 3) (ret := (some .long)) (hh := [(0, 6, 7, 42)]) (by decide) rfl ?_
  intro p e s m args below meth c s₁ B hml hv
  obtain ⟨F, Z, ht, hI, rfl, rfl⟩ := xl_begin B hml hv
  replace F : x_F p s m _ meth c cL_changeLease 3 RL (some .long) := F
  have hx := F.1
  have hb := F.2.1
  have hml := F.2.2.1
  have hown := F.2.2.2.1
  have hts := F.2.2.2.2.1
  refine x_entry (vs := [.ref (X.2.2 10 32), .int a1]) (n := 3) (Nat.le_of_ble_eq_true rfl) (fun ls hl => ?_)
  replace hl : lv_has ls 3 [(0, .ref (X.2.2 10 32)), (1, .int a1)] := hl
  unfold fL_changeLease at h
  refine lv_aload_n hx hb dL_changeLease_0 rfl (lv_at hl 0 rfl) ?_
  refine lv_iload_n hx hb dL_changeLease_1 rfl (lv_at hl 1 rfl) ?_
  rcases x_or_el h with ⟨q1, h2, h⟩ | ⟨-, h⟩
  · refine xl_aci hI (xt_runV (rest := []) F Z hI (xX6_changeLease l hl0 X _ σ a1 q1 h2) g_L_39 ⟨rfl, hd_X6_changeLease⟩ ⟨by decide, by decide⟩ ⟨rfl, rfl⟩ (x_inO (by decide)) rfl rfl rfl rfl hl.1 rfl (Nat.le_of_ble_eq_true rfl) dL_changeLease_2 ⟨by decide, by decide⟩) (fun H locs ce q9 hI hce hcv hcl => ?_)
    by_cases c3 : q1.1 = 1
    · have h := x_ift h c3
      rw [c3] at hcl
      refine xl_catch1 (b := 6) (hp := 7) (e0 := 1) F Z ht (by decide) rfl (by decide) hce hcv hcl ?_
      refine lv_astore_n (lv' := [(2, .ref q9), (0, .ref (X.2.2 10 32)), (1, .int a1)]) hx hb dL_changeLease_7 rfl hl (by decide) rfl (fun ls hl => ?_)
      refine lv_ldc2 (v := -9000000000000000002) hx hb hown (hts _ u_cl_L_44) dL_changeLease_8 ?_
      rw [x_some h]
      exact xl_lret F hI (Nat.le_of_ble_eq_true rfl) (Nat.le_of_ble_eq_true rfl) dL_changeLease_11
    · have h := x_iff h c3
      cases h
  · obtain ⟨r4, h5, h⟩ := x_bnd h
    refine x_aci hI (x_runV (rest := []) F hI (mX6_changeLease l X _ σ a1 r4 h5) g_L_39 ⟨rfl, hd_X6_changeLease⟩ ⟨by decide, by decide⟩ ⟨rfl, rfl⟩ (x_inO (by decide)) rfl rfl rfl rfl hl.1 rfl (Nat.le_of_ble_eq_true rfl) dL_changeLease_2 ⟨Nat.zero_le _, Nat.zero_le _⟩) (fun H locs hI => ?_)
    refine lv_i2l hx hb dL_changeLease_5 rfl ?_
    rw [x_some h]
    exact xl_lret F hI (Nat.le_of_ble_eq_true rfl) (Nat.le_of_ble_eq_true rfl) dL_changeLease_6
abbrev rm_L_changeHold : Room := { frames := 8, cells := 1, slots := 6, locals := 132 }
def fL_changeHold (σ : x_S) (a1 : Int32) : Option (Int64 × x_S) := (x_or (eX6_changeHold σ a1) (fun q1 => (if q1.1 = 1 then some ((-9000000000000000002 : Int64), q1.2) else none)) (Option.bind (fX6_changeHold σ a1) fun r4 => some ((r4.1).toInt64, r4.2)))
set_option maxHeartbeats 4000000 in
set_option maxRecDepth 100000 in
theorem mL_changeHold (l : Launch) (hl0 : l.stackTraces = false) (X : x_T) (sz : Nat) (σ : x_S) (a1 : Int32) (r : Int64 × x_S) (h : fL_changeHold σ a1 = some r) : Met l yL_changeHold (xl_ws yL_changeHold cL_changeHold 3 (some .long) [(0, 6, 7, 42)]) rm_L_changeHold (x_PcT X σ sz [.ref (X.2.2 10 32), .int a1]) (x_Ql X r.1 r.2 sz) 1 6 (x_A X sz) := by
  refine va_MetW (cc := cL_changeHold) (maxL := 3) (ret := (some .long)) (hh := [(0, 6, 7, 42)]) (by decide) rfl ?_
  intro p e s m args below meth c s₁ B hml hv
  obtain ⟨F, Z, ht, hI, rfl, rfl⟩ := xl_begin B hml hv
  replace F : x_F p s m _ meth c cL_changeHold 3 RL (some .long) := F
  have hx := F.1
  have hb := F.2.1
  have hml := F.2.2.1
  have hown := F.2.2.2.1
  have hts := F.2.2.2.2.1
  refine x_entry (vs := [.ref (X.2.2 10 32), .int a1]) (n := 3) (Nat.le_of_ble_eq_true rfl) (fun ls hl => ?_)
  replace hl : lv_has ls 3 [(0, .ref (X.2.2 10 32)), (1, .int a1)] := hl
  unfold fL_changeHold at h
  refine lv_aload_n hx hb dL_changeHold_0 rfl (lv_at hl 0 rfl) ?_
  refine lv_iload_n hx hb dL_changeHold_1 rfl (lv_at hl 1 rfl) ?_
  rcases x_or_el h with ⟨q1, h2, h⟩ | ⟨-, h⟩
  · refine xl_aci hI (xt_runV (rest := []) F Z hI (xX6_changeHold l hl0 X _ σ a1 q1 h2) g_L_46 ⟨rfl, hd_X6_changeHold⟩ ⟨by decide, by decide⟩ ⟨rfl, rfl⟩ (x_inO (by decide)) rfl rfl rfl rfl hl.1 rfl (Nat.le_of_ble_eq_true rfl) dL_changeHold_2 ⟨by decide, by decide⟩) (fun H locs ce q9 hI hce hcv hcl => ?_)
    by_cases c3 : q1.1 = 1
    · have h := x_ift h c3
      rw [c3] at hcl
      refine xl_catch1 (b := 6) (hp := 7) (e0 := 1) F Z ht (by decide) rfl (by decide) hce hcv hcl ?_
      refine lv_astore_n (lv' := [(2, .ref q9), (0, .ref (X.2.2 10 32)), (1, .int a1)]) hx hb dL_changeHold_7 rfl hl (by decide) rfl (fun ls hl => ?_)
      refine lv_ldc2 (v := -9000000000000000002) hx hb hown (hts _ u_cl_L_44) dL_changeHold_8 ?_
      rw [x_some h]
      exact xl_lret F hI (Nat.le_of_ble_eq_true rfl) (Nat.le_of_ble_eq_true rfl) dL_changeHold_11
    · have h := x_iff h c3
      cases h
  · obtain ⟨r4, h5, h⟩ := x_bnd h
    refine x_aci hI (x_runV (rest := []) F hI (mX6_changeHold l X _ σ a1 r4 h5) g_L_46 ⟨rfl, hd_X6_changeHold⟩ ⟨by decide, by decide⟩ ⟨rfl, rfl⟩ (x_inO (by decide)) rfl rfl rfl rfl hl.1 rfl (Nat.le_of_ble_eq_true rfl) dL_changeHold_2 ⟨Nat.zero_le _, Nat.zero_le _⟩) (fun H locs hI => ?_)
    refine lv_i2l hx hb dL_changeHold_5 rfl ?_
    rw [x_some h]
    exact xl_lret F hI (Nat.le_of_ble_eq_true rfl) (Nat.le_of_ble_eq_true rfl) dL_changeHold_6
abbrev rm_L_changeShut : Room := { frames := 8, cells := 1, slots := 6, locals := 132 }
def fL_changeShut (σ : x_S) (a1 : Int32) : Option (Int64 × x_S) := (x_or (eX6_changeShut σ a1) (fun q1 => (if q1.1 = 1 then some ((-9000000000000000002 : Int64), q1.2) else none)) (Option.bind (fX6_changeShut σ a1) fun r4 => some ((r4.1).toInt64, r4.2)))
set_option maxHeartbeats 4000000 in
set_option maxRecDepth 100000 in
theorem mL_changeShut (l : Launch) (hl0 : l.stackTraces = false) (X : x_T) (sz : Nat) (σ : x_S) (a1 : Int32) (r : Int64 × x_S) (h : fL_changeShut σ a1 = some r) : Met l yL_changeShut (xl_ws yL_changeShut cL_changeShut 3 (some .long) [(0, 6, 7, 42)]) rm_L_changeShut (x_PcT X σ sz [.ref (X.2.2 10 32), .int a1]) (x_Ql X r.1 r.2 sz) 1 6 (x_A X sz) := by
  refine va_MetW (cc := cL_changeShut) (maxL := 3) (ret := (some .long)) (hh := [(0, 6, 7, 42)]) (by decide) rfl ?_
  intro p e s m args below meth c s₁ B hml hv
  obtain ⟨F, Z, ht, hI, rfl, rfl⟩ := xl_begin B hml hv
  replace F : x_F p s m _ meth c cL_changeShut 3 RL (some .long) := F
  have hx := F.1
  have hb := F.2.1
  have hml := F.2.2.1
  have hown := F.2.2.2.1
  have hts := F.2.2.2.2.1
  refine x_entry (vs := [.ref (X.2.2 10 32), .int a1]) (n := 3) (Nat.le_of_ble_eq_true rfl) (fun ls hl => ?_)
  replace hl : lv_has ls 3 [(0, .ref (X.2.2 10 32)), (1, .int a1)] := hl
  unfold fL_changeShut at h
  refine lv_aload_n hx hb dL_changeShut_0 rfl (lv_at hl 0 rfl) ?_
  refine lv_iload_n hx hb dL_changeShut_1 rfl (lv_at hl 1 rfl) ?_
  rcases x_or_el h with ⟨q1, h2, h⟩ | ⟨-, h⟩
  · refine xl_aci hI (xt_runV (rest := []) F Z hI (xX6_changeShut l hl0 X _ σ a1 q1 h2) g_L_49 ⟨rfl, hd_X6_changeShut⟩ ⟨by decide, by decide⟩ ⟨rfl, rfl⟩ (x_inO (by decide)) rfl rfl rfl rfl hl.1 rfl (Nat.le_of_ble_eq_true rfl) dL_changeShut_2 ⟨by decide, by decide⟩) (fun H locs ce q9 hI hce hcv hcl => ?_)
    by_cases c3 : q1.1 = 1
    · have h := x_ift h c3
      rw [c3] at hcl
      refine xl_catch1 (b := 6) (hp := 7) (e0 := 1) F Z ht (by decide) rfl (by decide) hce hcv hcl ?_
      refine lv_astore_n (lv' := [(2, .ref q9), (0, .ref (X.2.2 10 32)), (1, .int a1)]) hx hb dL_changeShut_7 rfl hl (by decide) rfl (fun ls hl => ?_)
      refine lv_ldc2 (v := -9000000000000000002) hx hb hown (hts _ u_cl_L_44) dL_changeShut_8 ?_
      rw [x_some h]
      exact xl_lret F hI (Nat.le_of_ble_eq_true rfl) (Nat.le_of_ble_eq_true rfl) dL_changeShut_11
    · have h := x_iff h c3
      cases h
  · obtain ⟨r4, h5, h⟩ := x_bnd h
    refine x_aci hI (x_runV (rest := []) F hI (mX6_changeShut l X _ σ a1 r4 h5) g_L_49 ⟨rfl, hd_X6_changeShut⟩ ⟨by decide, by decide⟩ ⟨rfl, rfl⟩ (x_inO (by decide)) rfl rfl rfl rfl hl.1 rfl (Nat.le_of_ble_eq_true rfl) dL_changeShut_2 ⟨Nat.zero_le _, Nat.zero_le _⟩) (fun H locs hI => ?_)
    refine lv_i2l hx hb dL_changeShut_5 rfl ?_
    rw [x_some h]
    exact xl_lret F hI (Nat.le_of_ble_eq_true rfl) (Nat.le_of_ble_eq_true rfl) dL_changeShut_6
abbrev rm_L_deliver : Room := { frames := 8, cells := 1, slots := 6, locals := 131 }
def fL_deliver (σ : x_S) (a1 : Int32) : Option (Int64 × x_S) := (x_or (eX6_deliver σ a1) (fun q1 => (if q1.1 = 0 then some ((-9000000000000000001 : Int64), q1.2) else none)) (Option.bind (fX6_deliver σ a1) fun r4 => some ((r4.1).toInt64, r4.2)))
set_option maxHeartbeats 4000000 in
set_option maxRecDepth 100000 in
theorem mL_deliver (l : Launch) (hl0 : l.stackTraces = false) (X : x_T) (sz : Nat) (σ : x_S) (a1 : Int32) (r : Int64 × x_S) (h : fL_deliver σ a1 = some r) : Met l yL_deliver (xl_ws yL_deliver cL_deliver 3 (some .long) [(0, 6, 7, 15)]) rm_L_deliver (x_PcT X σ sz [.ref (X.2.2 10 32), .int a1]) (x_Ql X r.1 r.2 sz) 1 6 (x_A X sz) := by
  refine va_MetW (cc := cL_deliver) (maxL := 3) (ret := (some .long)) (hh := [(0, 6, 7, 15)]) (by decide) rfl ?_
  intro p e s m args below meth c s₁ B hml hv
  obtain ⟨F, Z, ht, hI, rfl, rfl⟩ := xl_begin B hml hv
  replace F : x_F p s m _ meth c cL_deliver 3 RL (some .long) := F
  have hx := F.1
  have hb := F.2.1
  have hml := F.2.2.1
  have hown := F.2.2.2.1
  have hts := F.2.2.2.2.1
  refine x_entry (vs := [.ref (X.2.2 10 32), .int a1]) (n := 3) (Nat.le_of_ble_eq_true rfl) (fun ls hl => ?_)
  replace hl : lv_has ls 3 [(0, .ref (X.2.2 10 32)), (1, .int a1)] := hl
  unfold fL_deliver at h
  refine lv_aload_n hx hb dL_deliver_0 rfl (lv_at hl 0 rfl) ?_
  refine lv_iload_n hx hb dL_deliver_1 rfl (lv_at hl 1 rfl) ?_
  rcases x_or_el h with ⟨q1, h2, h⟩ | ⟨-, h⟩
  · refine xl_aci hI (xt_runV (rest := []) F Z hI (xX6_deliver l hl0 X _ σ a1 q1 h2) g_L_52 ⟨rfl, hd_X6_deliver⟩ ⟨by decide, by decide⟩ ⟨rfl, rfl⟩ (x_inO (by decide)) rfl rfl rfl rfl hl.1 rfl (Nat.le_of_ble_eq_true rfl) dL_deliver_2 ⟨by decide, by decide⟩) (fun H locs ce q9 hI hce hcv hcl => ?_)
    by_cases c3 : q1.1 = 0
    · have h := x_ift h c3
      rw [c3] at hcl
      refine xl_catch1 (b := 6) (hp := 7) (e0 := 0) F Z ht (by decide) rfl (by decide) hce hcv hcl ?_
      refine lv_astore_n (lv' := [(2, .ref q9), (0, .ref (X.2.2 10 32)), (1, .int a1)]) hx hb dL_deliver_7 rfl hl (by decide) rfl (fun ls hl => ?_)
      refine lv_ldc2 (v := -9000000000000000001) hx hb hown (hts _ u_cl_L_17) dL_deliver_8 ?_
      rw [x_some h]
      exact xl_lret F hI (Nat.le_of_ble_eq_true rfl) (Nat.le_of_ble_eq_true rfl) dL_deliver_11
    · have h := x_iff h c3
      cases h
  · obtain ⟨r4, h5, h⟩ := x_bnd h
    refine x_aci hI (x_runV (rest := []) F hI (mX6_deliver l X _ σ a1 r4 h5) g_L_52 ⟨rfl, hd_X6_deliver⟩ ⟨by decide, by decide⟩ ⟨rfl, rfl⟩ (x_inO (by decide)) rfl rfl rfl rfl hl.1 rfl (Nat.le_of_ble_eq_true rfl) dL_deliver_2 ⟨Nat.zero_le _, Nat.zero_le _⟩) (fun H locs hI => ?_)
    refine lv_i2l hx hb dL_deliver_5 rfl ?_
    rw [x_some h]
    exact xl_lret F hI (Nat.le_of_ble_eq_true rfl) (Nat.le_of_ble_eq_true rfl) dL_deliver_6
abbrev rm_L_lose : Room := { frames := 8, cells := 1, slots := 6, locals := 131 }
def fL_lose (σ : x_S) (a1 : Int32) : Option (Int64 × x_S) := (x_or (eX6_lose σ a1) (fun q1 => (if q1.1 = 0 then some ((-9000000000000000001 : Int64), q1.2) else none)) (Option.bind (fX6_lose σ a1) fun r4 => some ((r4.1).toInt64, r4.2)))
set_option maxHeartbeats 4000000 in
set_option maxRecDepth 100000 in
theorem mL_lose (l : Launch) (hl0 : l.stackTraces = false) (X : x_T) (sz : Nat) (σ : x_S) (a1 : Int32) (r : Int64 × x_S) (h : fL_lose σ a1 = some r) : Met l yL_lose (xl_ws yL_lose cL_lose 3 (some .long) [(0, 6, 7, 15)]) rm_L_lose (x_PcT X σ sz [.ref (X.2.2 10 32), .int a1]) (x_Ql X r.1 r.2 sz) 1 6 (x_A X sz) := by
  refine va_MetW (cc := cL_lose) (maxL := 3) (ret := (some .long)) (hh := [(0, 6, 7, 15)]) (by decide) rfl ?_
  intro p e s m args below meth c s₁ B hml hv
  obtain ⟨F, Z, ht, hI, rfl, rfl⟩ := xl_begin B hml hv
  replace F : x_F p s m _ meth c cL_lose 3 RL (some .long) := F
  have hx := F.1
  have hb := F.2.1
  have hml := F.2.2.1
  have hown := F.2.2.2.1
  have hts := F.2.2.2.2.1
  refine x_entry (vs := [.ref (X.2.2 10 32), .int a1]) (n := 3) (Nat.le_of_ble_eq_true rfl) (fun ls hl => ?_)
  replace hl : lv_has ls 3 [(0, .ref (X.2.2 10 32)), (1, .int a1)] := hl
  unfold fL_lose at h
  refine lv_aload_n hx hb dL_lose_0 rfl (lv_at hl 0 rfl) ?_
  refine lv_iload_n hx hb dL_lose_1 rfl (lv_at hl 1 rfl) ?_
  rcases x_or_el h with ⟨q1, h2, h⟩ | ⟨-, h⟩
  · refine xl_aci hI (xt_runV (rest := []) F Z hI (xX6_lose l hl0 X _ σ a1 q1 h2) g_L_55 ⟨rfl, hd_X6_lose⟩ ⟨by decide, by decide⟩ ⟨rfl, rfl⟩ (x_inO (by decide)) rfl rfl rfl rfl hl.1 rfl (Nat.le_of_ble_eq_true rfl) dL_lose_2 ⟨by decide, by decide⟩) (fun H locs ce q9 hI hce hcv hcl => ?_)
    by_cases c3 : q1.1 = 0
    · have h := x_ift h c3
      rw [c3] at hcl
      refine xl_catch1 (b := 6) (hp := 7) (e0 := 0) F Z ht (by decide) rfl (by decide) hce hcv hcl ?_
      refine lv_astore_n (lv' := [(2, .ref q9), (0, .ref (X.2.2 10 32)), (1, .int a1)]) hx hb dL_lose_7 rfl hl (by decide) rfl (fun ls hl => ?_)
      refine lv_ldc2 (v := -9000000000000000001) hx hb hown (hts _ u_cl_L_17) dL_lose_8 ?_
      rw [x_some h]
      exact xl_lret F hI (Nat.le_of_ble_eq_true rfl) (Nat.le_of_ble_eq_true rfl) dL_lose_11
    · have h := x_iff h c3
      cases h
  · obtain ⟨r4, h5, h⟩ := x_bnd h
    refine x_aci hI (x_runV (rest := []) F hI (mX6_lose l X _ σ a1 r4 h5) g_L_55 ⟨rfl, hd_X6_lose⟩ ⟨by decide, by decide⟩ ⟨rfl, rfl⟩ (x_inO (by decide)) rfl rfl rfl rfl hl.1 rfl (Nat.le_of_ble_eq_true rfl) dL_lose_2 ⟨Nat.zero_le _, Nat.zero_le _⟩) (fun H locs hI => ?_)
    refine lv_i2l hx hb dL_lose_5 rfl ?_
    rw [x_some h]
    exact xl_lret F hI (Nat.le_of_ble_eq_true rfl) (Nat.le_of_ble_eq_true rfl) dL_lose_6
abbrev rm_L_tick : Room := { frames := 8, cells := 1, slots := 6, locals := 131 }
def fL_tick (σ : x_S) (a1 : Int32) : Option (Int64 × x_S) := (x_or (eX6_tick σ a1) (fun q1 => (if q1.1 = 1 then some ((-9000000000000000002 : Int64), q1.2) else none)) (Option.bind (fX6_tick σ a1) fun r4 => some ((r4.1).toInt64, r4.2)))
set_option maxHeartbeats 4000000 in
set_option maxRecDepth 100000 in
theorem mL_tick (l : Launch) (hl0 : l.stackTraces = false) (X : x_T) (sz : Nat) (σ : x_S) (a1 : Int32) (r : Int64 × x_S) (h : fL_tick σ a1 = some r) : Met l yL_tick (xl_ws yL_tick cL_tick 3 (some .long) [(0, 6, 7, 42)]) rm_L_tick (x_PcT X σ sz [.ref (X.2.2 10 32), .int a1]) (x_Ql X r.1 r.2 sz) 1 6 (x_A X sz) := by
  refine va_MetW (cc := cL_tick) (maxL := 3) (ret := (some .long)) (hh := [(0, 6, 7, 42)]) (by decide) rfl ?_
  intro p e s m args below meth c s₁ B hml hv
  obtain ⟨F, Z, ht, hI, rfl, rfl⟩ := xl_begin B hml hv
  replace F : x_F p s m _ meth c cL_tick 3 RL (some .long) := F
  have hx := F.1
  have hb := F.2.1
  have hml := F.2.2.1
  have hown := F.2.2.2.1
  have hts := F.2.2.2.2.1
  refine x_entry (vs := [.ref (X.2.2 10 32), .int a1]) (n := 3) (Nat.le_of_ble_eq_true rfl) (fun ls hl => ?_)
  replace hl : lv_has ls 3 [(0, .ref (X.2.2 10 32)), (1, .int a1)] := hl
  unfold fL_tick at h
  refine lv_aload_n hx hb dL_tick_0 rfl (lv_at hl 0 rfl) ?_
  refine lv_iload_n hx hb dL_tick_1 rfl (lv_at hl 1 rfl) ?_
  rcases x_or_el h with ⟨q1, h2, h⟩ | ⟨-, h⟩
  · refine xl_aci hI (xt_runV (rest := []) F Z hI (xX6_tick l hl0 X _ σ a1 q1 h2) g_L_58 ⟨rfl, hd_X6_tick⟩ ⟨by decide, by decide⟩ ⟨rfl, rfl⟩ (x_inO (by decide)) rfl rfl rfl rfl hl.1 rfl (Nat.le_of_ble_eq_true rfl) dL_tick_2 ⟨by decide, by decide⟩) (fun H locs ce q9 hI hce hcv hcl => ?_)
    by_cases c3 : q1.1 = 1
    · have h := x_ift h c3
      rw [c3] at hcl
      refine xl_catch1 (b := 6) (hp := 7) (e0 := 1) F Z ht (by decide) rfl (by decide) hce hcv hcl ?_
      refine lv_astore_n (lv' := [(2, .ref q9), (0, .ref (X.2.2 10 32)), (1, .int a1)]) hx hb dL_tick_7 rfl hl (by decide) rfl (fun ls hl => ?_)
      refine lv_ldc2 (v := -9000000000000000002) hx hb hown (hts _ u_cl_L_44) dL_tick_8 ?_
      rw [x_some h]
      exact xl_lret F hI (Nat.le_of_ble_eq_true rfl) (Nat.le_of_ble_eq_true rfl) dL_tick_11
    · have h := x_iff h c3
      cases h
  · obtain ⟨r4, h5, h⟩ := x_bnd h
    refine x_aci hI (x_runV (rest := []) F hI (mX6_tick l X _ σ a1 r4 h5) g_L_58 ⟨rfl, hd_X6_tick⟩ ⟨by decide, by decide⟩ ⟨rfl, rfl⟩ (x_inO (by decide)) rfl rfl rfl rfl hl.1 rfl (Nat.le_of_ble_eq_true rfl) dL_tick_2 ⟨Nat.zero_le _, Nat.zero_le _⟩) (fun H locs hI => ?_)
    refine lv_i2l hx hb dL_tick_5 rfl ?_
    rw [x_some h]
    exact xl_lret F hI (Nat.le_of_ble_eq_true rfl) (Nat.le_of_ble_eq_true rfl) dL_tick_6
abbrev rm_L_append : Room := { frames := 8, cells := 1, slots := 6, locals := 125 }
def fL_append (σ : x_S) (a1 : Int32) : Option (Int64 × x_S) := (x_or (eX6_append σ a1) (fun q1 => (if q1.1 = 1 then some ((-9000000000000000002 : Int64), q1.2) else (if q1.1 = 2 then some ((-9000000000000000003 : Int64), q1.2) else none))) (Option.bind (fX6_append σ a1) fun r5 => some ((r5.1).toInt64, r5.2)))
set_option maxHeartbeats 4000000 in
set_option maxRecDepth 100000 in
theorem mL_append (l : Launch) (hl0 : l.stackTraces = false) (X : x_T) (sz : Nat) (σ : x_S) (a1 : Int32) (r : Int64 × x_S) (h : fL_append σ a1 = some r) : Met l yL_append (xl_ws yL_append cL_append 3 (some .long) [(0, 6, 7, 42), (0, 6, 12, 19)]) rm_L_append (x_PcT X σ sz [.ref (X.2.2 10 32), .int a1]) (x_Ql X r.1 r.2 sz) 1 6 (x_A X sz) := by
  refine va_MetW (cc := cL_append) (maxL := 3) (ret := (some .long)) (hh := [(0, 6, 7, 42), (0, 6, 12, 19)]) (by decide) rfl ?_
  intro p e s m args below meth c s₁ B hml hv
  obtain ⟨F, Z, ht, hI, rfl, rfl⟩ := xl_begin B hml hv
  replace F : x_F p s m _ meth c cL_append 3 RL (some .long) := F
  have hx := F.1
  have hb := F.2.1
  have hml := F.2.2.1
  have hown := F.2.2.2.1
  have hts := F.2.2.2.2.1
  refine x_entry (vs := [.ref (X.2.2 10 32), .int a1]) (n := 3) (Nat.le_of_ble_eq_true rfl) (fun ls hl => ?_)
  replace hl : lv_has ls 3 [(0, .ref (X.2.2 10 32)), (1, .int a1)] := hl
  unfold fL_append at h
  refine lv_aload_n hx hb dL_append_0 rfl (lv_at hl 0 rfl) ?_
  refine lv_iload_n hx hb dL_append_1 rfl (lv_at hl 1 rfl) ?_
  rcases x_or_el h with ⟨q1, h2, h⟩ | ⟨-, h⟩
  · refine xl_aci hI (xt_runV (rest := []) F Z hI (xX6_append l hl0 X _ σ a1 q1 h2) g_L_61 ⟨rfl, hd_X6_append⟩ ⟨by decide, by decide⟩ ⟨rfl, rfl⟩ (x_inO (by decide)) rfl rfl rfl rfl hl.1 rfl (Nat.le_of_ble_eq_true rfl) dL_append_2 ⟨by decide, by decide⟩) (fun H locs ce q9 hI hce hcv hcl => ?_)
    by_cases c4 : q1.1 = 1
    · have h := x_ift h c4
      rw [c4] at hcl
      refine xl_catch1 (b := 6) (hp := 7) (e0 := 1) F Z ht (by decide) rfl (by decide) hce hcv hcl ?_
      refine lv_astore_n (lv' := [(2, .ref q9), (0, .ref (X.2.2 10 32)), (1, .int a1)]) hx hb dL_append_7 rfl hl (by decide) rfl (fun ls hl => ?_)
      refine lv_ldc2 (v := -9000000000000000002) hx hb hown (hts _ u_cl_L_44) dL_append_8 ?_
      rw [x_some h]
      exact xl_lret F hI (Nat.le_of_ble_eq_true rfl) (Nat.le_of_ble_eq_true rfl) dL_append_11
    · have h := x_iff h c4
      by_cases c3 : q1.1 = 2
      · have h := x_ift h c3
        rw [c3] at hcl
        refine xl_catch2 (b := 6) (hp := 12) (e0 := 1) F Z ht (by decide) rfl (by decide) hce hcv hcl ?_
        refine lv_astore_n (lv' := [(2, .ref q9), (0, .ref (X.2.2 10 32)), (1, .int a1)]) hx hb dL_append_12 rfl hl (by decide) rfl (fun ls hl => ?_)
        refine lv_ldc2 (v := -9000000000000000003) hx hb hown (hts _ u_cl_L_21) dL_append_13 ?_
        rw [x_some h]
        exact xl_lret F hI (Nat.le_of_ble_eq_true rfl) (Nat.le_of_ble_eq_true rfl) dL_append_16
      · have h := x_iff h c3
        cases h
  · obtain ⟨r5, h6, h⟩ := x_bnd h
    refine x_aci hI (x_runV (rest := []) F hI (mX6_append l X _ σ a1 r5 h6) g_L_61 ⟨rfl, hd_X6_append⟩ ⟨by decide, by decide⟩ ⟨rfl, rfl⟩ (x_inO (by decide)) rfl rfl rfl rfl hl.1 rfl (Nat.le_of_ble_eq_true rfl) dL_append_2 ⟨Nat.zero_le _, Nat.zero_le _⟩) (fun H locs hI => ?_)
    refine lv_i2l hx hb dL_append_5 rfl ?_
    rw [x_some h]
    exact xl_lret F hI (Nat.le_of_ble_eq_true rfl) (Nat.le_of_ble_eq_true rfl) dL_append_6
abbrev rm_L_play : Room := { frames := 8, cells := 1, slots := 6, locals := 163 }
def fL_play (σ : x_S) : Option (Int64 × x_S) := (x_or (eX6_play σ ) (fun q1 => (if q1.1 = 1 then some ((-9000000000000000002 : Int64), q1.2) else (if q1.1 = 2 then some ((-9000000000000000003 : Int64), q1.2) else none))) (Option.bind (fX6_play σ ) fun r5 => some ((r5.1).toInt64, r5.2)))
set_option maxHeartbeats 4000000 in
set_option maxRecDepth 100000 in
theorem mL_play (l : Launch) (hl0 : l.stackTraces = false) (X : x_T) (sz : Nat) (σ : x_S) (r : Int64 × x_S) (h : fL_play σ  = some r) : Met l yL_play (xl_ws yL_play cL_play 2 (some .long) [(0, 5, 6, 42), (0, 5, 11, 19)]) rm_L_play (x_PcT X σ sz [.ref (X.2.2 10 32)]) (x_Ql X r.1 r.2 sz) 1 6 (x_A X sz) := by
  refine va_MetW (cc := cL_play) (maxL := 2) (ret := (some .long)) (hh := [(0, 5, 6, 42), (0, 5, 11, 19)]) (by decide) rfl ?_
  intro p e s m args below meth c s₁ B hml hv
  obtain ⟨F, Z, ht, hI, rfl, rfl⟩ := xl_begin B hml hv
  replace F : x_F p s m _ meth c cL_play 2 RL (some .long) := F
  have hx := F.1
  have hb := F.2.1
  have hml := F.2.2.1
  have hown := F.2.2.2.1
  have hts := F.2.2.2.2.1
  refine x_entry (vs := [.ref (X.2.2 10 32)]) (n := 2) (Nat.le_of_ble_eq_true rfl) (fun ls hl => ?_)
  replace hl : lv_has ls 2 [(0, .ref (X.2.2 10 32))] := hl
  unfold fL_play at h
  refine lv_aload_n hx hb dL_play_0 rfl (lv_at hl 0 rfl) ?_
  rcases x_or_el h with ⟨q1, h2, h⟩ | ⟨-, h⟩
  · refine xl_aci hI (xt_runV (rest := []) F Z hI (xX6_play l hl0 X _ σ  q1 h2) g_L_64 ⟨rfl, hd_X6_play⟩ ⟨by decide, by decide⟩ ⟨rfl, rfl⟩ (x_inO (by decide)) rfl rfl rfl rfl hl.1 rfl (Nat.le_of_ble_eq_true rfl) dL_play_1 ⟨by decide, by decide⟩) (fun H locs ce q9 hI hce hcv hcl => ?_)
    by_cases c4 : q1.1 = 1
    · have h := x_ift h c4
      rw [c4] at hcl
      refine xl_catch1 (b := 5) (hp := 6) (e0 := 1) F Z ht (by decide) rfl (by decide) hce hcv hcl ?_
      refine lv_astore_n (lv' := [(1, .ref q9), (0, .ref (X.2.2 10 32))]) hx hb dL_play_6 rfl hl (by decide) rfl (fun ls hl => ?_)
      refine lv_ldc2 (v := -9000000000000000002) hx hb hown (hts _ u_cl_L_44) dL_play_7 ?_
      rw [x_some h]
      exact xl_lret F hI (Nat.le_of_ble_eq_true rfl) (Nat.le_of_ble_eq_true rfl) dL_play_10
    · have h := x_iff h c4
      by_cases c3 : q1.1 = 2
      · have h := x_ift h c3
        rw [c3] at hcl
        refine xl_catch2 (b := 5) (hp := 11) (e0 := 1) F Z ht (by decide) rfl (by decide) hce hcv hcl ?_
        refine lv_astore_n (lv' := [(1, .ref q9), (0, .ref (X.2.2 10 32))]) hx hb dL_play_11 rfl hl (by decide) rfl (fun ls hl => ?_)
        refine lv_ldc2 (v := -9000000000000000003) hx hb hown (hts _ u_cl_L_21) dL_play_12 ?_
        rw [x_some h]
        exact xl_lret F hI (Nat.le_of_ble_eq_true rfl) (Nat.le_of_ble_eq_true rfl) dL_play_15
      · have h := x_iff h c3
        cases h
  · obtain ⟨r5, h6, h⟩ := x_bnd h
    refine x_aci hI (x_runV (rest := []) F hI (mX6_play l X _ σ  r5 h6) g_L_64 ⟨rfl, hd_X6_play⟩ ⟨by decide, by decide⟩ ⟨rfl, rfl⟩ (x_inO (by decide)) rfl rfl rfl rfl hl.1 rfl (Nat.le_of_ble_eq_true rfl) dL_play_1 ⟨Nat.zero_le _, Nat.zero_le _⟩) (fun H locs hI => ?_)
    refine lv_i2l hx hb dL_play_4 rfl ?_
    rw [x_some h]
    exact xl_lret F hI (Nat.le_of_ble_eq_true rfl) (Nat.le_of_ble_eq_true rfl) dL_play_5
abbrev rm_L_doingOf : Room := { frames := 8, cells := 1, slots := 6, locals := 123 }
def fL_doingOf (σ : x_S) (a1 : Int32) : Option (Int64 × x_S) := (x_or (eX6_doingOf σ a1) (fun q1 => (if q1 = 0 then some ((-9000000000000000001 : Int64), σ) else none)) (Option.bind (fX6_doingOf σ a1) fun r4 => some (r4.toInt64, σ)))
set_option maxHeartbeats 4000000 in
set_option maxRecDepth 100000 in
theorem mL_doingOf (l : Launch) (hl0 : l.stackTraces = false) (X : x_T) (sz : Nat) (σ : x_S) (a1 : Int32) (r : Int64 × x_S) (h : fL_doingOf σ a1 = some r) : Met l yL_doingOf (xl_ws yL_doingOf cL_doingOf 3 (some .long) [(0, 6, 7, 15)]) rm_L_doingOf (x_PcT X σ sz [.ref (X.2.2 10 32), .int a1]) (x_Ql X r.1 r.2 sz) 1 6 (x_A X sz) := by
  refine va_MetW (cc := cL_doingOf) (maxL := 3) (ret := (some .long)) (hh := [(0, 6, 7, 15)]) (by decide) rfl ?_
  intro p e s m args below meth c s₁ B hml hv
  obtain ⟨F, Z, ht, hI, rfl, rfl⟩ := xl_begin B hml hv
  replace F : x_F p s m _ meth c cL_doingOf 3 RL (some .long) := F
  have hx := F.1
  have hb := F.2.1
  have hml := F.2.2.1
  have hown := F.2.2.2.1
  have hts := F.2.2.2.2.1
  refine x_entry (vs := [.ref (X.2.2 10 32), .int a1]) (n := 3) (Nat.le_of_ble_eq_true rfl) (fun ls hl => ?_)
  replace hl : lv_has ls 3 [(0, .ref (X.2.2 10 32)), (1, .int a1)] := hl
  unfold fL_doingOf at h
  refine lv_aload_n hx hb dL_doingOf_0 rfl (lv_at hl 0 rfl) ?_
  refine lv_iload_n hx hb dL_doingOf_1 rfl (lv_at hl 1 rfl) ?_
  rcases x_or_el h with ⟨q1, h2, h⟩ | ⟨-, h⟩
  · refine xl_aci hI (xt_runV (rest := []) F Z hI (xX6_doingOf l hl0 X _ σ a1 q1 h2) g_L_68 ⟨rfl, hd_X6_doingOf⟩ ⟨by decide, by decide⟩ ⟨rfl, rfl⟩ (x_inO (by decide)) rfl rfl rfl rfl hl.1 rfl (Nat.le_of_ble_eq_true rfl) dL_doingOf_2 ⟨by decide, by decide⟩) (fun H locs ce q9 hI hce hcv hcl => ?_)
    by_cases c3 : q1 = 0
    · have h := x_ift h c3
      rw [c3] at hcl
      refine xl_catch1 (b := 6) (hp := 7) (e0 := 0) F Z ht (by decide) rfl (by decide) hce hcv hcl ?_
      refine lv_astore_n (lv' := [(2, .ref q9), (0, .ref (X.2.2 10 32)), (1, .int a1)]) hx hb dL_doingOf_7 rfl hl (by decide) rfl (fun ls hl => ?_)
      refine lv_ldc2 (v := -9000000000000000001) hx hb hown (hts _ u_cl_L_17) dL_doingOf_8 ?_
      rw [x_some h]
      exact xl_lret F hI (Nat.le_of_ble_eq_true rfl) (Nat.le_of_ble_eq_true rfl) dL_doingOf_11
    · have h := x_iff h c3
      cases h
  · obtain ⟨r4, h5, h⟩ := x_bnd h
    refine x_aci hI (x_runV (rest := []) F hI (mX6_doingOf l X _ σ a1 r4 h5) g_L_68 ⟨rfl, hd_X6_doingOf⟩ ⟨by decide, by decide⟩ ⟨rfl, rfl⟩ (x_inO (by decide)) rfl rfl rfl rfl hl.1 rfl (Nat.le_of_ble_eq_true rfl) dL_doingOf_2 ⟨Nat.zero_le _, Nat.zero_le _⟩) (fun H locs hI => ?_)
    refine lv_i2l hx hb dL_doingOf_5 rfl ?_
    rw [x_some h]
    exact xl_lret F hI (Nat.le_of_ble_eq_true rfl) (Nat.le_of_ble_eq_true rfl) dL_doingOf_6
abbrev rm_L_roomOf : Room := { frames := 8, cells := 1, slots := 6, locals := 123 }
def fL_roomOf (σ : x_S) (a1 : Int32) : Option (Int64 × x_S) := (x_or (eX6_roomOf σ a1) (fun q1 => (if q1 = 0 then some ((-9000000000000000001 : Int64), σ) else (if q1 = 2 then some ((-9000000000000000003 : Int64), σ) else none))) (Option.bind (fX6_roomOf σ a1) fun r5 => some (r5.toInt64, σ)))
set_option maxHeartbeats 4000000 in
set_option maxRecDepth 100000 in
theorem mL_roomOf (l : Launch) (hl0 : l.stackTraces = false) (X : x_T) (sz : Nat) (σ : x_S) (a1 : Int32) (r : Int64 × x_S) (h : fL_roomOf σ a1 = some r) : Met l yL_roomOf (xl_ws yL_roomOf cL_roomOf 3 (some .long) [(0, 6, 7, 15), (0, 6, 12, 19)]) rm_L_roomOf (x_PcT X σ sz [.ref (X.2.2 10 32), .int a1]) (x_Ql X r.1 r.2 sz) 1 6 (x_A X sz) := by
  refine va_MetW (cc := cL_roomOf) (maxL := 3) (ret := (some .long)) (hh := [(0, 6, 7, 15), (0, 6, 12, 19)]) (by decide) rfl ?_
  intro p e s m args below meth c s₁ B hml hv
  obtain ⟨F, Z, ht, hI, rfl, rfl⟩ := xl_begin B hml hv
  replace F : x_F p s m _ meth c cL_roomOf 3 RL (some .long) := F
  have hx := F.1
  have hb := F.2.1
  have hml := F.2.2.1
  have hown := F.2.2.2.1
  have hts := F.2.2.2.2.1
  refine x_entry (vs := [.ref (X.2.2 10 32), .int a1]) (n := 3) (Nat.le_of_ble_eq_true rfl) (fun ls hl => ?_)
  replace hl : lv_has ls 3 [(0, .ref (X.2.2 10 32)), (1, .int a1)] := hl
  unfold fL_roomOf at h
  refine lv_aload_n hx hb dL_roomOf_0 rfl (lv_at hl 0 rfl) ?_
  refine lv_iload_n hx hb dL_roomOf_1 rfl (lv_at hl 1 rfl) ?_
  rcases x_or_el h with ⟨q1, h2, h⟩ | ⟨-, h⟩
  · refine xl_aci hI (xt_runV (rest := []) F Z hI (xX6_roomOf l hl0 X _ σ a1 q1 h2) g_L_71 ⟨rfl, hd_X6_roomOf⟩ ⟨by decide, by decide⟩ ⟨rfl, rfl⟩ (x_inO (by decide)) rfl rfl rfl rfl hl.1 rfl (Nat.le_of_ble_eq_true rfl) dL_roomOf_2 ⟨by decide, by decide⟩) (fun H locs ce q9 hI hce hcv hcl => ?_)
    by_cases c4 : q1 = 0
    · have h := x_ift h c4
      rw [c4] at hcl
      refine xl_catch1 (b := 6) (hp := 7) (e0 := 0) F Z ht (by decide) rfl (by decide) hce hcv hcl ?_
      refine lv_astore_n (lv' := [(2, .ref q9), (0, .ref (X.2.2 10 32)), (1, .int a1)]) hx hb dL_roomOf_7 rfl hl (by decide) rfl (fun ls hl => ?_)
      refine lv_ldc2 (v := -9000000000000000001) hx hb hown (hts _ u_cl_L_17) dL_roomOf_8 ?_
      rw [x_some h]
      exact xl_lret F hI (Nat.le_of_ble_eq_true rfl) (Nat.le_of_ble_eq_true rfl) dL_roomOf_11
    · have h := x_iff h c4
      by_cases c3 : q1 = 2
      · have h := x_ift h c3
        rw [c3] at hcl
        refine xl_catch2 (b := 6) (hp := 12) (e0 := 0) F Z ht (by decide) rfl (by decide) hce hcv hcl ?_
        refine lv_astore_n (lv' := [(2, .ref q9), (0, .ref (X.2.2 10 32)), (1, .int a1)]) hx hb dL_roomOf_12 rfl hl (by decide) rfl (fun ls hl => ?_)
        refine lv_ldc2 (v := -9000000000000000003) hx hb hown (hts _ u_cl_L_21) dL_roomOf_13 ?_
        rw [x_some h]
        exact xl_lret F hI (Nat.le_of_ble_eq_true rfl) (Nat.le_of_ble_eq_true rfl) dL_roomOf_16
      · have h := x_iff h c3
        cases h
  · obtain ⟨r5, h6, h⟩ := x_bnd h
    refine x_aci hI (x_runV (rest := []) F hI (mX6_roomOf l X _ σ a1 r5 h6) g_L_71 ⟨rfl, hd_X6_roomOf⟩ ⟨by decide, by decide⟩ ⟨rfl, rfl⟩ (x_inO (by decide)) rfl rfl rfl rfl hl.1 rfl (Nat.le_of_ble_eq_true rfl) dL_roomOf_2 ⟨Nat.zero_le _, Nat.zero_le _⟩) (fun H locs hI => ?_)
    refine lv_i2l hx hb dL_roomOf_5 rfl ?_
    rw [x_some h]
    exact xl_lret F hI (Nat.le_of_ble_eq_true rfl) (Nat.le_of_ble_eq_true rfl) dL_roomOf_6
abbrev rm_L_ticksLeft : Room := { frames := 8, cells := 1, slots := 6, locals := 123 }
def fL_ticksLeft (σ : x_S) (a1 : Int32) : Option (Int64 × x_S) := (x_or (eX6_ticksLeft σ a1) (fun q1 => (if q1 = 0 then some ((-9000000000000000001 : Int64), σ) else (if q1 = 2 then some ((-9000000000000000003 : Int64), σ) else none))) (Option.bind (fX6_ticksLeft σ a1) fun r5 => some (r5.toInt64, σ)))
set_option maxHeartbeats 4000000 in
set_option maxRecDepth 100000 in
theorem mL_ticksLeft (l : Launch) (hl0 : l.stackTraces = false) (X : x_T) (sz : Nat) (σ : x_S) (a1 : Int32) (r : Int64 × x_S) (h : fL_ticksLeft σ a1 = some r) : Met l yL_ticksLeft (xl_ws yL_ticksLeft cL_ticksLeft 3 (some .long) [(0, 6, 7, 15), (0, 6, 12, 19)]) rm_L_ticksLeft (x_PcT X σ sz [.ref (X.2.2 10 32), .int a1]) (x_Ql X r.1 r.2 sz) 1 6 (x_A X sz) := by
  refine va_MetW (cc := cL_ticksLeft) (maxL := 3) (ret := (some .long)) (hh := [(0, 6, 7, 15), (0, 6, 12, 19)]) (by decide) rfl ?_
  intro p e s m args below meth c s₁ B hml hv
  obtain ⟨F, Z, ht, hI, rfl, rfl⟩ := xl_begin B hml hv
  replace F : x_F p s m _ meth c cL_ticksLeft 3 RL (some .long) := F
  have hx := F.1
  have hb := F.2.1
  have hml := F.2.2.1
  have hown := F.2.2.2.1
  have hts := F.2.2.2.2.1
  refine x_entry (vs := [.ref (X.2.2 10 32), .int a1]) (n := 3) (Nat.le_of_ble_eq_true rfl) (fun ls hl => ?_)
  replace hl : lv_has ls 3 [(0, .ref (X.2.2 10 32)), (1, .int a1)] := hl
  unfold fL_ticksLeft at h
  refine lv_aload_n hx hb dL_ticksLeft_0 rfl (lv_at hl 0 rfl) ?_
  refine lv_iload_n hx hb dL_ticksLeft_1 rfl (lv_at hl 1 rfl) ?_
  rcases x_or_el h with ⟨q1, h2, h⟩ | ⟨-, h⟩
  · refine xl_aci hI (xt_runV (rest := []) F Z hI (xX6_ticksLeft l hl0 X _ σ a1 q1 h2) g_L_74 ⟨rfl, hd_X6_ticksLeft⟩ ⟨by decide, by decide⟩ ⟨rfl, rfl⟩ (x_inO (by decide)) rfl rfl rfl rfl hl.1 rfl (Nat.le_of_ble_eq_true rfl) dL_ticksLeft_2 ⟨by decide, by decide⟩) (fun H locs ce q9 hI hce hcv hcl => ?_)
    by_cases c4 : q1 = 0
    · have h := x_ift h c4
      rw [c4] at hcl
      refine xl_catch1 (b := 6) (hp := 7) (e0 := 0) F Z ht (by decide) rfl (by decide) hce hcv hcl ?_
      refine lv_astore_n (lv' := [(2, .ref q9), (0, .ref (X.2.2 10 32)), (1, .int a1)]) hx hb dL_ticksLeft_7 rfl hl (by decide) rfl (fun ls hl => ?_)
      refine lv_ldc2 (v := -9000000000000000001) hx hb hown (hts _ u_cl_L_17) dL_ticksLeft_8 ?_
      rw [x_some h]
      exact xl_lret F hI (Nat.le_of_ble_eq_true rfl) (Nat.le_of_ble_eq_true rfl) dL_ticksLeft_11
    · have h := x_iff h c4
      by_cases c3 : q1 = 2
      · have h := x_ift h c3
        rw [c3] at hcl
        refine xl_catch2 (b := 6) (hp := 12) (e0 := 0) F Z ht (by decide) rfl (by decide) hce hcv hcl ?_
        refine lv_astore_n (lv' := [(2, .ref q9), (0, .ref (X.2.2 10 32)), (1, .int a1)]) hx hb dL_ticksLeft_12 rfl hl (by decide) rfl (fun ls hl => ?_)
        refine lv_ldc2 (v := -9000000000000000003) hx hb hown (hts _ u_cl_L_21) dL_ticksLeft_13 ?_
        rw [x_some h]
        exact xl_lret F hI (Nat.le_of_ble_eq_true rfl) (Nat.le_of_ble_eq_true rfl) dL_ticksLeft_16
      · have h := x_iff h c3
        cases h
  · obtain ⟨r5, h6, h⟩ := x_bnd h
    refine x_aci hI (x_runV (rest := []) F hI (mX6_ticksLeft l X _ σ a1 r5 h6) g_L_74 ⟨rfl, hd_X6_ticksLeft⟩ ⟨by decide, by decide⟩ ⟨rfl, rfl⟩ (x_inO (by decide)) rfl rfl rfl rfl hl.1 rfl (Nat.le_of_ble_eq_true rfl) dL_ticksLeft_2 ⟨Nat.zero_le _, Nat.zero_le _⟩) (fun H locs hI => ?_)
    refine lv_i2l hx hb dL_ticksLeft_5 rfl ?_
    rw [x_some h]
    exact xl_lret F hI (Nat.le_of_ble_eq_true rfl) (Nat.le_of_ble_eq_true rfl) dL_ticksLeft_6
abbrev rm_L_toRenewal : Room := { frames := 8, cells := 1, slots := 6, locals := 124 }
def fL_toRenewal (σ : x_S) (a1 : Int32) : Option (Int64 × x_S) := (x_or (eX6_ticksToRenewal σ a1) (fun q1 => (if q1 = 0 then some ((-9000000000000000001 : Int64), σ) else (if q1 = 2 then some ((-9000000000000000003 : Int64), σ) else none))) (Option.bind (fX6_ticksToRenewal σ a1) fun r5 => some (r5.toInt64, σ)))
set_option maxHeartbeats 4000000 in
set_option maxRecDepth 100000 in
theorem mL_toRenewal (l : Launch) (hl0 : l.stackTraces = false) (X : x_T) (sz : Nat) (σ : x_S) (a1 : Int32) (r : Int64 × x_S) (h : fL_toRenewal σ a1 = some r) : Met l yL_toRenewal (xl_ws yL_toRenewal cL_toRenewal 3 (some .long) [(0, 6, 7, 15), (0, 6, 12, 19)]) rm_L_toRenewal (x_PcT X σ sz [.ref (X.2.2 10 32), .int a1]) (x_Ql X r.1 r.2 sz) 1 6 (x_A X sz) := by
  refine va_MetW (cc := cL_toRenewal) (maxL := 3) (ret := (some .long)) (hh := [(0, 6, 7, 15), (0, 6, 12, 19)]) (by decide) rfl ?_
  intro p e s m args below meth c s₁ B hml hv
  obtain ⟨F, Z, ht, hI, rfl, rfl⟩ := xl_begin B hml hv
  replace F : x_F p s m _ meth c cL_toRenewal 3 RL (some .long) := F
  have hx := F.1
  have hb := F.2.1
  have hml := F.2.2.1
  have hown := F.2.2.2.1
  have hts := F.2.2.2.2.1
  refine x_entry (vs := [.ref (X.2.2 10 32), .int a1]) (n := 3) (Nat.le_of_ble_eq_true rfl) (fun ls hl => ?_)
  replace hl : lv_has ls 3 [(0, .ref (X.2.2 10 32)), (1, .int a1)] := hl
  unfold fL_toRenewal at h
  refine lv_aload_n hx hb dL_toRenewal_0 rfl (lv_at hl 0 rfl) ?_
  refine lv_iload_n hx hb dL_toRenewal_1 rfl (lv_at hl 1 rfl) ?_
  rcases x_or_el h with ⟨q1, h2, h⟩ | ⟨-, h⟩
  · refine xl_aci hI (xt_runV (rest := []) F Z hI (xX6_ticksToRenewal l hl0 X _ σ a1 q1 h2) g_L_77 ⟨rfl, hd_X6_ticksToRenewal⟩ ⟨by decide, by decide⟩ ⟨rfl, rfl⟩ (x_inO (by decide)) rfl rfl rfl rfl hl.1 rfl (Nat.le_of_ble_eq_true rfl) dL_toRenewal_2 ⟨by decide, by decide⟩) (fun H locs ce q9 hI hce hcv hcl => ?_)
    by_cases c4 : q1 = 0
    · have h := x_ift h c4
      rw [c4] at hcl
      refine xl_catch1 (b := 6) (hp := 7) (e0 := 0) F Z ht (by decide) rfl (by decide) hce hcv hcl ?_
      refine lv_astore_n (lv' := [(2, .ref q9), (0, .ref (X.2.2 10 32)), (1, .int a1)]) hx hb dL_toRenewal_7 rfl hl (by decide) rfl (fun ls hl => ?_)
      refine lv_ldc2 (v := -9000000000000000001) hx hb hown (hts _ u_cl_L_17) dL_toRenewal_8 ?_
      rw [x_some h]
      exact xl_lret F hI (Nat.le_of_ble_eq_true rfl) (Nat.le_of_ble_eq_true rfl) dL_toRenewal_11
    · have h := x_iff h c4
      by_cases c3 : q1 = 2
      · have h := x_ift h c3
        rw [c3] at hcl
        refine xl_catch2 (b := 6) (hp := 12) (e0 := 0) F Z ht (by decide) rfl (by decide) hce hcv hcl ?_
        refine lv_astore_n (lv' := [(2, .ref q9), (0, .ref (X.2.2 10 32)), (1, .int a1)]) hx hb dL_toRenewal_12 rfl hl (by decide) rfl (fun ls hl => ?_)
        refine lv_ldc2 (v := -9000000000000000003) hx hb hown (hts _ u_cl_L_21) dL_toRenewal_13 ?_
        rw [x_some h]
        exact xl_lret F hI (Nat.le_of_ble_eq_true rfl) (Nat.le_of_ble_eq_true rfl) dL_toRenewal_16
      · have h := x_iff h c3
        cases h
  · obtain ⟨r5, h6, h⟩ := x_bnd h
    refine x_aci hI (x_runV (rest := []) F hI (mX6_ticksToRenewal l X _ σ a1 r5 h6) g_L_77 ⟨rfl, hd_X6_ticksToRenewal⟩ ⟨by decide, by decide⟩ ⟨rfl, rfl⟩ (x_inO (by decide)) rfl rfl rfl rfl hl.1 rfl (Nat.le_of_ble_eq_true rfl) dL_toRenewal_2 ⟨Nat.zero_le _, Nat.zero_le _⟩) (fun H locs hI => ?_)
    refine lv_i2l hx hb dL_toRenewal_5 rfl ?_
    rw [x_some h]
    exact xl_lret F hI (Nat.le_of_ble_eq_true rfl) (Nat.le_of_ble_eq_true rfl) dL_toRenewal_6
abbrev rm_L_isHaunted : Room := { frames := 8, cells := 1, slots := 6, locals := 123 }
def fL_isHaunted (σ : x_S) (a1 : Int32) : Option (Int64 × x_S) := (x_or (eX6_isHaunted σ a1) (fun q1 => (if q1 = 0 then some ((-9000000000000000001 : Int64), σ) else none)) (Option.bind (fX6_isHaunted σ a1) fun r4 => (if r4 = 0 then some ((0 : Int64), σ) else some ((1 : Int64), σ))))
set_option maxHeartbeats 4000000 in
set_option maxRecDepth 100000 in
theorem mL_isHaunted (l : Launch) (hl0 : l.stackTraces = false) (X : x_T) (sz : Nat) (σ : x_S) (a1 : Int32) (r : Int64 × x_S) (h : fL_isHaunted σ a1 = some r) : Met l yL_isHaunted (xl_ws yL_isHaunted cL_isHaunted 3 (some .long) [(0, 13, 14, 15)]) rm_L_isHaunted (x_PcT X σ sz [.ref (X.2.2 10 32), .int a1]) (x_Ql X r.1 r.2 sz) 1 6 (x_A X sz) := by
  refine va_MetW (cc := cL_isHaunted) (maxL := 3) (ret := (some .long)) (hh := [(0, 13, 14, 15)]) (by decide) rfl ?_
  intro p e s m args below meth c s₁ B hml hv
  obtain ⟨F, Z, ht, hI, rfl, rfl⟩ := xl_begin B hml hv
  replace F : x_F p s m _ meth c cL_isHaunted 3 RL (some .long) := F
  have hx := F.1
  have hb := F.2.1
  have hml := F.2.2.1
  have hown := F.2.2.2.1
  have hts := F.2.2.2.2.1
  refine x_entry (vs := [.ref (X.2.2 10 32), .int a1]) (n := 3) (Nat.le_of_ble_eq_true rfl) (fun ls hl => ?_)
  replace hl : lv_has ls 3 [(0, .ref (X.2.2 10 32)), (1, .int a1)] := hl
  unfold fL_isHaunted at h
  refine lv_aload_n hx hb dL_isHaunted_0 rfl (lv_at hl 0 rfl) ?_
  refine lv_iload_n hx hb dL_isHaunted_1 rfl (lv_at hl 1 rfl) ?_
  rcases x_or_el h with ⟨q1, h2, h⟩ | ⟨-, h⟩
  · refine xl_aci hI (xt_runV (rest := []) F Z hI (xX6_isHaunted l hl0 X _ σ a1 q1 h2) g_L_80 ⟨rfl, hd_X6_isHaunted⟩ ⟨by decide, by decide⟩ ⟨rfl, rfl⟩ (x_inO (by decide)) rfl rfl rfl rfl hl.1 rfl (Nat.le_of_ble_eq_true rfl) dL_isHaunted_2 ⟨by decide, by decide⟩) (fun H locs ce q9 hI hce hcv hcl => ?_)
    by_cases c3 : q1 = 0
    · have h := x_ift h c3
      rw [c3] at hcl
      refine xl_catch1 (b := 13) (hp := 14) (e0 := 0) F Z ht (by decide) rfl (by decide) hce hcv hcl ?_
      refine lv_astore_n (lv' := [(2, .ref q9), (0, .ref (X.2.2 10 32)), (1, .int a1)]) hx hb dL_isHaunted_14 rfl hl (by decide) rfl (fun ls hl => ?_)
      refine lv_ldc2 (v := -9000000000000000001) hx hb hown (hts _ u_cl_L_17) dL_isHaunted_15 ?_
      rw [x_some h]
      exact xl_lret F hI (Nat.le_of_ble_eq_true rfl) (Nat.le_of_ble_eq_true rfl) dL_isHaunted_18
    · have h := x_iff h c3
      cases h
  · obtain ⟨r4, h5, h⟩ := x_bnd h
    refine x_aci hI (x_runV (rest := []) F hI (mX6_isHaunted l X _ σ a1 r4 h5) g_L_80 ⟨rfl, hd_X6_isHaunted⟩ ⟨by decide, by decide⟩ ⟨rfl, rfl⟩ (x_inO (by decide)) rfl rfl rfl rfl hl.1 rfl (Nat.le_of_ble_eq_true rfl) dL_isHaunted_2 ⟨Nat.zero_le _, Nat.zero_le _⟩) (fun H locs hI => ?_)
    refine lv_if_eq (tgt := 12) hx hb dL_isHaunted_5 (by decide) (fun c6 => ?_) (fun c6 => ?_)
    · have h := x_ift h c6
      refine lv_lconst (v := 0) hx hb dL_isHaunted_12 (by decide) ?_
      rw [x_some h]
      exact xl_lret F hI (Nat.le_of_ble_eq_true rfl) (Nat.le_of_ble_eq_true rfl) dL_isHaunted_13
    · have h := x_iff h c6
      refine lv_lconst (v := 1) hx hb dL_isHaunted_8 (by decide) ?_
      refine lv_goto (tgt := 13) hx hb dL_isHaunted_9 (by decide) ?_
      rw [x_some h]
      exact xl_lret F hI (Nat.le_of_ble_eq_true rfl) (Nat.le_of_ble_eq_true rfl) dL_isHaunted_13
abbrev rm_L_staysOf : Room := { frames := 8, cells := 1, slots := 6, locals := 123 }
def fL_staysOf (σ : x_S) (a1 : Int32) : Option (Int64 × x_S) := (x_or (eX6_staysOf σ a1) (fun q1 => (if q1 = 0 then some ((-9000000000000000001 : Int64), σ) else none)) (Option.bind (fX6_staysOf σ a1) fun r4 => some (r4.toInt64, σ)))
set_option maxHeartbeats 4000000 in
set_option maxRecDepth 100000 in
theorem mL_staysOf (l : Launch) (hl0 : l.stackTraces = false) (X : x_T) (sz : Nat) (σ : x_S) (a1 : Int32) (r : Int64 × x_S) (h : fL_staysOf σ a1 = some r) : Met l yL_staysOf (xl_ws yL_staysOf cL_staysOf 3 (some .long) [(0, 6, 7, 15)]) rm_L_staysOf (x_PcT X σ sz [.ref (X.2.2 10 32), .int a1]) (x_Ql X r.1 r.2 sz) 1 6 (x_A X sz) := by
  refine va_MetW (cc := cL_staysOf) (maxL := 3) (ret := (some .long)) (hh := [(0, 6, 7, 15)]) (by decide) rfl ?_
  intro p e s m args below meth c s₁ B hml hv
  obtain ⟨F, Z, ht, hI, rfl, rfl⟩ := xl_begin B hml hv
  replace F : x_F p s m _ meth c cL_staysOf 3 RL (some .long) := F
  have hx := F.1
  have hb := F.2.1
  have hml := F.2.2.1
  have hown := F.2.2.2.1
  have hts := F.2.2.2.2.1
  refine x_entry (vs := [.ref (X.2.2 10 32), .int a1]) (n := 3) (Nat.le_of_ble_eq_true rfl) (fun ls hl => ?_)
  replace hl : lv_has ls 3 [(0, .ref (X.2.2 10 32)), (1, .int a1)] := hl
  unfold fL_staysOf at h
  refine lv_aload_n hx hb dL_staysOf_0 rfl (lv_at hl 0 rfl) ?_
  refine lv_iload_n hx hb dL_staysOf_1 rfl (lv_at hl 1 rfl) ?_
  rcases x_or_el h with ⟨q1, h2, h⟩ | ⟨-, h⟩
  · refine xl_aci hI (xt_runV (rest := []) F Z hI (xX6_staysOf l hl0 X _ σ a1 q1 h2) g_L_83 ⟨rfl, hd_X6_staysOf⟩ ⟨by decide, by decide⟩ ⟨rfl, rfl⟩ (x_inO (by decide)) rfl rfl rfl rfl hl.1 rfl (Nat.le_of_ble_eq_true rfl) dL_staysOf_2 ⟨by decide, by decide⟩) (fun H locs ce q9 hI hce hcv hcl => ?_)
    by_cases c3 : q1 = 0
    · have h := x_ift h c3
      rw [c3] at hcl
      refine xl_catch1 (b := 6) (hp := 7) (e0 := 0) F Z ht (by decide) rfl (by decide) hce hcv hcl ?_
      refine lv_astore_n (lv' := [(2, .ref q9), (0, .ref (X.2.2 10 32)), (1, .int a1)]) hx hb dL_staysOf_7 rfl hl (by decide) rfl (fun ls hl => ?_)
      refine lv_ldc2 (v := -9000000000000000001) hx hb hown (hts _ u_cl_L_17) dL_staysOf_8 ?_
      rw [x_some h]
      exact xl_lret F hI (Nat.le_of_ble_eq_true rfl) (Nat.le_of_ble_eq_true rfl) dL_staysOf_11
    · have h := x_iff h c3
      cases h
  · obtain ⟨r4, h5, h⟩ := x_bnd h
    refine x_aci hI (x_runV (rest := []) F hI (mX6_staysOf l X _ σ a1 r4 h5) g_L_83 ⟨rfl, hd_X6_staysOf⟩ ⟨by decide, by decide⟩ ⟨rfl, rfl⟩ (x_inO (by decide)) rfl rfl rfl rfl hl.1 rfl (Nat.le_of_ble_eq_true rfl) dL_staysOf_2 ⟨Nat.zero_le _, Nat.zero_le _⟩) (fun H locs hI => ?_)
    refine lv_i2l hx hb dL_staysOf_5 rfl ?_
    rw [x_some h]
    exact xl_lret F hI (Nat.le_of_ble_eq_true rfl) (Nat.le_of_ble_eq_true rfl) dL_staysOf_6
abbrev rm_L_stateOf : Room := { frames := 8, cells := 1, slots := 6, locals := 123 }
def fL_stateOf (σ : x_S) (a1 : Int32) : Option (Int64 × x_S) := (x_or (eX6_stateOf σ a1) (fun q1 => (if q1 = 0 then some ((-9000000000000000001 : Int64), σ) else none)) (Option.bind (fX6_stateOf σ a1) fun r4 => some (r4.toInt64, σ)))
set_option maxHeartbeats 4000000 in
set_option maxRecDepth 100000 in
theorem mL_stateOf (l : Launch) (hl0 : l.stackTraces = false) (X : x_T) (sz : Nat) (σ : x_S) (a1 : Int32) (r : Int64 × x_S) (h : fL_stateOf σ a1 = some r) : Met l yL_stateOf (xl_ws yL_stateOf cL_stateOf 3 (some .long) [(0, 6, 7, 15)]) rm_L_stateOf (x_PcT X σ sz [.ref (X.2.2 10 32), .int a1]) (x_Ql X r.1 r.2 sz) 1 6 (x_A X sz) := by
  refine va_MetW (cc := cL_stateOf) (maxL := 3) (ret := (some .long)) (hh := [(0, 6, 7, 15)]) (by decide) rfl ?_
  intro p e s m args below meth c s₁ B hml hv
  obtain ⟨F, Z, ht, hI, rfl, rfl⟩ := xl_begin B hml hv
  replace F : x_F p s m _ meth c cL_stateOf 3 RL (some .long) := F
  have hx := F.1
  have hb := F.2.1
  have hml := F.2.2.1
  have hown := F.2.2.2.1
  have hts := F.2.2.2.2.1
  refine x_entry (vs := [.ref (X.2.2 10 32), .int a1]) (n := 3) (Nat.le_of_ble_eq_true rfl) (fun ls hl => ?_)
  replace hl : lv_has ls 3 [(0, .ref (X.2.2 10 32)), (1, .int a1)] := hl
  unfold fL_stateOf at h
  refine lv_aload_n hx hb dL_stateOf_0 rfl (lv_at hl 0 rfl) ?_
  refine lv_iload_n hx hb dL_stateOf_1 rfl (lv_at hl 1 rfl) ?_
  rcases x_or_el h with ⟨q1, h2, h⟩ | ⟨-, h⟩
  · refine xl_aci hI (xt_runV (rest := []) F Z hI (xX6_stateOf l hl0 X _ σ a1 q1 h2) g_L_86 ⟨rfl, hd_X6_stateOf⟩ ⟨by decide, by decide⟩ ⟨rfl, rfl⟩ (x_inO (by decide)) rfl rfl rfl rfl hl.1 rfl (Nat.le_of_ble_eq_true rfl) dL_stateOf_2 ⟨by decide, by decide⟩) (fun H locs ce q9 hI hce hcv hcl => ?_)
    by_cases c3 : q1 = 0
    · have h := x_ift h c3
      rw [c3] at hcl
      refine xl_catch1 (b := 6) (hp := 7) (e0 := 0) F Z ht (by decide) rfl (by decide) hce hcv hcl ?_
      refine lv_astore_n (lv' := [(2, .ref q9), (0, .ref (X.2.2 10 32)), (1, .int a1)]) hx hb dL_stateOf_7 rfl hl (by decide) rfl (fun ls hl => ?_)
      refine lv_ldc2 (v := -9000000000000000001) hx hb hown (hts _ u_cl_L_17) dL_stateOf_8 ?_
      rw [x_some h]
      exact xl_lret F hI (Nat.le_of_ble_eq_true rfl) (Nat.le_of_ble_eq_true rfl) dL_stateOf_11
    · have h := x_iff h c3
      cases h
  · obtain ⟨r4, h5, h⟩ := x_bnd h
    refine x_aci hI (x_runV (rest := []) F hI (mX6_stateOf l X _ σ a1 r4 h5) g_L_86 ⟨rfl, hd_X6_stateOf⟩ ⟨by decide, by decide⟩ ⟨rfl, rfl⟩ (x_inO (by decide)) rfl rfl rfl rfl hl.1 rfl (Nat.le_of_ble_eq_true rfl) dL_stateOf_2 ⟨Nat.zero_le _, Nat.zero_le _⟩) (fun H locs hI => ?_)
    refine lv_i2l hx hb dL_stateOf_5 rfl ?_
    rw [x_some h]
    exact xl_lret F hI (Nat.le_of_ble_eq_true rfl) (Nat.le_of_ble_eq_true rfl) dL_stateOf_6
abbrev rm_L_guestOf : Room := { frames := 8, cells := 1, slots := 6, locals := 123 }
def fL_guestOf (σ : x_S) (a1 : Int32) : Option (Int64 × x_S) := (x_or (eX6_guestOf σ a1) (fun q1 => (if q1 = 0 then some ((-9000000000000000001 : Int64), σ) else (if q1 = 2 then some ((-9000000000000000003 : Int64), σ) else none))) (Option.bind (fX6_guestOf σ a1) fun r5 => some (r5.toInt64, σ)))
set_option maxHeartbeats 4000000 in
set_option maxRecDepth 100000 in
theorem mL_guestOf (l : Launch) (hl0 : l.stackTraces = false) (X : x_T) (sz : Nat) (σ : x_S) (a1 : Int32) (r : Int64 × x_S) (h : fL_guestOf σ a1 = some r) : Met l yL_guestOf (xl_ws yL_guestOf cL_guestOf 3 (some .long) [(0, 6, 7, 15), (0, 6, 12, 19)]) rm_L_guestOf (x_PcT X σ sz [.ref (X.2.2 10 32), .int a1]) (x_Ql X r.1 r.2 sz) 1 6 (x_A X sz) := by
  refine va_MetW (cc := cL_guestOf) (maxL := 3) (ret := (some .long)) (hh := [(0, 6, 7, 15), (0, 6, 12, 19)]) (by decide) rfl ?_
  intro p e s m args below meth c s₁ B hml hv
  obtain ⟨F, Z, ht, hI, rfl, rfl⟩ := xl_begin B hml hv
  replace F : x_F p s m _ meth c cL_guestOf 3 RL (some .long) := F
  have hx := F.1
  have hb := F.2.1
  have hml := F.2.2.1
  have hown := F.2.2.2.1
  have hts := F.2.2.2.2.1
  refine x_entry (vs := [.ref (X.2.2 10 32), .int a1]) (n := 3) (Nat.le_of_ble_eq_true rfl) (fun ls hl => ?_)
  replace hl : lv_has ls 3 [(0, .ref (X.2.2 10 32)), (1, .int a1)] := hl
  unfold fL_guestOf at h
  refine lv_aload_n hx hb dL_guestOf_0 rfl (lv_at hl 0 rfl) ?_
  refine lv_iload_n hx hb dL_guestOf_1 rfl (lv_at hl 1 rfl) ?_
  rcases x_or_el h with ⟨q1, h2, h⟩ | ⟨-, h⟩
  · refine xl_aci hI (xt_runV (rest := []) F Z hI (xX6_guestOf l hl0 X _ σ a1 q1 h2) g_L_89 ⟨rfl, hd_X6_guestOf⟩ ⟨by decide, by decide⟩ ⟨rfl, rfl⟩ (x_inO (by decide)) rfl rfl rfl rfl hl.1 rfl (Nat.le_of_ble_eq_true rfl) dL_guestOf_2 ⟨by decide, by decide⟩) (fun H locs ce q9 hI hce hcv hcl => ?_)
    by_cases c4 : q1 = 0
    · have h := x_ift h c4
      rw [c4] at hcl
      refine xl_catch1 (b := 6) (hp := 7) (e0 := 0) F Z ht (by decide) rfl (by decide) hce hcv hcl ?_
      refine lv_astore_n (lv' := [(2, .ref q9), (0, .ref (X.2.2 10 32)), (1, .int a1)]) hx hb dL_guestOf_7 rfl hl (by decide) rfl (fun ls hl => ?_)
      refine lv_ldc2 (v := -9000000000000000001) hx hb hown (hts _ u_cl_L_17) dL_guestOf_8 ?_
      rw [x_some h]
      exact xl_lret F hI (Nat.le_of_ble_eq_true rfl) (Nat.le_of_ble_eq_true rfl) dL_guestOf_11
    · have h := x_iff h c4
      by_cases c3 : q1 = 2
      · have h := x_ift h c3
        rw [c3] at hcl
        refine xl_catch2 (b := 6) (hp := 12) (e0 := 0) F Z ht (by decide) rfl (by decide) hce hcv hcl ?_
        refine lv_astore_n (lv' := [(2, .ref q9), (0, .ref (X.2.2 10 32)), (1, .int a1)]) hx hb dL_guestOf_12 rfl hl (by decide) rfl (fun ls hl => ?_)
        refine lv_ldc2 (v := -9000000000000000003) hx hb hown (hts _ u_cl_L_21) dL_guestOf_13 ?_
        rw [x_some h]
        exact xl_lret F hI (Nat.le_of_ble_eq_true rfl) (Nat.le_of_ble_eq_true rfl) dL_guestOf_16
      · have h := x_iff h c3
        cases h
  · obtain ⟨r5, h6, h⟩ := x_bnd h
    refine x_aci hI (x_runV (rest := []) F hI (mX6_guestOf l X _ σ a1 r5 h6) g_L_89 ⟨rfl, hd_X6_guestOf⟩ ⟨by decide, by decide⟩ ⟨rfl, rfl⟩ (x_inO (by decide)) rfl rfl rfl rfl hl.1 rfl (Nat.le_of_ble_eq_true rfl) dL_guestOf_2 ⟨Nat.zero_le _, Nat.zero_le _⟩) (fun H locs hI => ?_)
    refine lv_i2l hx hb dL_guestOf_5 rfl ?_
    rw [x_some h]
    exact xl_lret F hI (Nat.le_of_ble_eq_true rfl) (Nat.le_of_ble_eq_true rfl) dL_guestOf_6
abbrev rm_L_ticksOf : Room := { frames := 8, cells := 1, slots := 6, locals := 123 }
def fL_ticksOf (σ : x_S) (a1 : Int32) : Option (Int64 × x_S) := (x_or (eX6_ticksOf σ a1) (fun q1 => (if q1 = 0 then some ((-9000000000000000001 : Int64), σ) else (if q1 = 2 then some ((-9000000000000000003 : Int64), σ) else none))) (Option.bind (fX6_ticksOf σ a1) fun r5 => some (r5.toInt64, σ)))
set_option maxHeartbeats 4000000 in
set_option maxRecDepth 100000 in
theorem mL_ticksOf (l : Launch) (hl0 : l.stackTraces = false) (X : x_T) (sz : Nat) (σ : x_S) (a1 : Int32) (r : Int64 × x_S) (h : fL_ticksOf σ a1 = some r) : Met l yL_ticksOf (xl_ws yL_ticksOf cL_ticksOf 3 (some .long) [(0, 6, 7, 15), (0, 6, 12, 19)]) rm_L_ticksOf (x_PcT X σ sz [.ref (X.2.2 10 32), .int a1]) (x_Ql X r.1 r.2 sz) 1 6 (x_A X sz) := by
  refine va_MetW (cc := cL_ticksOf) (maxL := 3) (ret := (some .long)) (hh := [(0, 6, 7, 15), (0, 6, 12, 19)]) (by decide) rfl ?_
  intro p e s m args below meth c s₁ B hml hv
  obtain ⟨F, Z, ht, hI, rfl, rfl⟩ := xl_begin B hml hv
  replace F : x_F p s m _ meth c cL_ticksOf 3 RL (some .long) := F
  have hx := F.1
  have hb := F.2.1
  have hml := F.2.2.1
  have hown := F.2.2.2.1
  have hts := F.2.2.2.2.1
  refine x_entry (vs := [.ref (X.2.2 10 32), .int a1]) (n := 3) (Nat.le_of_ble_eq_true rfl) (fun ls hl => ?_)
  replace hl : lv_has ls 3 [(0, .ref (X.2.2 10 32)), (1, .int a1)] := hl
  unfold fL_ticksOf at h
  refine lv_aload_n hx hb dL_ticksOf_0 rfl (lv_at hl 0 rfl) ?_
  refine lv_iload_n hx hb dL_ticksOf_1 rfl (lv_at hl 1 rfl) ?_
  rcases x_or_el h with ⟨q1, h2, h⟩ | ⟨-, h⟩
  · refine xl_aci hI (xt_runV (rest := []) F Z hI (xX6_ticksOf l hl0 X _ σ a1 q1 h2) g_L_92 ⟨rfl, hd_X6_ticksOf⟩ ⟨by decide, by decide⟩ ⟨rfl, rfl⟩ (x_inO (by decide)) rfl rfl rfl rfl hl.1 rfl (Nat.le_of_ble_eq_true rfl) dL_ticksOf_2 ⟨by decide, by decide⟩) (fun H locs ce q9 hI hce hcv hcl => ?_)
    by_cases c4 : q1 = 0
    · have h := x_ift h c4
      rw [c4] at hcl
      refine xl_catch1 (b := 6) (hp := 7) (e0 := 0) F Z ht (by decide) rfl (by decide) hce hcv hcl ?_
      refine lv_astore_n (lv' := [(2, .ref q9), (0, .ref (X.2.2 10 32)), (1, .int a1)]) hx hb dL_ticksOf_7 rfl hl (by decide) rfl (fun ls hl => ?_)
      refine lv_ldc2 (v := -9000000000000000001) hx hb hown (hts _ u_cl_L_17) dL_ticksOf_8 ?_
      rw [x_some h]
      exact xl_lret F hI (Nat.le_of_ble_eq_true rfl) (Nat.le_of_ble_eq_true rfl) dL_ticksOf_11
    · have h := x_iff h c4
      by_cases c3 : q1 = 2
      · have h := x_ift h c3
        rw [c3] at hcl
        refine xl_catch2 (b := 6) (hp := 12) (e0 := 0) F Z ht (by decide) rfl (by decide) hce hcv hcl ?_
        refine lv_astore_n (lv' := [(2, .ref q9), (0, .ref (X.2.2 10 32)), (1, .int a1)]) hx hb dL_ticksOf_12 rfl hl (by decide) rfl (fun ls hl => ?_)
        refine lv_ldc2 (v := -9000000000000000003) hx hb hown (hts _ u_cl_L_21) dL_ticksOf_13 ?_
        rw [x_some h]
        exact xl_lret F hI (Nat.le_of_ble_eq_true rfl) (Nat.le_of_ble_eq_true rfl) dL_ticksOf_16
      · have h := x_iff h c3
        cases h
  · obtain ⟨r5, h6, h⟩ := x_bnd h
    refine x_aci hI (x_runV (rest := []) F hI (mX6_ticksOf l X _ σ a1 r5 h6) g_L_92 ⟨rfl, hd_X6_ticksOf⟩ ⟨by decide, by decide⟩ ⟨rfl, rfl⟩ (x_inO (by decide)) rfl rfl rfl rfl hl.1 rfl (Nat.le_of_ble_eq_true rfl) dL_ticksOf_2 ⟨Nat.zero_le _, Nat.zero_le _⟩) (fun H locs hI => ?_)
    refine lv_i2l hx hb dL_ticksOf_5 rfl ?_
    rw [x_some h]
    exact xl_lret F hI (Nat.le_of_ble_eq_true rfl) (Nat.le_of_ble_eq_true rfl) dL_ticksOf_6
abbrev rm_L_reservedFor : Room := { frames := 8, cells := 1, slots := 6, locals := 123 }
def fL_reservedFor (σ : x_S) (a1 : Int32) : Option (Int64 × x_S) := (x_or (eX6_reservedFor σ a1) (fun q1 => (if q1 = 0 then some ((-9000000000000000001 : Int64), σ) else (if q1 = 2 then some ((-9000000000000000003 : Int64), σ) else none))) (Option.bind (fX6_reservedFor σ a1) fun r5 => some (r5.toInt64, σ)))
set_option maxHeartbeats 4000000 in
set_option maxRecDepth 100000 in
theorem mL_reservedFor (l : Launch) (hl0 : l.stackTraces = false) (X : x_T) (sz : Nat) (σ : x_S) (a1 : Int32) (r : Int64 × x_S) (h : fL_reservedFor σ a1 = some r) : Met l yL_reservedFor (xl_ws yL_reservedFor cL_reservedFor 3 (some .long) [(0, 6, 7, 15), (0, 6, 12, 19)]) rm_L_reservedFor (x_PcT X σ sz [.ref (X.2.2 10 32), .int a1]) (x_Ql X r.1 r.2 sz) 1 6 (x_A X sz) := by
  refine va_MetW (cc := cL_reservedFor) (maxL := 3) (ret := (some .long)) (hh := [(0, 6, 7, 15), (0, 6, 12, 19)]) (by decide) rfl ?_
  intro p e s m args below meth c s₁ B hml hv
  obtain ⟨F, Z, ht, hI, rfl, rfl⟩ := xl_begin B hml hv
  replace F : x_F p s m _ meth c cL_reservedFor 3 RL (some .long) := F
  have hx := F.1
  have hb := F.2.1
  have hml := F.2.2.1
  have hown := F.2.2.2.1
  have hts := F.2.2.2.2.1
  refine x_entry (vs := [.ref (X.2.2 10 32), .int a1]) (n := 3) (Nat.le_of_ble_eq_true rfl) (fun ls hl => ?_)
  replace hl : lv_has ls 3 [(0, .ref (X.2.2 10 32)), (1, .int a1)] := hl
  unfold fL_reservedFor at h
  refine lv_aload_n hx hb dL_reservedFor_0 rfl (lv_at hl 0 rfl) ?_
  refine lv_iload_n hx hb dL_reservedFor_1 rfl (lv_at hl 1 rfl) ?_
  rcases x_or_el h with ⟨q1, h2, h⟩ | ⟨-, h⟩
  · refine xl_aci hI (xt_runV (rest := []) F Z hI (xX6_reservedFor l hl0 X _ σ a1 q1 h2) g_L_95 ⟨rfl, hd_X6_reservedFor⟩ ⟨by decide, by decide⟩ ⟨rfl, rfl⟩ (x_inO (by decide)) rfl rfl rfl rfl hl.1 rfl (Nat.le_of_ble_eq_true rfl) dL_reservedFor_2 ⟨by decide, by decide⟩) (fun H locs ce q9 hI hce hcv hcl => ?_)
    by_cases c4 : q1 = 0
    · have h := x_ift h c4
      rw [c4] at hcl
      refine xl_catch1 (b := 6) (hp := 7) (e0 := 0) F Z ht (by decide) rfl (by decide) hce hcv hcl ?_
      refine lv_astore_n (lv' := [(2, .ref q9), (0, .ref (X.2.2 10 32)), (1, .int a1)]) hx hb dL_reservedFor_7 rfl hl (by decide) rfl (fun ls hl => ?_)
      refine lv_ldc2 (v := -9000000000000000001) hx hb hown (hts _ u_cl_L_17) dL_reservedFor_8 ?_
      rw [x_some h]
      exact xl_lret F hI (Nat.le_of_ble_eq_true rfl) (Nat.le_of_ble_eq_true rfl) dL_reservedFor_11
    · have h := x_iff h c4
      by_cases c3 : q1 = 2
      · have h := x_ift h c3
        rw [c3] at hcl
        refine xl_catch2 (b := 6) (hp := 12) (e0 := 0) F Z ht (by decide) rfl (by decide) hce hcv hcl ?_
        refine lv_astore_n (lv' := [(2, .ref q9), (0, .ref (X.2.2 10 32)), (1, .int a1)]) hx hb dL_reservedFor_12 rfl hl (by decide) rfl (fun ls hl => ?_)
        refine lv_ldc2 (v := -9000000000000000003) hx hb hown (hts _ u_cl_L_21) dL_reservedFor_13 ?_
        rw [x_some h]
        exact xl_lret F hI (Nat.le_of_ble_eq_true rfl) (Nat.le_of_ble_eq_true rfl) dL_reservedFor_16
      · have h := x_iff h c3
        cases h
  · obtain ⟨r5, h6, h⟩ := x_bnd h
    refine x_aci hI (x_runV (rest := []) F hI (mX6_reservedFor l X _ σ a1 r5 h6) g_L_95 ⟨rfl, hd_X6_reservedFor⟩ ⟨by decide, by decide⟩ ⟨rfl, rfl⟩ (x_inO (by decide)) rfl rfl rfl rfl hl.1 rfl (Nat.le_of_ble_eq_true rfl) dL_reservedFor_2 ⟨Nat.zero_le _, Nat.zero_le _⟩) (fun H locs hI => ?_)
    refine lv_i2l hx hb dL_reservedFor_5 rfl ?_
    rw [x_some h]
    exact xl_lret F hI (Nat.le_of_ble_eq_true rfl) (Nat.le_of_ble_eq_true rfl) dL_reservedFor_6
abbrev rm_L_hasGhost : Room := { frames := 8, cells := 1, slots := 6, locals := 123 }
def fL_hasGhost (σ : x_S) (a1 : Int32) : Option (Int64 × x_S) := (x_or (eX6_hasGhost σ a1) (fun q1 => (if q1 = 0 then some ((-9000000000000000001 : Int64), σ) else none)) (Option.bind (fX6_hasGhost σ a1) fun r4 => (if r4 = 0 then some ((0 : Int64), σ) else some ((1 : Int64), σ))))
set_option maxHeartbeats 4000000 in
set_option maxRecDepth 100000 in
theorem mL_hasGhost (l : Launch) (hl0 : l.stackTraces = false) (X : x_T) (sz : Nat) (σ : x_S) (a1 : Int32) (r : Int64 × x_S) (h : fL_hasGhost σ a1 = some r) : Met l yL_hasGhost (xl_ws yL_hasGhost cL_hasGhost 3 (some .long) [(0, 13, 14, 15)]) rm_L_hasGhost (x_PcT X σ sz [.ref (X.2.2 10 32), .int a1]) (x_Ql X r.1 r.2 sz) 1 6 (x_A X sz) := by
  refine va_MetW (cc := cL_hasGhost) (maxL := 3) (ret := (some .long)) (hh := [(0, 13, 14, 15)]) (by decide) rfl ?_
  intro p e s m args below meth c s₁ B hml hv
  obtain ⟨F, Z, ht, hI, rfl, rfl⟩ := xl_begin B hml hv
  replace F : x_F p s m _ meth c cL_hasGhost 3 RL (some .long) := F
  have hx := F.1
  have hb := F.2.1
  have hml := F.2.2.1
  have hown := F.2.2.2.1
  have hts := F.2.2.2.2.1
  refine x_entry (vs := [.ref (X.2.2 10 32), .int a1]) (n := 3) (Nat.le_of_ble_eq_true rfl) (fun ls hl => ?_)
  replace hl : lv_has ls 3 [(0, .ref (X.2.2 10 32)), (1, .int a1)] := hl
  unfold fL_hasGhost at h
  refine lv_aload_n hx hb dL_hasGhost_0 rfl (lv_at hl 0 rfl) ?_
  refine lv_iload_n hx hb dL_hasGhost_1 rfl (lv_at hl 1 rfl) ?_
  rcases x_or_el h with ⟨q1, h2, h⟩ | ⟨-, h⟩
  · refine xl_aci hI (xt_runV (rest := []) F Z hI (xX6_hasGhost l hl0 X _ σ a1 q1 h2) g_L_98 ⟨rfl, hd_X6_hasGhost⟩ ⟨by decide, by decide⟩ ⟨rfl, rfl⟩ (x_inO (by decide)) rfl rfl rfl rfl hl.1 rfl (Nat.le_of_ble_eq_true rfl) dL_hasGhost_2 ⟨by decide, by decide⟩) (fun H locs ce q9 hI hce hcv hcl => ?_)
    by_cases c3 : q1 = 0
    · have h := x_ift h c3
      rw [c3] at hcl
      refine xl_catch1 (b := 13) (hp := 14) (e0 := 0) F Z ht (by decide) rfl (by decide) hce hcv hcl ?_
      refine lv_astore_n (lv' := [(2, .ref q9), (0, .ref (X.2.2 10 32)), (1, .int a1)]) hx hb dL_hasGhost_14 rfl hl (by decide) rfl (fun ls hl => ?_)
      refine lv_ldc2 (v := -9000000000000000001) hx hb hown (hts _ u_cl_L_17) dL_hasGhost_15 ?_
      rw [x_some h]
      exact xl_lret F hI (Nat.le_of_ble_eq_true rfl) (Nat.le_of_ble_eq_true rfl) dL_hasGhost_18
    · have h := x_iff h c3
      cases h
  · obtain ⟨r4, h5, h⟩ := x_bnd h
    refine x_aci hI (x_runV (rest := []) F hI (mX6_hasGhost l X _ σ a1 r4 h5) g_L_98 ⟨rfl, hd_X6_hasGhost⟩ ⟨by decide, by decide⟩ ⟨rfl, rfl⟩ (x_inO (by decide)) rfl rfl rfl rfl hl.1 rfl (Nat.le_of_ble_eq_true rfl) dL_hasGhost_2 ⟨Nat.zero_le _, Nat.zero_le _⟩) (fun H locs hI => ?_)
    refine lv_if_eq (tgt := 12) hx hb dL_hasGhost_5 (by decide) (fun c6 => ?_) (fun c6 => ?_)
    · have h := x_ift h c6
      refine lv_lconst (v := 0) hx hb dL_hasGhost_12 (by decide) ?_
      rw [x_some h]
      exact xl_lret F hI (Nat.le_of_ble_eq_true rfl) (Nat.le_of_ble_eq_true rfl) dL_hasGhost_13
    · have h := x_iff h c6
      refine lv_lconst (v := 1) hx hb dL_hasGhost_8 (by decide) ?_
      refine lv_goto (tgt := 13) hx hb dL_hasGhost_9 (by decide) ?_
      rw [x_some h]
      exact xl_lret F hI (Nat.le_of_ble_eq_true rfl) (Nat.le_of_ble_eq_true rfl) dL_hasGhost_13
abbrev rm_L_roomFor : Room := { frames := 8, cells := 1, slots := 6, locals := 124 }
def fL_roomFor (σ : x_S) (a1 : Int32) : Option (Int64 × x_S) := (x_or (eX6_roomFor σ a1) (fun q1 => (if q1 = 0 then some ((-9000000000000000001 : Int64), σ) else (if q1 = 2 then some ((-9000000000000000003 : Int64), σ) else none))) (Option.bind (fX6_roomFor σ a1) fun r5 => some (r5.toInt64, σ)))
set_option maxHeartbeats 4000000 in
set_option maxRecDepth 100000 in
theorem mL_roomFor (l : Launch) (hl0 : l.stackTraces = false) (X : x_T) (sz : Nat) (σ : x_S) (a1 : Int32) (r : Int64 × x_S) (h : fL_roomFor σ a1 = some r) : Met l yL_roomFor (xl_ws yL_roomFor cL_roomFor 3 (some .long) [(0, 6, 7, 15), (0, 6, 12, 19)]) rm_L_roomFor (x_PcT X σ sz [.ref (X.2.2 10 32), .int a1]) (x_Ql X r.1 r.2 sz) 1 6 (x_A X sz) := by
  refine va_MetW (cc := cL_roomFor) (maxL := 3) (ret := (some .long)) (hh := [(0, 6, 7, 15), (0, 6, 12, 19)]) (by decide) rfl ?_
  intro p e s m args below meth c s₁ B hml hv
  obtain ⟨F, Z, ht, hI, rfl, rfl⟩ := xl_begin B hml hv
  replace F : x_F p s m _ meth c cL_roomFor 3 RL (some .long) := F
  have hx := F.1
  have hb := F.2.1
  have hml := F.2.2.1
  have hown := F.2.2.2.1
  have hts := F.2.2.2.2.1
  refine x_entry (vs := [.ref (X.2.2 10 32), .int a1]) (n := 3) (Nat.le_of_ble_eq_true rfl) (fun ls hl => ?_)
  replace hl : lv_has ls 3 [(0, .ref (X.2.2 10 32)), (1, .int a1)] := hl
  unfold fL_roomFor at h
  refine lv_aload_n hx hb dL_roomFor_0 rfl (lv_at hl 0 rfl) ?_
  refine lv_iload_n hx hb dL_roomFor_1 rfl (lv_at hl 1 rfl) ?_
  rcases x_or_el h with ⟨q1, h2, h⟩ | ⟨-, h⟩
  · refine xl_aci hI (xt_runV (rest := []) F Z hI (xX6_roomFor l hl0 X _ σ a1 q1 h2) g_L_101 ⟨rfl, hd_X6_roomFor⟩ ⟨by decide, by decide⟩ ⟨rfl, rfl⟩ (x_inO (by decide)) rfl rfl rfl rfl hl.1 rfl (Nat.le_of_ble_eq_true rfl) dL_roomFor_2 ⟨by decide, by decide⟩) (fun H locs ce q9 hI hce hcv hcl => ?_)
    by_cases c4 : q1 = 0
    · have h := x_ift h c4
      rw [c4] at hcl
      refine xl_catch1 (b := 6) (hp := 7) (e0 := 0) F Z ht (by decide) rfl (by decide) hce hcv hcl ?_
      refine lv_astore_n (lv' := [(2, .ref q9), (0, .ref (X.2.2 10 32)), (1, .int a1)]) hx hb dL_roomFor_7 rfl hl (by decide) rfl (fun ls hl => ?_)
      refine lv_ldc2 (v := -9000000000000000001) hx hb hown (hts _ u_cl_L_17) dL_roomFor_8 ?_
      rw [x_some h]
      exact xl_lret F hI (Nat.le_of_ble_eq_true rfl) (Nat.le_of_ble_eq_true rfl) dL_roomFor_11
    · have h := x_iff h c4
      by_cases c3 : q1 = 2
      · have h := x_ift h c3
        rw [c3] at hcl
        refine xl_catch2 (b := 6) (hp := 12) (e0 := 0) F Z ht (by decide) rfl (by decide) hce hcv hcl ?_
        refine lv_astore_n (lv' := [(2, .ref q9), (0, .ref (X.2.2 10 32)), (1, .int a1)]) hx hb dL_roomFor_12 rfl hl (by decide) rfl (fun ls hl => ?_)
        refine lv_ldc2 (v := -9000000000000000003) hx hb hown (hts _ u_cl_L_21) dL_roomFor_13 ?_
        rw [x_some h]
        exact xl_lret F hI (Nat.le_of_ble_eq_true rfl) (Nat.le_of_ble_eq_true rfl) dL_roomFor_16
      · have h := x_iff h c3
        cases h
  · obtain ⟨r5, h6, h⟩ := x_bnd h
    refine x_aci hI (x_runV (rest := []) F hI (mX6_roomFor l X _ σ a1 r5 h6) g_L_101 ⟨rfl, hd_X6_roomFor⟩ ⟨by decide, by decide⟩ ⟨rfl, rfl⟩ (x_inO (by decide)) rfl rfl rfl rfl hl.1 rfl (Nat.le_of_ble_eq_true rfl) dL_roomFor_2 ⟨Nat.zero_le _, Nat.zero_le _⟩) (fun H locs hI => ?_)
    refine lv_i2l hx hb dL_roomFor_5 rfl ?_
    rw [x_some h]
    exact xl_lret F hI (Nat.le_of_ble_eq_true rfl) (Nat.le_of_ble_eq_true rfl) dL_roomFor_6
abbrev rm_L_nextByRooms : Room := { frames := 8, cells := 1, slots := 6, locals := 123 }
def fL_nextByRooms (σ : x_S) : Option (Int64 × x_S) := (x_or (eX6_nextFreeByRooms σ ) (fun q1 => (if q1 = 2 then some ((-9000000000000000003 : Int64), σ) else none)) (Option.bind (fX6_nextFreeByRooms σ ) fun r4 => some (r4.toInt64, σ)))
set_option maxHeartbeats 4000000 in
set_option maxRecDepth 100000 in
theorem mL_nextByRooms (l : Launch) (hl0 : l.stackTraces = false) (X : x_T) (sz : Nat) (σ : x_S) (r : Int64 × x_S) (h : fL_nextByRooms σ  = some r) : Met l yL_nextByRooms (xl_ws yL_nextByRooms cL_nextByRooms 2 (some .long) [(0, 5, 6, 19)]) rm_L_nextByRooms (x_PcT X σ sz [.ref (X.2.2 10 32)]) (x_Ql X r.1 r.2 sz) 1 6 (x_A X sz) := by
  refine va_MetW (cc := cL_nextByRooms) (maxL := 2) (ret := (some .long)) (hh := [(0, 5, 6, 19)]) (by decide) rfl ?_
  intro p e s m args below meth c s₁ B hml hv
  obtain ⟨F, Z, ht, hI, rfl, rfl⟩ := xl_begin B hml hv
  replace F : x_F p s m _ meth c cL_nextByRooms 2 RL (some .long) := F
  have hx := F.1
  have hb := F.2.1
  have hml := F.2.2.1
  have hown := F.2.2.2.1
  have hts := F.2.2.2.2.1
  refine x_entry (vs := [.ref (X.2.2 10 32)]) (n := 2) (Nat.le_of_ble_eq_true rfl) (fun ls hl => ?_)
  replace hl : lv_has ls 2 [(0, .ref (X.2.2 10 32))] := hl
  unfold fL_nextByRooms at h
  refine lv_aload_n hx hb dL_nextByRooms_0 rfl (lv_at hl 0 rfl) ?_
  rcases x_or_el h with ⟨q1, h2, h⟩ | ⟨-, h⟩
  · refine xl_aci hI (xt_runV (rest := []) F Z hI (xX6_nextFreeByRooms l hl0 X _ σ  q1 h2) g_L_104 ⟨rfl, hd_X6_nextFreeByRooms⟩ ⟨by decide, by decide⟩ ⟨rfl, rfl⟩ (x_inO (by decide)) rfl rfl rfl rfl hl.1 rfl (Nat.le_of_ble_eq_true rfl) dL_nextByRooms_1 ⟨by decide, by decide⟩) (fun H locs ce q9 hI hce hcv hcl => ?_)
    by_cases c3 : q1 = 2
    · have h := x_ift h c3
      rw [c3] at hcl
      refine xl_catch1 (b := 5) (hp := 6) (e0 := 2) F Z ht (by decide) rfl (by decide) hce hcv hcl ?_
      refine lv_astore_n (lv' := [(1, .ref q9), (0, .ref (X.2.2 10 32))]) hx hb dL_nextByRooms_6 rfl hl (by decide) rfl (fun ls hl => ?_)
      refine lv_ldc2 (v := -9000000000000000003) hx hb hown (hts _ u_cl_L_21) dL_nextByRooms_7 ?_
      rw [x_some h]
      exact xl_lret F hI (Nat.le_of_ble_eq_true rfl) (Nat.le_of_ble_eq_true rfl) dL_nextByRooms_10
    · have h := x_iff h c3
      cases h
  · obtain ⟨r4, h5, h⟩ := x_bnd h
    refine x_aci hI (x_runV (rest := []) F hI (mX6_nextFreeByRooms l X _ σ  r4 h5) g_L_104 ⟨rfl, hd_X6_nextFreeByRooms⟩ ⟨by decide, by decide⟩ ⟨rfl, rfl⟩ (x_inO (by decide)) rfl rfl rfl rfl hl.1 rfl (Nat.le_of_ble_eq_true rfl) dL_nextByRooms_1 ⟨Nat.zero_le _, Nat.zero_le _⟩) (fun H locs hI => ?_)
    refine lv_i2l hx hb dL_nextByRooms_4 rfl ?_
    rw [x_some h]
    exact xl_lret F hI (Nat.le_of_ble_eq_true rfl) (Nat.le_of_ble_eq_true rfl) dL_nextByRooms_5
abbrev rm_L_nextByTicks : Room := { frames := 8, cells := 1, slots := 6, locals := 123 }
def fL_nextByTicks (σ : x_S) : Option (Int64 × x_S) := (x_or (eX6_nextFreeByTicks σ ) (fun q1 => (if q1.1 = 2 then some ((-9000000000000000003 : Int64), q1.2) else none)) (Option.bind (fX6_nextFreeByTicks σ ) fun r4 => some ((r4.1).toInt64, r4.2)))
set_option maxHeartbeats 4000000 in
set_option maxRecDepth 100000 in
theorem mL_nextByTicks (l : Launch) (hl0 : l.stackTraces = false) (X : x_T) (sz : Nat) (σ : x_S) (r : Int64 × x_S) (h : fL_nextByTicks σ  = some r) : Met l yL_nextByTicks (xl_ws yL_nextByTicks cL_nextByTicks 2 (some .long) [(0, 5, 6, 19)]) rm_L_nextByTicks (x_PcT X σ sz [.ref (X.2.2 10 32)]) (x_Ql X r.1 r.2 sz) 1 6 (x_A X sz) := by
  refine va_MetW (cc := cL_nextByTicks) (maxL := 2) (ret := (some .long)) (hh := [(0, 5, 6, 19)]) (by decide) rfl ?_
  intro p e s m args below meth c s₁ B hml hv
  obtain ⟨F, Z, ht, hI, rfl, rfl⟩ := xl_begin B hml hv
  replace F : x_F p s m _ meth c cL_nextByTicks 2 RL (some .long) := F
  have hx := F.1
  have hb := F.2.1
  have hml := F.2.2.1
  have hown := F.2.2.2.1
  have hts := F.2.2.2.2.1
  refine x_entry (vs := [.ref (X.2.2 10 32)]) (n := 2) (Nat.le_of_ble_eq_true rfl) (fun ls hl => ?_)
  replace hl : lv_has ls 2 [(0, .ref (X.2.2 10 32))] := hl
  unfold fL_nextByTicks at h
  refine lv_aload_n hx hb dL_nextByTicks_0 rfl (lv_at hl 0 rfl) ?_
  rcases x_or_el h with ⟨q1, h2, h⟩ | ⟨-, h⟩
  · refine xl_aci hI (xt_runV (rest := []) F Z hI (xX6_nextFreeByTicks l hl0 X _ σ  q1 h2) g_L_107 ⟨rfl, hd_X6_nextFreeByTicks⟩ ⟨by decide, by decide⟩ ⟨rfl, rfl⟩ (x_inO (by decide)) rfl rfl rfl rfl hl.1 rfl (Nat.le_of_ble_eq_true rfl) dL_nextByTicks_1 ⟨by decide, by decide⟩) (fun H locs ce q9 hI hce hcv hcl => ?_)
    by_cases c3 : q1.1 = 2
    · have h := x_ift h c3
      rw [c3] at hcl
      refine xl_catch1 (b := 5) (hp := 6) (e0 := 2) F Z ht (by decide) rfl (by decide) hce hcv hcl ?_
      refine lv_astore_n (lv' := [(1, .ref q9), (0, .ref (X.2.2 10 32))]) hx hb dL_nextByTicks_6 rfl hl (by decide) rfl (fun ls hl => ?_)
      refine lv_ldc2 (v := -9000000000000000003) hx hb hown (hts _ u_cl_L_21) dL_nextByTicks_7 ?_
      rw [x_some h]
      exact xl_lret F hI (Nat.le_of_ble_eq_true rfl) (Nat.le_of_ble_eq_true rfl) dL_nextByTicks_10
    · have h := x_iff h c3
      cases h
  · obtain ⟨r4, h5, h⟩ := x_bnd h
    refine x_aci hI (x_runV (rest := []) F hI (mX6_nextFreeByTicks l X _ σ  r4 h5) g_L_107 ⟨rfl, hd_X6_nextFreeByTicks⟩ ⟨by decide, by decide⟩ ⟨rfl, rfl⟩ (x_inO (by decide)) rfl rfl rfl rfl hl.1 rfl (Nat.le_of_ble_eq_true rfl) dL_nextByTicks_1 ⟨Nat.zero_le _, Nat.zero_le _⟩) (fun H locs hI => ?_)
    refine lv_i2l hx hb dL_nextByTicks_4 rfl ?_
    rw [x_some h]
    exact xl_lret F hI (Nat.le_of_ble_eq_true rfl) (Nat.le_of_ble_eq_true rfl) dL_nextByTicks_5
abbrev rm_L_kindAt : Room := { frames := 8, cells := 1, slots := 6, locals := 124 }
def fL_kindAt (σ : x_S) (a1 : Int32) : Option (Int64 × x_S) := (x_or (eX6_kindAt σ a1) (fun q1 => (if q1 = 0 then some ((-9000000000000000001 : Int64), σ) else none)) (Option.bind (fX6_kindAt σ a1) fun r4 => some (r4.toInt64, σ)))
set_option maxHeartbeats 4000000 in
set_option maxRecDepth 100000 in
theorem mL_kindAt (l : Launch) (hl0 : l.stackTraces = false) (X : x_T) (sz : Nat) (σ : x_S) (a1 : Int32) (r : Int64 × x_S) (h : fL_kindAt σ a1 = some r) : Met l yL_kindAt (xl_ws yL_kindAt cL_kindAt 3 (some .long) [(0, 6, 7, 15)]) rm_L_kindAt (x_PcT X σ sz [.ref (X.2.2 10 32), .int a1]) (x_Ql X r.1 r.2 sz) 1 6 (x_A X sz) := by
  refine va_MetW (cc := cL_kindAt) (maxL := 3) (ret := (some .long)) (hh := [(0, 6, 7, 15)]) (by decide) rfl ?_
  intro p e s m args below meth c s₁ B hml hv
  obtain ⟨F, Z, ht, hI, rfl, rfl⟩ := xl_begin B hml hv
  replace F : x_F p s m _ meth c cL_kindAt 3 RL (some .long) := F
  have hx := F.1
  have hb := F.2.1
  have hml := F.2.2.1
  have hown := F.2.2.2.1
  have hts := F.2.2.2.2.1
  refine x_entry (vs := [.ref (X.2.2 10 32), .int a1]) (n := 3) (Nat.le_of_ble_eq_true rfl) (fun ls hl => ?_)
  replace hl : lv_has ls 3 [(0, .ref (X.2.2 10 32)), (1, .int a1)] := hl
  unfold fL_kindAt at h
  refine lv_aload_n hx hb dL_kindAt_0 rfl (lv_at hl 0 rfl) ?_
  refine lv_iload_n hx hb dL_kindAt_1 rfl (lv_at hl 1 rfl) ?_
  rcases x_or_el h with ⟨q1, h2, h⟩ | ⟨-, h⟩
  · refine xl_aci hI (xt_runV (rest := []) F Z hI (xX6_kindAt l hl0 X _ σ a1 q1 h2) g_L_110 ⟨rfl, hd_X6_kindAt⟩ ⟨by decide, by decide⟩ ⟨rfl, rfl⟩ (x_inO (by decide)) rfl rfl rfl rfl hl.1 rfl (Nat.le_of_ble_eq_true rfl) dL_kindAt_2 ⟨by decide, by decide⟩) (fun H locs ce q9 hI hce hcv hcl => ?_)
    by_cases c3 : q1 = 0
    · have h := x_ift h c3
      rw [c3] at hcl
      refine xl_catch1 (b := 6) (hp := 7) (e0 := 0) F Z ht (by decide) rfl (by decide) hce hcv hcl ?_
      refine lv_astore_n (lv' := [(2, .ref q9), (0, .ref (X.2.2 10 32)), (1, .int a1)]) hx hb dL_kindAt_7 rfl hl (by decide) rfl (fun ls hl => ?_)
      refine lv_ldc2 (v := -9000000000000000001) hx hb hown (hts _ u_cl_L_17) dL_kindAt_8 ?_
      rw [x_some h]
      exact xl_lret F hI (Nat.le_of_ble_eq_true rfl) (Nat.le_of_ble_eq_true rfl) dL_kindAt_11
    · have h := x_iff h c3
      cases h
  · obtain ⟨r4, h5, h⟩ := x_bnd h
    refine x_aci hI (x_runV (rest := []) F hI (mX6_kindAt l X _ σ a1 r4 h5) g_L_110 ⟨rfl, hd_X6_kindAt⟩ ⟨by decide, by decide⟩ ⟨rfl, rfl⟩ (x_inO (by decide)) rfl rfl rfl rfl hl.1 rfl (Nat.le_of_ble_eq_true rfl) dL_kindAt_2 ⟨Nat.zero_le _, Nat.zero_le _⟩) (fun H locs hI => ?_)
    refine lv_i2l hx hb dL_kindAt_5 rfl ?_
    rw [x_some h]
    exact xl_lret F hI (Nat.le_of_ble_eq_true rfl) (Nat.le_of_ble_eq_true rfl) dL_kindAt_6
abbrev rm_L_guestAt : Room := { frames := 8, cells := 1, slots := 6, locals := 124 }
def fL_guestAt (σ : x_S) (a1 : Int32) : Option (Int64 × x_S) := (x_or (eX6_guestAt σ a1) (fun q1 => (if q1 = 0 then some ((-9000000000000000001 : Int64), σ) else none)) (Option.bind (fX6_guestAt σ a1) fun r4 => some (r4.toInt64, σ)))
set_option maxHeartbeats 4000000 in
set_option maxRecDepth 100000 in
theorem mL_guestAt (l : Launch) (hl0 : l.stackTraces = false) (X : x_T) (sz : Nat) (σ : x_S) (a1 : Int32) (r : Int64 × x_S) (h : fL_guestAt σ a1 = some r) : Met l yL_guestAt (xl_ws yL_guestAt cL_guestAt 3 (some .long) [(0, 6, 7, 15)]) rm_L_guestAt (x_PcT X σ sz [.ref (X.2.2 10 32), .int a1]) (x_Ql X r.1 r.2 sz) 1 6 (x_A X sz) := by
  refine va_MetW (cc := cL_guestAt) (maxL := 3) (ret := (some .long)) (hh := [(0, 6, 7, 15)]) (by decide) rfl ?_
  intro p e s m args below meth c s₁ B hml hv
  obtain ⟨F, Z, ht, hI, rfl, rfl⟩ := xl_begin B hml hv
  replace F : x_F p s m _ meth c cL_guestAt 3 RL (some .long) := F
  have hx := F.1
  have hb := F.2.1
  have hml := F.2.2.1
  have hown := F.2.2.2.1
  have hts := F.2.2.2.2.1
  refine x_entry (vs := [.ref (X.2.2 10 32), .int a1]) (n := 3) (Nat.le_of_ble_eq_true rfl) (fun ls hl => ?_)
  replace hl : lv_has ls 3 [(0, .ref (X.2.2 10 32)), (1, .int a1)] := hl
  unfold fL_guestAt at h
  refine lv_aload_n hx hb dL_guestAt_0 rfl (lv_at hl 0 rfl) ?_
  refine lv_iload_n hx hb dL_guestAt_1 rfl (lv_at hl 1 rfl) ?_
  rcases x_or_el h with ⟨q1, h2, h⟩ | ⟨-, h⟩
  · refine xl_aci hI (xt_runV (rest := []) F Z hI (xX6_guestAt l hl0 X _ σ a1 q1 h2) g_L_113 ⟨rfl, hd_X6_guestAt⟩ ⟨by decide, by decide⟩ ⟨rfl, rfl⟩ (x_inO (by decide)) rfl rfl rfl rfl hl.1 rfl (Nat.le_of_ble_eq_true rfl) dL_guestAt_2 ⟨by decide, by decide⟩) (fun H locs ce q9 hI hce hcv hcl => ?_)
    by_cases c3 : q1 = 0
    · have h := x_ift h c3
      rw [c3] at hcl
      refine xl_catch1 (b := 6) (hp := 7) (e0 := 0) F Z ht (by decide) rfl (by decide) hce hcv hcl ?_
      refine lv_astore_n (lv' := [(2, .ref q9), (0, .ref (X.2.2 10 32)), (1, .int a1)]) hx hb dL_guestAt_7 rfl hl (by decide) rfl (fun ls hl => ?_)
      refine lv_ldc2 (v := -9000000000000000001) hx hb hown (hts _ u_cl_L_17) dL_guestAt_8 ?_
      rw [x_some h]
      exact xl_lret F hI (Nat.le_of_ble_eq_true rfl) (Nat.le_of_ble_eq_true rfl) dL_guestAt_11
    · have h := x_iff h c3
      cases h
  · obtain ⟨r4, h5, h⟩ := x_bnd h
    refine x_aci hI (x_runV (rest := []) F hI (mX6_guestAt l X _ σ a1 r4 h5) g_L_113 ⟨rfl, hd_X6_guestAt⟩ ⟨by decide, by decide⟩ ⟨rfl, rfl⟩ (x_inO (by decide)) rfl rfl rfl rfl hl.1 rfl (Nat.le_of_ble_eq_true rfl) dL_guestAt_2 ⟨Nat.zero_le _, Nat.zero_le _⟩) (fun H locs hI => ?_)
    refine lv_i2l hx hb dL_guestAt_5 rfl ?_
    rw [x_some h]
    exact xl_lret F hI (Nat.le_of_ble_eq_true rfl) (Nat.le_of_ble_eq_true rfl) dL_guestAt_6
abbrev rm_L_roomAt : Room := { frames := 8, cells := 1, slots := 6, locals := 124 }
def fL_roomAt (σ : x_S) (a1 : Int32) : Option (Int64 × x_S) := (x_or (eX6_roomAt σ a1) (fun q1 => (if q1 = 0 then some ((-9000000000000000001 : Int64), σ) else (if q1 = 2 then some ((-9000000000000000003 : Int64), σ) else none))) (Option.bind (fX6_roomAt σ a1) fun r5 => some (r5.toInt64, σ)))
set_option maxHeartbeats 4000000 in
set_option maxRecDepth 100000 in
theorem mL_roomAt (l : Launch) (hl0 : l.stackTraces = false) (X : x_T) (sz : Nat) (σ : x_S) (a1 : Int32) (r : Int64 × x_S) (h : fL_roomAt σ a1 = some r) : Met l yL_roomAt (xl_ws yL_roomAt cL_roomAt 3 (some .long) [(0, 6, 7, 15), (0, 6, 12, 19)]) rm_L_roomAt (x_PcT X σ sz [.ref (X.2.2 10 32), .int a1]) (x_Ql X r.1 r.2 sz) 1 6 (x_A X sz) := by
  refine va_MetW (cc := cL_roomAt) (maxL := 3) (ret := (some .long)) (hh := [(0, 6, 7, 15), (0, 6, 12, 19)]) (by decide) rfl ?_
  intro p e s m args below meth c s₁ B hml hv
  obtain ⟨F, Z, ht, hI, rfl, rfl⟩ := xl_begin B hml hv
  replace F : x_F p s m _ meth c cL_roomAt 3 RL (some .long) := F
  have hx := F.1
  have hb := F.2.1
  have hml := F.2.2.1
  have hown := F.2.2.2.1
  have hts := F.2.2.2.2.1
  refine x_entry (vs := [.ref (X.2.2 10 32), .int a1]) (n := 3) (Nat.le_of_ble_eq_true rfl) (fun ls hl => ?_)
  replace hl : lv_has ls 3 [(0, .ref (X.2.2 10 32)), (1, .int a1)] := hl
  unfold fL_roomAt at h
  refine lv_aload_n hx hb dL_roomAt_0 rfl (lv_at hl 0 rfl) ?_
  refine lv_iload_n hx hb dL_roomAt_1 rfl (lv_at hl 1 rfl) ?_
  rcases x_or_el h with ⟨q1, h2, h⟩ | ⟨-, h⟩
  · refine xl_aci hI (xt_runV (rest := []) F Z hI (xX6_roomAt l hl0 X _ σ a1 q1 h2) g_L_116 ⟨rfl, hd_X6_roomAt⟩ ⟨by decide, by decide⟩ ⟨rfl, rfl⟩ (x_inO (by decide)) rfl rfl rfl rfl hl.1 rfl (Nat.le_of_ble_eq_true rfl) dL_roomAt_2 ⟨by decide, by decide⟩) (fun H locs ce q9 hI hce hcv hcl => ?_)
    by_cases c4 : q1 = 0
    · have h := x_ift h c4
      rw [c4] at hcl
      refine xl_catch1 (b := 6) (hp := 7) (e0 := 0) F Z ht (by decide) rfl (by decide) hce hcv hcl ?_
      refine lv_astore_n (lv' := [(2, .ref q9), (0, .ref (X.2.2 10 32)), (1, .int a1)]) hx hb dL_roomAt_7 rfl hl (by decide) rfl (fun ls hl => ?_)
      refine lv_ldc2 (v := -9000000000000000001) hx hb hown (hts _ u_cl_L_17) dL_roomAt_8 ?_
      rw [x_some h]
      exact xl_lret F hI (Nat.le_of_ble_eq_true rfl) (Nat.le_of_ble_eq_true rfl) dL_roomAt_11
    · have h := x_iff h c4
      by_cases c3 : q1 = 2
      · have h := x_ift h c3
        rw [c3] at hcl
        refine xl_catch2 (b := 6) (hp := 12) (e0 := 0) F Z ht (by decide) rfl (by decide) hce hcv hcl ?_
        refine lv_astore_n (lv' := [(2, .ref q9), (0, .ref (X.2.2 10 32)), (1, .int a1)]) hx hb dL_roomAt_12 rfl hl (by decide) rfl (fun ls hl => ?_)
        refine lv_ldc2 (v := -9000000000000000003) hx hb hown (hts _ u_cl_L_21) dL_roomAt_13 ?_
        rw [x_some h]
        exact xl_lret F hI (Nat.le_of_ble_eq_true rfl) (Nat.le_of_ble_eq_true rfl) dL_roomAt_16
      · have h := x_iff h c3
        cases h
  · obtain ⟨r5, h6, h⟩ := x_bnd h
    refine x_aci hI (x_runV (rest := []) F hI (mX6_roomAt l X _ σ a1 r5 h6) g_L_116 ⟨rfl, hd_X6_roomAt⟩ ⟨by decide, by decide⟩ ⟨rfl, rfl⟩ (x_inO (by decide)) rfl rfl rfl rfl hl.1 rfl (Nat.le_of_ble_eq_true rfl) dL_roomAt_2 ⟨Nat.zero_le _, Nat.zero_le _⟩) (fun H locs hI => ?_)
    refine lv_i2l hx hb dL_roomAt_5 rfl ?_
    rw [x_some h]
    exact xl_lret F hI (Nat.le_of_ble_eq_true rfl) (Nat.le_of_ble_eq_true rfl) dL_roomAt_6
abbrev rm_L_sent : Room := { frames := 8, cells := 1, slots := 6, locals := 125 }
def fL_sent (σ : x_S) (a1 : Int32) : Option (Int64 × x_S) := (x_or (eX6_sent σ a1) (fun q1 => (if q1 = 1 then some ((-9000000000000000002 : Int64), σ) else none)) (Option.bind (fX6_sent σ a1) fun r4 => some (r4.toInt64, σ)))
set_option maxHeartbeats 4000000 in
set_option maxRecDepth 100000 in
theorem mL_sent (l : Launch) (hl0 : l.stackTraces = false) (X : x_T) (sz : Nat) (σ : x_S) (a1 : Int32) (r : Int64 × x_S) (h : fL_sent σ a1 = some r) : Met l yL_sent (xl_ws yL_sent cL_sent 3 (some .long) [(0, 6, 7, 42)]) rm_L_sent (x_PcT X σ sz [.ref (X.2.2 10 32), .int a1]) (x_Ql X r.1 r.2 sz) 1 6 (x_A X sz) := by
  refine va_MetW (cc := cL_sent) (maxL := 3) (ret := (some .long)) (hh := [(0, 6, 7, 42)]) (by decide) rfl ?_
  intro p e s m args below meth c s₁ B hml hv
  obtain ⟨F, Z, ht, hI, rfl, rfl⟩ := xl_begin B hml hv
  replace F : x_F p s m _ meth c cL_sent 3 RL (some .long) := F
  have hx := F.1
  have hb := F.2.1
  have hml := F.2.2.1
  have hown := F.2.2.2.1
  have hts := F.2.2.2.2.1
  refine x_entry (vs := [.ref (X.2.2 10 32), .int a1]) (n := 3) (Nat.le_of_ble_eq_true rfl) (fun ls hl => ?_)
  replace hl : lv_has ls 3 [(0, .ref (X.2.2 10 32)), (1, .int a1)] := hl
  unfold fL_sent at h
  refine lv_aload_n hx hb dL_sent_0 rfl (lv_at hl 0 rfl) ?_
  refine lv_iload_n hx hb dL_sent_1 rfl (lv_at hl 1 rfl) ?_
  rcases x_or_el h with ⟨q1, h2, h⟩ | ⟨-, h⟩
  · refine xl_aci hI (xt_runV (rest := []) F Z hI (xX6_sent l hl0 X _ σ a1 q1 h2) g_L_119 ⟨rfl, hd_X6_sent⟩ ⟨by decide, by decide⟩ ⟨rfl, rfl⟩ (x_inO (by decide)) rfl rfl rfl rfl hl.1 rfl (Nat.le_of_ble_eq_true rfl) dL_sent_2 ⟨by decide, by decide⟩) (fun H locs ce q9 hI hce hcv hcl => ?_)
    by_cases c3 : q1 = 1
    · have h := x_ift h c3
      rw [c3] at hcl
      refine xl_catch1 (b := 6) (hp := 7) (e0 := 1) F Z ht (by decide) rfl (by decide) hce hcv hcl ?_
      refine lv_astore_n (lv' := [(2, .ref q9), (0, .ref (X.2.2 10 32)), (1, .int a1)]) hx hb dL_sent_7 rfl hl (by decide) rfl (fun ls hl => ?_)
      refine lv_ldc2 (v := -9000000000000000002) hx hb hown (hts _ u_cl_L_44) dL_sent_8 ?_
      rw [x_some h]
      exact xl_lret F hI (Nat.le_of_ble_eq_true rfl) (Nat.le_of_ble_eq_true rfl) dL_sent_11
    · have h := x_iff h c3
      cases h
  · obtain ⟨r4, h5, h⟩ := x_bnd h
    refine x_aci hI (x_runV (rest := []) F hI (mX6_sent l X _ σ a1 r4 h5) g_L_119 ⟨rfl, hd_X6_sent⟩ ⟨by decide, by decide⟩ ⟨rfl, rfl⟩ (x_inO (by decide)) rfl rfl rfl rfl hl.1 rfl (Nat.le_of_ble_eq_true rfl) dL_sent_2 ⟨Nat.zero_le _, Nat.zero_le _⟩) (fun H locs hI => ?_)
    refine lv_i2l hx hb dL_sent_5 rfl ?_
    rw [x_some h]
    exact xl_lret F hI (Nat.le_of_ble_eq_true rfl) (Nat.le_of_ble_eq_true rfl) dL_sent_6
abbrev rm_L_reserve : Room := { frames := 8, cells := 1, slots := 6, locals := 132 }
def fL_reserve (σ : x_S) (a1 : Int32) (a2 : Int32) : Option (Int64 × x_S) := (x_or (eX6_reserve σ a1 a2) (fun q1 => (if q1.1 = 0 then some ((-9000000000000000001 : Int64), q1.2) else (if q1.1 = 2 then some ((-9000000000000000003 : Int64), q1.2) else none))) (Option.bind (fX6_reserve σ a1 a2) fun r5 => some ((0 : Int64), r5)))
set_option maxHeartbeats 4000000 in
set_option maxRecDepth 100000 in
theorem mL_reserve (l : Launch) (hl0 : l.stackTraces = false) (X : x_T) (sz : Nat) (σ : x_S) (a1 : Int32) (a2 : Int32) (r : Int64 × x_S) (h : fL_reserve σ a1 a2 = some r) : Met l yL_reserve (xl_ws yL_reserve cL_reserve 4 (some .long) [(0, 7, 8, 15), (0, 7, 13, 19)]) rm_L_reserve (x_PcT X σ sz [.ref (X.2.2 10 32), .int a1, .int a2]) (x_Ql X r.1 r.2 sz) 1 6 (x_A X sz) := by
  refine va_MetW (cc := cL_reserve) (maxL := 4) (ret := (some .long)) (hh := [(0, 7, 8, 15), (0, 7, 13, 19)]) (by decide) rfl ?_
  intro p e s m args below meth c s₁ B hml hv
  obtain ⟨F, Z, ht, hI, rfl, rfl⟩ := xl_begin B hml hv
  replace F : x_F p s m _ meth c cL_reserve 4 RL (some .long) := F
  have hx := F.1
  have hb := F.2.1
  have hml := F.2.2.1
  have hown := F.2.2.2.1
  have hts := F.2.2.2.2.1
  refine x_entry (vs := [.ref (X.2.2 10 32), .int a1, .int a2]) (n := 4) (Nat.le_of_ble_eq_true rfl) (fun ls hl => ?_)
  replace hl : lv_has ls 4 [(0, .ref (X.2.2 10 32)), (1, .int a1), (2, .int a2)] := hl
  unfold fL_reserve at h
  refine lv_aload_n hx hb dL_reserve_0 rfl (lv_at hl 0 rfl) ?_
  refine lv_iload_n hx hb dL_reserve_1 rfl (lv_at hl 1 rfl) ?_
  refine lv_iload_n hx hb dL_reserve_2 rfl (lv_at hl 2 rfl) ?_
  rcases x_or_el h with ⟨q1, h2, h⟩ | ⟨-, h⟩
  · refine xl_acv hI (xt_runV (rest := []) F Z hI (xX6_reserve l hl0 X _ σ a1 a2 q1 h2) g_L_122 ⟨rfl, hd_X6_reserve⟩ ⟨by decide, by decide⟩ ⟨rfl, rfl⟩ (x_inO (by decide)) rfl rfl rfl rfl hl.1 rfl (Nat.le_of_ble_eq_true rfl) dL_reserve_3 ⟨by decide, by decide⟩) (fun H locs ce q9 hI hce hcv hcl => ?_)
    by_cases c4 : q1.1 = 0
    · have h := x_ift h c4
      rw [c4] at hcl
      refine xl_catch1 (b := 7) (hp := 8) (e0 := 0) F Z ht (by decide) rfl (by decide) hce hcv hcl ?_
      refine lv_astore_n (lv' := [(3, .ref q9), (0, .ref (X.2.2 10 32)), (1, .int a1), (2, .int a2)]) hx hb dL_reserve_8 rfl hl (by decide) rfl (fun ls hl => ?_)
      refine lv_ldc2 (v := -9000000000000000001) hx hb hown (hts _ u_cl_L_17) dL_reserve_9 ?_
      rw [x_some h]
      exact xl_lret F hI (Nat.le_of_ble_eq_true rfl) (Nat.le_of_ble_eq_true rfl) dL_reserve_12
    · have h := x_iff h c4
      by_cases c3 : q1.1 = 2
      · have h := x_ift h c3
        rw [c3] at hcl
        refine xl_catch2 (b := 7) (hp := 13) (e0 := 0) F Z ht (by decide) rfl (by decide) hce hcv hcl ?_
        refine lv_astore_n (lv' := [(3, .ref q9), (0, .ref (X.2.2 10 32)), (1, .int a1), (2, .int a2)]) hx hb dL_reserve_13 rfl hl (by decide) rfl (fun ls hl => ?_)
        refine lv_ldc2 (v := -9000000000000000003) hx hb hown (hts _ u_cl_L_21) dL_reserve_14 ?_
        rw [x_some h]
        exact xl_lret F hI (Nat.le_of_ble_eq_true rfl) (Nat.le_of_ble_eq_true rfl) dL_reserve_17
      · have h := x_iff h c3
        cases h
  · obtain ⟨r5, h6, h⟩ := x_bnd h
    refine x_acv hI (x_runV (rest := []) F hI (mX6_reserve l X _ σ a1 a2 r5 h6) g_L_122 ⟨rfl, hd_X6_reserve⟩ ⟨by decide, by decide⟩ ⟨rfl, rfl⟩ (x_inO (by decide)) rfl rfl rfl rfl hl.1 rfl (Nat.le_of_ble_eq_true rfl) dL_reserve_3 ⟨Nat.zero_le _, Nat.zero_le _⟩) (fun H locs hI => ?_)
    refine lv_lconst (v := 0) hx hb dL_reserve_6 (by decide) ?_
    rw [x_some h]
    exact xl_lret F hI (Nat.le_of_ble_eq_true rfl) (Nat.le_of_ble_eq_true rfl) dL_reserve_7
abbrev rm_L_keep : Room := { frames := 8, cells := 1, slots := 6, locals := 125 }
def fL_keep (σ : x_S) (a1 : Int32) : Option (Int64 × x_S) := (x_or (eX6_keep σ a1) (fun q1 => (if q1.1 = 1 then some ((-9000000000000000002 : Int64), q1.2) else none)) (Option.bind (fX6_keep σ a1) fun r4 => some ((0 : Int64), r4)))
set_option maxHeartbeats 4000000 in
set_option maxRecDepth 100000 in
theorem mL_keep (l : Launch) (hl0 : l.stackTraces = false) (X : x_T) (sz : Nat) (σ : x_S) (a1 : Int32) (r : Int64 × x_S) (h : fL_keep σ a1 = some r) : Met l yL_keep (xl_ws yL_keep cL_keep 3 (some .long) [(0, 6, 7, 42)]) rm_L_keep (x_PcT X σ sz [.ref (X.2.2 10 32), .int a1]) (x_Ql X r.1 r.2 sz) 1 6 (x_A X sz) := by
  refine va_MetW (cc := cL_keep) (maxL := 3) (ret := (some .long)) (hh := [(0, 6, 7, 42)]) (by decide) rfl ?_
  intro p e s m args below meth c s₁ B hml hv
  obtain ⟨F, Z, ht, hI, rfl, rfl⟩ := xl_begin B hml hv
  replace F : x_F p s m _ meth c cL_keep 3 RL (some .long) := F
  have hx := F.1
  have hb := F.2.1
  have hml := F.2.2.1
  have hown := F.2.2.2.1
  have hts := F.2.2.2.2.1
  refine x_entry (vs := [.ref (X.2.2 10 32), .int a1]) (n := 3) (Nat.le_of_ble_eq_true rfl) (fun ls hl => ?_)
  replace hl : lv_has ls 3 [(0, .ref (X.2.2 10 32)), (1, .int a1)] := hl
  unfold fL_keep at h
  refine lv_aload_n hx hb dL_keep_0 rfl (lv_at hl 0 rfl) ?_
  refine lv_iload_n hx hb dL_keep_1 rfl (lv_at hl 1 rfl) ?_
  rcases x_or_el h with ⟨q1, h2, h⟩ | ⟨-, h⟩
  · refine xl_acv hI (xt_runV (rest := []) F Z hI (xX6_keep l hl0 X _ σ a1 q1 h2) g_L_126 ⟨rfl, hd_X6_keep⟩ ⟨by decide, by decide⟩ ⟨rfl, rfl⟩ (x_inO (by decide)) rfl rfl rfl rfl hl.1 rfl (Nat.le_of_ble_eq_true rfl) dL_keep_2 ⟨by decide, by decide⟩) (fun H locs ce q9 hI hce hcv hcl => ?_)
    by_cases c3 : q1.1 = 1
    · have h := x_ift h c3
      rw [c3] at hcl
      refine xl_catch1 (b := 6) (hp := 7) (e0 := 1) F Z ht (by decide) rfl (by decide) hce hcv hcl ?_
      refine lv_astore_n (lv' := [(2, .ref q9), (0, .ref (X.2.2 10 32)), (1, .int a1)]) hx hb dL_keep_7 rfl hl (by decide) rfl (fun ls hl => ?_)
      refine lv_ldc2 (v := -9000000000000000002) hx hb hown (hts _ u_cl_L_44) dL_keep_8 ?_
      rw [x_some h]
      exact xl_lret F hI (Nat.le_of_ble_eq_true rfl) (Nat.le_of_ble_eq_true rfl) dL_keep_11
    · have h := x_iff h c3
      cases h
  · obtain ⟨r4, h5, h⟩ := x_bnd h
    refine x_acv hI (x_runV (rest := []) F hI (mX6_keep l X _ σ a1 r4 h5) g_L_126 ⟨rfl, hd_X6_keep⟩ ⟨by decide, by decide⟩ ⟨rfl, rfl⟩ (x_inO (by decide)) rfl rfl rfl rfl hl.1 rfl (Nat.le_of_ble_eq_true rfl) dL_keep_2 ⟨Nat.zero_le _, Nat.zero_le _⟩) (fun H locs hI => ?_)
    refine lv_lconst (v := 0) hx hb dL_keep_5 (by decide) ?_
    rw [x_some h]
    exact xl_lret F hI (Nat.le_of_ble_eq_true rfl) (Nat.le_of_ble_eq_true rfl) dL_keep_6
abbrev rm_L_goBack : Room := { frames := 8, cells := 1, slots := 6, locals := 131 }
def fL_goBack (σ : x_S) (a1 : Int32) : Option (Int64 × x_S) := (x_or (eX6_goBack σ a1) (fun q1 => (if q1.1 = 1 then some ((-9000000000000000002 : Int64), q1.2) else (if q1.1 = 2 then some ((-9000000000000000003 : Int64), q1.2) else none))) (Option.bind (fX6_goBack σ a1) fun r5 => some ((0 : Int64), r5)))
set_option maxHeartbeats 4000000 in
set_option maxRecDepth 100000 in
theorem mL_goBack (l : Launch) (hl0 : l.stackTraces = false) (X : x_T) (sz : Nat) (σ : x_S) (a1 : Int32) (r : Int64 × x_S) (h : fL_goBack σ a1 = some r) : Met l yL_goBack (xl_ws yL_goBack cL_goBack 3 (some .long) [(0, 6, 7, 42), (0, 6, 12, 19)]) rm_L_goBack (x_PcT X σ sz [.ref (X.2.2 10 32), .int a1]) (x_Ql X r.1 r.2 sz) 1 6 (x_A X sz) := by
  refine va_MetW (cc := cL_goBack) (maxL := 3) (ret := (some .long)) (hh := [(0, 6, 7, 42), (0, 6, 12, 19)]) (by decide) rfl ?_
  intro p e s m args below meth c s₁ B hml hv
  obtain ⟨F, Z, ht, hI, rfl, rfl⟩ := xl_begin B hml hv
  replace F : x_F p s m _ meth c cL_goBack 3 RL (some .long) := F
  have hx := F.1
  have hb := F.2.1
  have hml := F.2.2.1
  have hown := F.2.2.2.1
  have hts := F.2.2.2.2.1
  refine x_entry (vs := [.ref (X.2.2 10 32), .int a1]) (n := 3) (Nat.le_of_ble_eq_true rfl) (fun ls hl => ?_)
  replace hl : lv_has ls 3 [(0, .ref (X.2.2 10 32)), (1, .int a1)] := hl
  unfold fL_goBack at h
  refine lv_aload_n hx hb dL_goBack_0 rfl (lv_at hl 0 rfl) ?_
  refine lv_iload_n hx hb dL_goBack_1 rfl (lv_at hl 1 rfl) ?_
  rcases x_or_el h with ⟨q1, h2, h⟩ | ⟨-, h⟩
  · refine xl_acv hI (xt_runV (rest := []) F Z hI (xX6_goBack l hl0 X _ σ a1 q1 h2) g_L_130 ⟨rfl, hd_X6_goBack⟩ ⟨by decide, by decide⟩ ⟨rfl, rfl⟩ (x_inO (by decide)) rfl rfl rfl rfl hl.1 rfl (Nat.le_of_ble_eq_true rfl) dL_goBack_2 ⟨by decide, by decide⟩) (fun H locs ce q9 hI hce hcv hcl => ?_)
    by_cases c4 : q1.1 = 1
    · have h := x_ift h c4
      rw [c4] at hcl
      refine xl_catch1 (b := 6) (hp := 7) (e0 := 1) F Z ht (by decide) rfl (by decide) hce hcv hcl ?_
      refine lv_astore_n (lv' := [(2, .ref q9), (0, .ref (X.2.2 10 32)), (1, .int a1)]) hx hb dL_goBack_7 rfl hl (by decide) rfl (fun ls hl => ?_)
      refine lv_ldc2 (v := -9000000000000000002) hx hb hown (hts _ u_cl_L_44) dL_goBack_8 ?_
      rw [x_some h]
      exact xl_lret F hI (Nat.le_of_ble_eq_true rfl) (Nat.le_of_ble_eq_true rfl) dL_goBack_11
    · have h := x_iff h c4
      by_cases c3 : q1.1 = 2
      · have h := x_ift h c3
        rw [c3] at hcl
        refine xl_catch2 (b := 6) (hp := 12) (e0 := 1) F Z ht (by decide) rfl (by decide) hce hcv hcl ?_
        refine lv_astore_n (lv' := [(2, .ref q9), (0, .ref (X.2.2 10 32)), (1, .int a1)]) hx hb dL_goBack_12 rfl hl (by decide) rfl (fun ls hl => ?_)
        refine lv_ldc2 (v := -9000000000000000003) hx hb hown (hts _ u_cl_L_21) dL_goBack_13 ?_
        rw [x_some h]
        exact xl_lret F hI (Nat.le_of_ble_eq_true rfl) (Nat.le_of_ble_eq_true rfl) dL_goBack_16
      · have h := x_iff h c3
        cases h
  · obtain ⟨r5, h6, h⟩ := x_bnd h
    refine x_acv hI (x_runV (rest := []) F hI (mX6_goBack l X _ σ a1 r5 h6) g_L_130 ⟨rfl, hd_X6_goBack⟩ ⟨by decide, by decide⟩ ⟨rfl, rfl⟩ (x_inO (by decide)) rfl rfl rfl rfl hl.1 rfl (Nat.le_of_ble_eq_true rfl) dL_goBack_2 ⟨Nat.zero_le _, Nat.zero_le _⟩) (fun H locs hI => ?_)
    refine lv_lconst (v := 0) hx hb dL_goBack_5 (by decide) ?_
    rw [x_some h]
    exact xl_lret F hI (Nat.le_of_ble_eq_true rfl) (Nat.le_of_ble_eq_true rfl) dL_goBack_6
abbrev rm_L_undo : Room := { frames := 8, cells := 1, slots := 6, locals := 130 }
def fL_undo (σ : x_S) : Option (Int64 × x_S) := (x_or (eX6_undo σ ) (fun q1 => (if q1.1 = 2 then some ((-9000000000000000003 : Int64), q1.2) else none)) (Option.bind (fX6_undo σ ) fun r4 => some ((0 : Int64), r4)))
set_option maxHeartbeats 4000000 in
set_option maxRecDepth 100000 in
theorem mL_undo (l : Launch) (hl0 : l.stackTraces = false) (X : x_T) (sz : Nat) (σ : x_S) (r : Int64 × x_S) (h : fL_undo σ  = some r) : Met l yL_undo (xl_ws yL_undo cL_undo 2 (some .long) [(0, 5, 6, 19)]) rm_L_undo (x_PcT X σ sz [.ref (X.2.2 10 32)]) (x_Ql X r.1 r.2 sz) 1 6 (x_A X sz) := by
  refine va_MetW (cc := cL_undo) (maxL := 2) (ret := (some .long)) (hh := [(0, 5, 6, 19)]) (by decide) rfl ?_
  intro p e s m args below meth c s₁ B hml hv
  obtain ⟨F, Z, ht, hI, rfl, rfl⟩ := xl_begin B hml hv
  replace F : x_F p s m _ meth c cL_undo 2 RL (some .long) := F
  have hx := F.1
  have hb := F.2.1
  have hml := F.2.2.1
  have hown := F.2.2.2.1
  have hts := F.2.2.2.2.1
  refine x_entry (vs := [.ref (X.2.2 10 32)]) (n := 2) (Nat.le_of_ble_eq_true rfl) (fun ls hl => ?_)
  replace hl : lv_has ls 2 [(0, .ref (X.2.2 10 32))] := hl
  unfold fL_undo at h
  refine lv_aload_n hx hb dL_undo_0 rfl (lv_at hl 0 rfl) ?_
  rcases x_or_el h with ⟨q1, h2, h⟩ | ⟨-, h⟩
  · refine xl_acv hI (xt_runV (rest := []) F Z hI (xX6_undo l hl0 X _ σ  q1 h2) g_L_133 ⟨rfl, hd_X6_undo⟩ ⟨by decide, by decide⟩ ⟨rfl, rfl⟩ (x_inO (by decide)) rfl rfl rfl rfl hl.1 rfl (Nat.le_of_ble_eq_true rfl) dL_undo_1 ⟨by decide, by decide⟩) (fun H locs ce q9 hI hce hcv hcl => ?_)
    by_cases c3 : q1.1 = 2
    · have h := x_ift h c3
      rw [c3] at hcl
      refine xl_catch1 (b := 5) (hp := 6) (e0 := 2) F Z ht (by decide) rfl (by decide) hce hcv hcl ?_
      refine lv_astore_n (lv' := [(1, .ref q9), (0, .ref (X.2.2 10 32))]) hx hb dL_undo_6 rfl hl (by decide) rfl (fun ls hl => ?_)
      refine lv_ldc2 (v := -9000000000000000003) hx hb hown (hts _ u_cl_L_21) dL_undo_7 ?_
      rw [x_some h]
      exact xl_lret F hI (Nat.le_of_ble_eq_true rfl) (Nat.le_of_ble_eq_true rfl) dL_undo_10
    · have h := x_iff h c3
      cases h
  · obtain ⟨r4, h5, h⟩ := x_bnd h
    refine x_acv hI (x_runV (rest := []) F hI (mX6_undo l X _ σ  r4 h5) g_L_133 ⟨rfl, hd_X6_undo⟩ ⟨by decide, by decide⟩ ⟨rfl, rfl⟩ (x_inO (by decide)) rfl rfl rfl rfl hl.1 rfl (Nat.le_of_ble_eq_true rfl) dL_undo_1 ⟨Nat.zero_le _, Nat.zero_le _⟩) (fun H locs hI => ?_)
    refine lv_lconst (v := 0) hx hb dL_undo_4 (by decide) ?_
    rw [x_some h]
    exact xl_lret F hI (Nat.le_of_ble_eq_true rfl) (Nat.le_of_ble_eq_true rfl) dL_undo_5
abbrev rm_L_in : Room := { frames := 0, cells := 0, slots := 0, locals := 0 }
def fL_in (a1 : Int64) (a2 : Int64) (a3 : Int64) : Option Int32 := (if (lg_cmp a1 a2) < 0 then some (0 : Int32) else (if 0 < (lg_cmp a1 a3) then some (0 : Int32) else some (1 : Int32)))
set_option maxHeartbeats 4000000 in
set_option maxRecDepth 100000 in
theorem mL_in (l : Launch) (X : x_T) (σ : x_S) (sz : Nat) (a1 : Int64) (a2 : Int64) (a3 : Int64) (r : Int32) (h : fL_in a1 a2 a3 = some r) : Met l yL_in (x_ws yL_in cL_in 6 (some .boolean)) rm_L_in (x_Pc X σ sz [.long a1, .long a2, .long a3]) (x_Qi X r σ sz) 0 0 (x_A X sz) := by
  refine Met.ofW (cc := cL_in) (maxL := 6) (ret := (some .boolean)) (by decide) rfl ?_
  intro p e s m args below meth c s₁ B hml hv
  obtain ⟨F, hI, rfl, rfl⟩ := x_begin B hml hv
  replace F : x_F p s m _ meth c cL_in 6 RL (some .boolean) := F
  have hx := F.1
  have hb := F.2.1
  have hml := F.2.2.1
  have hown := F.2.2.2.1
  have hts := F.2.2.2.2.1
  refine x_entry (vs := [.long a1, .long a2, .long a3]) (n := 6) (Nat.le_of_ble_eq_true rfl) (fun ls hl => ?_)
  replace hl : lv_has ls 6 [(0, .long a1), (2, .long a2), (4, .long a3)] := hl
  unfold fL_in at h
  refine lv_lload_n hx hb dL_in_0 rfl (lv_at hl 0 rfl) ?_
  refine lv_lload_n hx hb dL_in_1 rfl (lv_at hl 1 rfl) ?_
  refine W.lcmp hx hb dL_in_2 ?_
  refine lv_if_lt (tgt := 17) hx hb dL_in_3 (by decide) (fun c1 => ?_) (fun c1 => ?_)
  · have h := x_ift h c1
    refine lv_iconst (v := 0) hx hb dL_in_17 (by decide) ?_
    rw [x_some h]
    exact x_zret (v := 0) F hI (by decide) dL_in_18
  · have h := x_iff h c1
    refine lv_lload_n hx hb dL_in_6 rfl (lv_at hl 0 rfl) ?_
    refine lv_lload hx hb dL_in_7 (lv_at hl 2 rfl) ?_
    refine W.lcmp hx hb dL_in_9 ?_
    refine lv_if_gt (tgt := 17) hx hb dL_in_10 (by decide) (fun c2 => ?_) (fun c2 => ?_)
    · have h := x_ift h c2
      refine lv_iconst (v := 0) hx hb dL_in_17 (by decide) ?_
      rw [x_some h]
      exact x_zret (v := 0) F hI (by decide) dL_in_18
    · have h := x_iff h c2
      refine lv_iconst (v := 1) hx hb dL_in_13 (by decide) ?_
      refine lv_goto (tgt := 18) hx hb dL_in_14 (by decide) ?_
      rw [x_some h]
      exact x_zret (v := 1) F hI (by decide) dL_in_18
