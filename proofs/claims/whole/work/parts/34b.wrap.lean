abbrev rm_L_seek : Room := { frames := 8, cells := 1, slots := 6, locals := 131 }
def fL_seek (σ : x_S) (a1 : Int32) : Option (Int32 × x_S) := (x_or (eX6_seek σ a1) (fun q1 => (if q1.1 = 0 then some ((1 : Int32), q1.2) else (if q1.1 = 2 then some ((2 : Int32), q1.2) else none))) (Option.bind (fX6_seek σ a1) fun r5 => x_let (x_sh r5.2 12 (x_hu (r5.2 12) 48 (Int32.toNatClampNeg (0 : Int32)) (r5.1))) fun τ7 => some ((0 : Int32), τ7)))
set_option maxHeartbeats 4000000 in
set_option maxRecDepth 100000 in
theorem mL_seek (l : Launch) (hl0 : l.stackTraces = false) (X : x_T) (sz : Nat) (σ : x_S) (a1 : Int32) (r : Int32 × x_S) (h : fL_seek σ a1 = some r) : Met l yL_seek (xl_ws yL_seek cL_seek 4 (some .int) [(0, 9, 12, 13), (0, 9, 15, 15)]) rm_L_seek (x_PcT X σ sz [.ref (X.2.2 10 32), .int a1, .ref (X.2.2 12 48)]) (x_Qi X r.1 r.2 sz) 1 6 (x_A X sz) := by
  refine va_MetW (cc := cL_seek) (maxL := 4) (ret := (some .int)) (hh := [(0, 9, 12, 13), (0, 9, 15, 15)]) (by decide) rfl ?_
  intro p e s m args below meth c s₁ B hml hv
  obtain ⟨F, Z, ht, hI, rfl, rfl⟩ := xl_begin B hml hv
  replace F : x_F p s m _ meth c cL_seek 4 RL (some .int) := F
  have hx := F.1
  have hb := F.2.1
  have hml := F.2.2.1
  have hown := F.2.2.2.1
  have hts := F.2.2.2.2.1
  refine x_entry (vs := [.ref (X.2.2 10 32), .int a1, .ref (X.2.2 12 48)]) (n := 4) (Nat.le_of_ble_eq_true rfl) (fun ls hl => ?_)
  replace hl : lv_has ls 4 [(0, .ref (X.2.2 10 32)), (1, .int a1), (2, .ref (X.2.2 12 48))] := hl
  unfold fL_seek at h
  refine lv_aload_n hx hb dL_seek_0 rfl (lv_at hl 2 rfl) ?_
  refine lv_iconst (v := 0) hx hb dL_seek_1 (by decide) ?_
  refine lv_aload_n hx hb dL_seek_2 rfl (lv_at hl 0 rfl) ?_
  refine lv_iload_n hx hb dL_seek_3 rfl (lv_at hl 1 rfl) ?_
  rcases x_or_el h with ⟨q1, h2, h⟩ | ⟨-, h⟩
  · refine xl_aci hI (xt_runV (rest := [.int (0), .ref (X.2.2 12 48)]) F Z hI (xX6_seek l hl0 X _ σ a1 q1 h2) g_L_7 ⟨rfl, hd_X6_seek⟩ ⟨by decide, by decide⟩ ⟨rfl, rfl⟩ (x_inO (by decide)) rfl rfl rfl rfl hl.1 rfl (Nat.le_of_ble_eq_true rfl) dL_seek_4 ⟨by decide, by decide⟩) (fun H locs ce q9 hI hce hcv hcl => ?_)
    by_cases c4 : q1.1 = 0
    · have h := x_ift h c4
      rw [c4] at hcl
      refine xl_catch1 (b := 9) (hp := 12) (e0 := 0) F Z ht (by decide) rfl (by decide) hce hcv hcl ?_
      refine lv_astore_n (lv' := [(3, .ref q9), (0, .ref (X.2.2 10 32)), (1, .int a1), (2, .ref (X.2.2 12 48))]) hx hb dL_seek_12 rfl hl (by decide) rfl (fun ls hl => ?_)
      refine lv_iconst (v := 1) hx hb dL_seek_13 (by decide) ?_
      rw [x_some h]
      exact xl_iret F hI (Nat.le_of_ble_eq_true rfl) (Nat.le_of_ble_eq_true rfl) dL_seek_14
    · have h := x_iff h c4
      by_cases c3 : q1.1 = 2
      · have h := x_ift h c3
        rw [c3] at hcl
        refine xl_catch2 (b := 9) (hp := 15) (e0 := 0) F Z ht (by decide) rfl (by decide) hce hcv hcl ?_
        refine lv_astore_n (lv' := [(3, .ref q9), (0, .ref (X.2.2 10 32)), (1, .int a1), (2, .ref (X.2.2 12 48))]) hx hb dL_seek_15 rfl hl (by decide) rfl (fun ls hl => ?_)
        refine lv_iconst (v := 2) hx hb dL_seek_16 (by decide) ?_
        rw [x_some h]
        exact xl_iret F hI (Nat.le_of_ble_eq_true rfl) (Nat.le_of_ble_eq_true rfl) dL_seek_17
      · have h := x_iff h c3
        cases h
  · obtain ⟨r5, h6, h⟩ := x_bnd h
    refine x_aci hI (x_runV (rest := [.int (0), .ref (X.2.2 12 48)]) F hI (mX6_seek l X _ σ a1 r5 h6) g_L_7 ⟨rfl, hd_X6_seek⟩ ⟨by decide, by decide⟩ ⟨rfl, rfl⟩ (x_inO (by decide)) rfl rfl rfl rfl hl.1 rfl (Nat.le_of_ble_eq_true rfl) dL_seek_4 ⟨Nat.zero_le _, Nat.zero_le _⟩) (fun H locs hI => ?_)
    refine lv_i2l hx hb dL_seek_7 rfl ?_
    refine x_last (x := (r5.1)) F hI rfl (by decide) dL_seek_8 (fun H locs hI => ?_)
    obtain ⟨τ7, e8⟩ : ∃ z : x_S, z = (x_sh r5.2 12 (x_hu (r5.2 12) 48 (Int32.toNatClampNeg (0 : Int32)) (r5.1))) := ⟨_, rfl⟩
    rw [← e8] at hI
    have h := x_let_at h e8
    refine lv_goto (tgt := 18) hx hb dL_seek_9 (by decide) ?_
    refine lv_iconst (v := 0) hx hb dL_seek_18 (by decide) ?_
    rw [x_some h]
    exact xl_iret F hI (Nat.le_of_ble_eq_true rfl) (Nat.le_of_ble_eq_true rfl) dL_seek_19
abbrev rm_L_leave : Room := { frames := 8, cells := 1, slots := 6, locals := 132 }
def fL_leave (σ : x_S) (a1 : Int32) : Option (Int32 × x_S) := (x_or (eX6_leave σ a1) (fun q1 => (if q1.1 = 0 then some ((1 : Int32), q1.2) else (if q1.1 = 2 then some ((2 : Int32), q1.2) else none))) (Option.bind (fX6_leave σ a1) fun r5 => x_let (x_sh r5.2 12 (x_hu (r5.2 12) 48 (Int32.toNatClampNeg (0 : Int32)) (r5.1))) fun τ7 => some ((0 : Int32), τ7)))
set_option maxHeartbeats 4000000 in
set_option maxRecDepth 100000 in
theorem mL_leave (l : Launch) (hl0 : l.stackTraces = false) (X : x_T) (sz : Nat) (σ : x_S) (a1 : Int32) (r : Int32 × x_S) (h : fL_leave σ a1 = some r) : Met l yL_leave (xl_ws yL_leave cL_leave 4 (some .int) [(0, 9, 12, 13), (0, 9, 15, 15)]) rm_L_leave (x_PcT X σ sz [.ref (X.2.2 10 32), .int a1, .ref (X.2.2 12 48)]) (x_Qi X r.1 r.2 sz) 1 6 (x_A X sz) := by
  refine va_MetW (cc := cL_leave) (maxL := 4) (ret := (some .int)) (hh := [(0, 9, 12, 13), (0, 9, 15, 15)]) (by decide) rfl ?_
  intro p e s m args below meth c s₁ B hml hv
  obtain ⟨F, Z, ht, hI, rfl, rfl⟩ := xl_begin B hml hv
  replace F : x_F p s m _ meth c cL_leave 4 RL (some .int) := F
  have hx := F.1
  have hb := F.2.1
  have hml := F.2.2.1
  have hown := F.2.2.2.1
  have hts := F.2.2.2.2.1
  refine x_entry (vs := [.ref (X.2.2 10 32), .int a1, .ref (X.2.2 12 48)]) (n := 4) (Nat.le_of_ble_eq_true rfl) (fun ls hl => ?_)
  replace hl : lv_has ls 4 [(0, .ref (X.2.2 10 32)), (1, .int a1), (2, .ref (X.2.2 12 48))] := hl
  unfold fL_leave at h
  refine lv_aload_n hx hb dL_leave_0 rfl (lv_at hl 2 rfl) ?_
  refine lv_iconst (v := 0) hx hb dL_leave_1 (by decide) ?_
  refine lv_aload_n hx hb dL_leave_2 rfl (lv_at hl 0 rfl) ?_
  refine lv_iload_n hx hb dL_leave_3 rfl (lv_at hl 1 rfl) ?_
  rcases x_or_el h with ⟨q1, h2, h⟩ | ⟨-, h⟩
  · refine xl_aci hI (xt_runV (rest := [.int (0), .ref (X.2.2 12 48)]) F Z hI (xX6_leave l hl0 X _ σ a1 q1 h2) g_L_17 ⟨rfl, hd_X6_leave⟩ ⟨by decide, by decide⟩ ⟨rfl, rfl⟩ (x_inO (by decide)) rfl rfl rfl rfl hl.1 rfl (Nat.le_of_ble_eq_true rfl) dL_leave_4 ⟨by decide, by decide⟩) (fun H locs ce q9 hI hce hcv hcl => ?_)
    by_cases c4 : q1.1 = 0
    · have h := x_ift h c4
      rw [c4] at hcl
      refine xl_catch1 (b := 9) (hp := 12) (e0 := 0) F Z ht (by decide) rfl (by decide) hce hcv hcl ?_
      refine lv_astore_n (lv' := [(3, .ref q9), (0, .ref (X.2.2 10 32)), (1, .int a1), (2, .ref (X.2.2 12 48))]) hx hb dL_leave_12 rfl hl (by decide) rfl (fun ls hl => ?_)
      refine lv_iconst (v := 1) hx hb dL_leave_13 (by decide) ?_
      rw [x_some h]
      exact xl_iret F hI (Nat.le_of_ble_eq_true rfl) (Nat.le_of_ble_eq_true rfl) dL_leave_14
    · have h := x_iff h c4
      by_cases c3 : q1.1 = 2
      · have h := x_ift h c3
        rw [c3] at hcl
        refine xl_catch2 (b := 9) (hp := 15) (e0 := 0) F Z ht (by decide) rfl (by decide) hce hcv hcl ?_
        refine lv_astore_n (lv' := [(3, .ref q9), (0, .ref (X.2.2 10 32)), (1, .int a1), (2, .ref (X.2.2 12 48))]) hx hb dL_leave_15 rfl hl (by decide) rfl (fun ls hl => ?_)
        refine lv_iconst (v := 2) hx hb dL_leave_16 (by decide) ?_
        rw [x_some h]
        exact xl_iret F hI (Nat.le_of_ble_eq_true rfl) (Nat.le_of_ble_eq_true rfl) dL_leave_17
      · have h := x_iff h c3
        cases h
  · obtain ⟨r5, h6, h⟩ := x_bnd h
    refine x_aci hI (x_runV (rest := [.int (0), .ref (X.2.2 12 48)]) F hI (mX6_leave l X _ σ a1 r5 h6) g_L_17 ⟨rfl, hd_X6_leave⟩ ⟨by decide, by decide⟩ ⟨rfl, rfl⟩ (x_inO (by decide)) rfl rfl rfl rfl hl.1 rfl (Nat.le_of_ble_eq_true rfl) dL_leave_4 ⟨Nat.zero_le _, Nat.zero_le _⟩) (fun H locs hI => ?_)
    refine lv_i2l hx hb dL_leave_7 rfl ?_
    refine x_last (x := (r5.1)) F hI rfl (by decide) dL_leave_8 (fun H locs hI => ?_)
    obtain ⟨τ7, e8⟩ : ∃ z : x_S, z = (x_sh r5.2 12 (x_hu (r5.2 12) 48 (Int32.toNatClampNeg (0 : Int32)) (r5.1))) := ⟨_, rfl⟩
    rw [← e8] at hI
    have h := x_let_at h e8
    refine lv_goto (tgt := 18) hx hb dL_leave_9 (by decide) ?_
    refine lv_iconst (v := 0) hx hb dL_leave_18 (by decide) ?_
    rw [x_some h]
    exact xl_iret F hI (Nat.le_of_ble_eq_true rfl) (Nat.le_of_ble_eq_true rfl) dL_leave_19
abbrev rm_L_giveUp : Room := { frames := 8, cells := 1, slots := 6, locals := 132 }
def fL_giveUp (σ : x_S) (a1 : Int32) : Option (Int32 × x_S) := (x_or (eX6_giveUp σ a1) (fun q1 => (if q1.1 = 0 then some ((1 : Int32), q1.2) else (if q1.1 = 2 then some ((2 : Int32), q1.2) else none))) (Option.bind (fX6_giveUp σ a1) fun r5 => x_let (x_sh r5.2 12 (x_hu (r5.2 12) 48 (Int32.toNatClampNeg (0 : Int32)) (r5.1))) fun τ7 => some ((0 : Int32), τ7)))
set_option maxHeartbeats 4000000 in
set_option maxRecDepth 100000 in
theorem mL_giveUp (l : Launch) (hl0 : l.stackTraces = false) (X : x_T) (sz : Nat) (σ : x_S) (a1 : Int32) (r : Int32 × x_S) (h : fL_giveUp σ a1 = some r) : Met l yL_giveUp (xl_ws yL_giveUp cL_giveUp 4 (some .int) [(0, 9, 12, 13), (0, 9, 15, 15)]) rm_L_giveUp (x_PcT X σ sz [.ref (X.2.2 10 32), .int a1, .ref (X.2.2 12 48)]) (x_Qi X r.1 r.2 sz) 1 6 (x_A X sz) := by
  refine va_MetW (cc := cL_giveUp) (maxL := 4) (ret := (some .int)) (hh := [(0, 9, 12, 13), (0, 9, 15, 15)]) (by decide) rfl ?_
  intro p e s m args below meth c s₁ B hml hv
  obtain ⟨F, Z, ht, hI, rfl, rfl⟩ := xl_begin B hml hv
  replace F : x_F p s m _ meth c cL_giveUp 4 RL (some .int) := F
  have hx := F.1
  have hb := F.2.1
  have hml := F.2.2.1
  have hown := F.2.2.2.1
  have hts := F.2.2.2.2.1
  refine x_entry (vs := [.ref (X.2.2 10 32), .int a1, .ref (X.2.2 12 48)]) (n := 4) (Nat.le_of_ble_eq_true rfl) (fun ls hl => ?_)
  replace hl : lv_has ls 4 [(0, .ref (X.2.2 10 32)), (1, .int a1), (2, .ref (X.2.2 12 48))] := hl
  unfold fL_giveUp at h
  refine lv_aload_n hx hb dL_giveUp_0 rfl (lv_at hl 2 rfl) ?_
  refine lv_iconst (v := 0) hx hb dL_giveUp_1 (by decide) ?_
  refine lv_aload_n hx hb dL_giveUp_2 rfl (lv_at hl 0 rfl) ?_
  refine lv_iload_n hx hb dL_giveUp_3 rfl (lv_at hl 1 rfl) ?_
  rcases x_or_el h with ⟨q1, h2, h⟩ | ⟨-, h⟩
  · refine xl_aci hI (xt_runV (rest := [.int (0), .ref (X.2.2 12 48)]) F Z hI (xX6_giveUp l hl0 X _ σ a1 q1 h2) g_L_20 ⟨rfl, hd_X6_giveUp⟩ ⟨by decide, by decide⟩ ⟨rfl, rfl⟩ (x_inO (by decide)) rfl rfl rfl rfl hl.1 rfl (Nat.le_of_ble_eq_true rfl) dL_giveUp_4 ⟨by decide, by decide⟩) (fun H locs ce q9 hI hce hcv hcl => ?_)
    by_cases c4 : q1.1 = 0
    · have h := x_ift h c4
      rw [c4] at hcl
      refine xl_catch1 (b := 9) (hp := 12) (e0 := 0) F Z ht (by decide) rfl (by decide) hce hcv hcl ?_
      refine lv_astore_n (lv' := [(3, .ref q9), (0, .ref (X.2.2 10 32)), (1, .int a1), (2, .ref (X.2.2 12 48))]) hx hb dL_giveUp_12 rfl hl (by decide) rfl (fun ls hl => ?_)
      refine lv_iconst (v := 1) hx hb dL_giveUp_13 (by decide) ?_
      rw [x_some h]
      exact xl_iret F hI (Nat.le_of_ble_eq_true rfl) (Nat.le_of_ble_eq_true rfl) dL_giveUp_14
    · have h := x_iff h c4
      by_cases c3 : q1.1 = 2
      · have h := x_ift h c3
        rw [c3] at hcl
        refine xl_catch2 (b := 9) (hp := 15) (e0 := 0) F Z ht (by decide) rfl (by decide) hce hcv hcl ?_
        refine lv_astore_n (lv' := [(3, .ref q9), (0, .ref (X.2.2 10 32)), (1, .int a1), (2, .ref (X.2.2 12 48))]) hx hb dL_giveUp_15 rfl hl (by decide) rfl (fun ls hl => ?_)
        refine lv_iconst (v := 2) hx hb dL_giveUp_16 (by decide) ?_
        rw [x_some h]
        exact xl_iret F hI (Nat.le_of_ble_eq_true rfl) (Nat.le_of_ble_eq_true rfl) dL_giveUp_17
      · have h := x_iff h c3
        cases h
  · obtain ⟨r5, h6, h⟩ := x_bnd h
    refine x_aci hI (x_runV (rest := [.int (0), .ref (X.2.2 12 48)]) F hI (mX6_giveUp l X _ σ a1 r5 h6) g_L_20 ⟨rfl, hd_X6_giveUp⟩ ⟨by decide, by decide⟩ ⟨rfl, rfl⟩ (x_inO (by decide)) rfl rfl rfl rfl hl.1 rfl (Nat.le_of_ble_eq_true rfl) dL_giveUp_4 ⟨Nat.zero_le _, Nat.zero_le _⟩) (fun H locs hI => ?_)
    refine lv_i2l hx hb dL_giveUp_7 rfl ?_
    refine x_last (x := (r5.1)) F hI rfl (by decide) dL_giveUp_8 (fun H locs hI => ?_)
    obtain ⟨τ7, e8⟩ : ∃ z : x_S, z = (x_sh r5.2 12 (x_hu (r5.2 12) 48 (Int32.toNatClampNeg (0 : Int32)) (r5.1))) := ⟨_, rfl⟩
    rw [← e8] at hI
    have h := x_let_at h e8
    refine lv_goto (tgt := 18) hx hb dL_giveUp_9 (by decide) ?_
    refine lv_iconst (v := 0) hx hb dL_giveUp_18 (by decide) ?_
    rw [x_some h]
    exact xl_iret F hI (Nat.le_of_ble_eq_true rfl) (Nat.le_of_ble_eq_true rfl) dL_giveUp_19
abbrev rm_L_renew : Room := { frames := 8, cells := 1, slots := 6, locals := 131 }
def fL_renew (σ : x_S) (a1 : Int32) : Option (Int32 × x_S) := (x_or (eX6_renew σ a1) (fun q1 => (if q1.1 = 0 then some ((1 : Int32), q1.2) else (if q1.1 = 2 then some ((2 : Int32), q1.2) else none))) (Option.bind (fX6_renew σ a1) fun r5 => x_let (x_sh r5.2 12 (x_hu (r5.2 12) 48 (Int32.toNatClampNeg (0 : Int32)) (r5.1))) fun τ7 => some ((0 : Int32), τ7)))
set_option maxHeartbeats 4000000 in
set_option maxRecDepth 100000 in
theorem mL_renew (l : Launch) (hl0 : l.stackTraces = false) (X : x_T) (sz : Nat) (σ : x_S) (a1 : Int32) (r : Int32 × x_S) (h : fL_renew σ a1 = some r) : Met l yL_renew (xl_ws yL_renew cL_renew 4 (some .int) [(0, 9, 12, 13), (0, 9, 15, 15)]) rm_L_renew (x_PcT X σ sz [.ref (X.2.2 10 32), .int a1, .ref (X.2.2 12 48)]) (x_Qi X r.1 r.2 sz) 1 6 (x_A X sz) := by
  refine va_MetW (cc := cL_renew) (maxL := 4) (ret := (some .int)) (hh := [(0, 9, 12, 13), (0, 9, 15, 15)]) (by decide) rfl ?_
  intro p e s m args below meth c s₁ B hml hv
  obtain ⟨F, Z, ht, hI, rfl, rfl⟩ := xl_begin B hml hv
  replace F : x_F p s m _ meth c cL_renew 4 RL (some .int) := F
  have hx := F.1
  have hb := F.2.1
  have hml := F.2.2.1
  have hown := F.2.2.2.1
  have hts := F.2.2.2.2.1
  refine x_entry (vs := [.ref (X.2.2 10 32), .int a1, .ref (X.2.2 12 48)]) (n := 4) (Nat.le_of_ble_eq_true rfl) (fun ls hl => ?_)
  replace hl : lv_has ls 4 [(0, .ref (X.2.2 10 32)), (1, .int a1), (2, .ref (X.2.2 12 48))] := hl
  unfold fL_renew at h
  refine lv_aload_n hx hb dL_renew_0 rfl (lv_at hl 2 rfl) ?_
  refine lv_iconst (v := 0) hx hb dL_renew_1 (by decide) ?_
  refine lv_aload_n hx hb dL_renew_2 rfl (lv_at hl 0 rfl) ?_
  refine lv_iload_n hx hb dL_renew_3 rfl (lv_at hl 1 rfl) ?_
  rcases x_or_el h with ⟨q1, h2, h⟩ | ⟨-, h⟩
  · refine xl_aci hI (xt_runV (rest := [.int (0), .ref (X.2.2 12 48)]) F Z hI (xX6_renew l hl0 X _ σ a1 q1 h2) g_L_23 ⟨rfl, hd_X6_renew⟩ ⟨by decide, by decide⟩ ⟨rfl, rfl⟩ (x_inO (by decide)) rfl rfl rfl rfl hl.1 rfl (Nat.le_of_ble_eq_true rfl) dL_renew_4 ⟨by decide, by decide⟩) (fun H locs ce q9 hI hce hcv hcl => ?_)
    by_cases c4 : q1.1 = 0
    · have h := x_ift h c4
      rw [c4] at hcl
      refine xl_catch1 (b := 9) (hp := 12) (e0 := 0) F Z ht (by decide) rfl (by decide) hce hcv hcl ?_
      refine lv_astore_n (lv' := [(3, .ref q9), (0, .ref (X.2.2 10 32)), (1, .int a1), (2, .ref (X.2.2 12 48))]) hx hb dL_renew_12 rfl hl (by decide) rfl (fun ls hl => ?_)
      refine lv_iconst (v := 1) hx hb dL_renew_13 (by decide) ?_
      rw [x_some h]
      exact xl_iret F hI (Nat.le_of_ble_eq_true rfl) (Nat.le_of_ble_eq_true rfl) dL_renew_14
    · have h := x_iff h c4
      by_cases c3 : q1.1 = 2
      · have h := x_ift h c3
        rw [c3] at hcl
        refine xl_catch2 (b := 9) (hp := 15) (e0 := 0) F Z ht (by decide) rfl (by decide) hce hcv hcl ?_
        refine lv_astore_n (lv' := [(3, .ref q9), (0, .ref (X.2.2 10 32)), (1, .int a1), (2, .ref (X.2.2 12 48))]) hx hb dL_renew_15 rfl hl (by decide) rfl (fun ls hl => ?_)
        refine lv_iconst (v := 2) hx hb dL_renew_16 (by decide) ?_
        rw [x_some h]
        exact xl_iret F hI (Nat.le_of_ble_eq_true rfl) (Nat.le_of_ble_eq_true rfl) dL_renew_17
      · have h := x_iff h c3
        cases h
  · obtain ⟨r5, h6, h⟩ := x_bnd h
    refine x_aci hI (x_runV (rest := [.int (0), .ref (X.2.2 12 48)]) F hI (mX6_renew l X _ σ a1 r5 h6) g_L_23 ⟨rfl, hd_X6_renew⟩ ⟨by decide, by decide⟩ ⟨rfl, rfl⟩ (x_inO (by decide)) rfl rfl rfl rfl hl.1 rfl (Nat.le_of_ble_eq_true rfl) dL_renew_4 ⟨Nat.zero_le _, Nat.zero_le _⟩) (fun H locs hI => ?_)
    refine lv_i2l hx hb dL_renew_7 rfl ?_
    refine x_last (x := (r5.1)) F hI rfl (by decide) dL_renew_8 (fun H locs hI => ?_)
    obtain ⟨τ7, e8⟩ : ∃ z : x_S, z = (x_sh r5.2 12 (x_hu (r5.2 12) 48 (Int32.toNatClampNeg (0 : Int32)) (r5.1))) := ⟨_, rfl⟩
    rw [← e8] at hI
    have h := x_let_at h e8
    refine lv_goto (tgt := 18) hx hb dL_renew_9 (by decide) ?_
    refine lv_iconst (v := 0) hx hb dL_renew_18 (by decide) ?_
    rw [x_some h]
    exact xl_iret F hI (Nat.le_of_ble_eq_true rfl) (Nat.le_of_ble_eq_true rfl) dL_renew_19
abbrev rm_L_reserve : Room := { frames := 8, cells := 1, slots := 6, locals := 132 }
def fL_reserve (σ : x_S) (a1 : Int32) (a2 : Int32) : Option (Int32 × x_S) := (x_or (eX6_reserve σ a1 a2) (fun q1 => (if q1.1 = 0 then some ((1 : Int32), q1.2) else (if q1.1 = 2 then some ((2 : Int32), q1.2) else none))) (Option.bind (fX6_reserve σ a1 a2) fun r5 => some ((0 : Int32), r5)))
set_option maxHeartbeats 4000000 in
set_option maxRecDepth 100000 in
theorem mL_reserve (l : Launch) (hl0 : l.stackTraces = false) (X : x_T) (sz : Nat) (σ : x_S) (a1 : Int32) (a2 : Int32) (r : Int32 × x_S) (h : fL_reserve σ a1 a2 = some r) : Met l yL_reserve (xl_ws yL_reserve cL_reserve 4 (some .int) [(0, 6, 9, 13), (0, 6, 12, 15)]) rm_L_reserve (x_PcT X σ sz [.ref (X.2.2 10 32), .int a1, .int a2]) (x_Qi X r.1 r.2 sz) 1 6 (x_A X sz) := by
  refine va_MetW (cc := cL_reserve) (maxL := 4) (ret := (some .int)) (hh := [(0, 6, 9, 13), (0, 6, 12, 15)]) (by decide) rfl ?_
  intro p e s m args below meth c s₁ B hml hv
  obtain ⟨F, Z, ht, hI, rfl, rfl⟩ := xl_begin B hml hv
  replace F : x_F p s m _ meth c cL_reserve 4 RL (some .int) := F
  have hx := F.1
  have hb := F.2.1
  have hml := F.2.2.1
  have hown := F.2.2.2.1
  have hts := F.2.2.2.2.1
  refine x_entry (vs := [.ref (X.2.2 10 32), .int a1, .int a2]) (n := 4) (Nat.le_of_ble_eq_true rfl) (fun ls hl => ?_)
  replace hl : lv_has ls 4 [(0, .ref (X.2.2 10 32)), (1, .int a1), (2, .int a2)] := hl
  unfold fL_reserve at h
  refine lv_aload_n hx hb dL_reserve_0 rfl (lv_at hl 0 rfl) ?_
  refine lv_iload_n hx hb dL_reserve_1 rfl (lv_at hl 1 rfl) ?_
  refine lv_iload_n hx hb dL_reserve_2 rfl (lv_at hl 2 rfl) ?_
  rcases x_or_el h with ⟨q1, h2, h⟩ | ⟨-, h⟩
  · refine xl_acv hI (xt_runV (rest := []) F Z hI (xX6_reserve l hl0 X _ σ a1 a2 q1 h2) g_L_26 ⟨rfl, hd_X6_reserve⟩ ⟨by decide, by decide⟩ ⟨rfl, rfl⟩ (x_inO (by decide)) rfl rfl rfl rfl hl.1 rfl (Nat.le_of_ble_eq_true rfl) dL_reserve_3 ⟨by decide, by decide⟩) (fun H locs ce q9 hI hce hcv hcl => ?_)
    by_cases c4 : q1.1 = 0
    · have h := x_ift h c4
      rw [c4] at hcl
      refine xl_catch1 (b := 6) (hp := 9) (e0 := 0) F Z ht (by decide) rfl (by decide) hce hcv hcl ?_
      refine lv_astore_n (lv' := [(3, .ref q9), (0, .ref (X.2.2 10 32)), (1, .int a1), (2, .int a2)]) hx hb dL_reserve_9 rfl hl (by decide) rfl (fun ls hl => ?_)
      refine lv_iconst (v := 1) hx hb dL_reserve_10 (by decide) ?_
      rw [x_some h]
      exact xl_iret F hI (Nat.le_of_ble_eq_true rfl) (Nat.le_of_ble_eq_true rfl) dL_reserve_11
    · have h := x_iff h c4
      by_cases c3 : q1.1 = 2
      · have h := x_ift h c3
        rw [c3] at hcl
        refine xl_catch2 (b := 6) (hp := 12) (e0 := 0) F Z ht (by decide) rfl (by decide) hce hcv hcl ?_
        refine lv_astore_n (lv' := [(3, .ref q9), (0, .ref (X.2.2 10 32)), (1, .int a1), (2, .int a2)]) hx hb dL_reserve_12 rfl hl (by decide) rfl (fun ls hl => ?_)
        refine lv_iconst (v := 2) hx hb dL_reserve_13 (by decide) ?_
        rw [x_some h]
        exact xl_iret F hI (Nat.le_of_ble_eq_true rfl) (Nat.le_of_ble_eq_true rfl) dL_reserve_14
      · have h := x_iff h c3
        cases h
  · obtain ⟨r5, h6, h⟩ := x_bnd h
    refine x_acv hI (x_runV (rest := []) F hI (mX6_reserve l X _ σ a1 a2 r5 h6) g_L_26 ⟨rfl, hd_X6_reserve⟩ ⟨by decide, by decide⟩ ⟨rfl, rfl⟩ (x_inO (by decide)) rfl rfl rfl rfl hl.1 rfl (Nat.le_of_ble_eq_true rfl) dL_reserve_3 ⟨Nat.zero_le _, Nat.zero_le _⟩) (fun H locs hI => ?_)
    refine lv_goto (tgt := 15) hx hb dL_reserve_6 (by decide) ?_
    refine lv_iconst (v := 0) hx hb dL_reserve_15 (by decide) ?_
    rw [x_some h]
    exact xl_iret F hI (Nat.le_of_ble_eq_true rfl) (Nat.le_of_ble_eq_true rfl) dL_reserve_16
abbrev rm_L_unreserve : Room := { frames := 8, cells := 1, slots := 6, locals := 131 }
def fL_unreserve (σ : x_S) (a1 : Int32) : Option (Int32 × x_S) := (x_or (eX6_unreserve σ a1) (fun q1 => (if q1.1 = 0 then some ((1 : Int32), q1.2) else (if q1.1 = 2 then some ((2 : Int32), q1.2) else none))) (Option.bind (fX6_unreserve σ a1) fun r5 => x_let (x_sh r5.2 12 (x_hu (r5.2 12) 48 (Int32.toNatClampNeg (0 : Int32)) (r5.1))) fun τ7 => some ((0 : Int32), τ7)))
set_option maxHeartbeats 4000000 in
set_option maxRecDepth 100000 in
theorem mL_unreserve (l : Launch) (hl0 : l.stackTraces = false) (X : x_T) (sz : Nat) (σ : x_S) (a1 : Int32) (r : Int32 × x_S) (h : fL_unreserve σ a1 = some r) : Met l yL_unreserve (xl_ws yL_unreserve cL_unreserve 4 (some .int) [(0, 9, 12, 13), (0, 9, 15, 15)]) rm_L_unreserve (x_PcT X σ sz [.ref (X.2.2 10 32), .int a1, .ref (X.2.2 12 48)]) (x_Qi X r.1 r.2 sz) 1 6 (x_A X sz) := by
  refine va_MetW (cc := cL_unreserve) (maxL := 4) (ret := (some .int)) (hh := [(0, 9, 12, 13), (0, 9, 15, 15)]) (by decide) rfl ?_
  intro p e s m args below meth c s₁ B hml hv
  obtain ⟨F, Z, ht, hI, rfl, rfl⟩ := xl_begin B hml hv
  replace F : x_F p s m _ meth c cL_unreserve 4 RL (some .int) := F
  have hx := F.1
  have hb := F.2.1
  have hml := F.2.2.1
  have hown := F.2.2.2.1
  have hts := F.2.2.2.2.1
  refine x_entry (vs := [.ref (X.2.2 10 32), .int a1, .ref (X.2.2 12 48)]) (n := 4) (Nat.le_of_ble_eq_true rfl) (fun ls hl => ?_)
  replace hl : lv_has ls 4 [(0, .ref (X.2.2 10 32)), (1, .int a1), (2, .ref (X.2.2 12 48))] := hl
  unfold fL_unreserve at h
  refine lv_aload_n hx hb dL_unreserve_0 rfl (lv_at hl 2 rfl) ?_
  refine lv_iconst (v := 0) hx hb dL_unreserve_1 (by decide) ?_
  refine lv_aload_n hx hb dL_unreserve_2 rfl (lv_at hl 0 rfl) ?_
  refine lv_iload_n hx hb dL_unreserve_3 rfl (lv_at hl 1 rfl) ?_
  rcases x_or_el h with ⟨q1, h2, h⟩ | ⟨-, h⟩
  · refine xl_aci hI (xt_runV (rest := [.int (0), .ref (X.2.2 12 48)]) F Z hI (xX6_unreserve l hl0 X _ σ a1 q1 h2) g_L_30 ⟨rfl, hd_X6_unreserve⟩ ⟨by decide, by decide⟩ ⟨rfl, rfl⟩ (x_inO (by decide)) rfl rfl rfl rfl hl.1 rfl (Nat.le_of_ble_eq_true rfl) dL_unreserve_4 ⟨by decide, by decide⟩) (fun H locs ce q9 hI hce hcv hcl => ?_)
    by_cases c4 : q1.1 = 0
    · have h := x_ift h c4
      rw [c4] at hcl
      refine xl_catch1 (b := 9) (hp := 12) (e0 := 0) F Z ht (by decide) rfl (by decide) hce hcv hcl ?_
      refine lv_astore_n (lv' := [(3, .ref q9), (0, .ref (X.2.2 10 32)), (1, .int a1), (2, .ref (X.2.2 12 48))]) hx hb dL_unreserve_12 rfl hl (by decide) rfl (fun ls hl => ?_)
      refine lv_iconst (v := 1) hx hb dL_unreserve_13 (by decide) ?_
      rw [x_some h]
      exact xl_iret F hI (Nat.le_of_ble_eq_true rfl) (Nat.le_of_ble_eq_true rfl) dL_unreserve_14
    · have h := x_iff h c4
      by_cases c3 : q1.1 = 2
      · have h := x_ift h c3
        rw [c3] at hcl
        refine xl_catch2 (b := 9) (hp := 15) (e0 := 0) F Z ht (by decide) rfl (by decide) hce hcv hcl ?_
        refine lv_astore_n (lv' := [(3, .ref q9), (0, .ref (X.2.2 10 32)), (1, .int a1), (2, .ref (X.2.2 12 48))]) hx hb dL_unreserve_15 rfl hl (by decide) rfl (fun ls hl => ?_)
        refine lv_iconst (v := 2) hx hb dL_unreserve_16 (by decide) ?_
        rw [x_some h]
        exact xl_iret F hI (Nat.le_of_ble_eq_true rfl) (Nat.le_of_ble_eq_true rfl) dL_unreserve_17
      · have h := x_iff h c3
        cases h
  · obtain ⟨r5, h6, h⟩ := x_bnd h
    refine x_aci hI (x_runV (rest := [.int (0), .ref (X.2.2 12 48)]) F hI (mX6_unreserve l X _ σ a1 r5 h6) g_L_30 ⟨rfl, hd_X6_unreserve⟩ ⟨by decide, by decide⟩ ⟨rfl, rfl⟩ (x_inO (by decide)) rfl rfl rfl rfl hl.1 rfl (Nat.le_of_ble_eq_true rfl) dL_unreserve_4 ⟨Nat.zero_le _, Nat.zero_le _⟩) (fun H locs hI => ?_)
    refine lv_i2l hx hb dL_unreserve_7 rfl ?_
    refine x_last (x := (r5.1)) F hI rfl (by decide) dL_unreserve_8 (fun H locs hI => ?_)
    obtain ⟨τ7, e8⟩ : ∃ z : x_S, z = (x_sh r5.2 12 (x_hu (r5.2 12) 48 (Int32.toNatClampNeg (0 : Int32)) (r5.1))) := ⟨_, rfl⟩
    rw [← e8] at hI
    have h := x_let_at h e8
    refine lv_goto (tgt := 18) hx hb dL_unreserve_9 (by decide) ?_
    refine lv_iconst (v := 0) hx hb dL_unreserve_18 (by decide) ?_
    rw [x_some h]
    exact xl_iret F hI (Nat.le_of_ble_eq_true rfl) (Nat.le_of_ble_eq_true rfl) dL_unreserve_19
abbrev rm_L_turnGhost : Room := { frames := 8, cells := 1, slots := 6, locals := 131 }
def fL_turnGhost (σ : x_S) (a1 : Int32) : Option (Int32 × x_S) := (x_or (eX6_turnGhost σ a1) (fun q1 => (if q1.1 = 0 then some ((1 : Int32), q1.2) else none)) (Option.bind (fX6_turnGhost σ a1) fun r4 => (if r4.1 = 0 then x_let (x_sh r4.2 12 (x_hu (r4.2 12) 48 (Int32.toNatClampNeg (0 : Int32)) (0 : Int32))) fun τ7 => some ((0 : Int32), τ7) else x_let (x_sh r4.2 12 (x_hu (r4.2 12) 48 (Int32.toNatClampNeg (0 : Int32)) (1 : Int32))) fun τ9 => some ((0 : Int32), τ9))))
set_option maxHeartbeats 4000000 in
set_option maxRecDepth 100000 in
theorem mL_turnGhost (l : Launch) (hl0 : l.stackTraces = false) (X : x_T) (sz : Nat) (σ : x_S) (a1 : Int32) (r : Int32 × x_S) (h : fL_turnGhost σ a1 = some r) : Met l yL_turnGhost (xl_ws yL_turnGhost cL_turnGhost 4 (some .int) [(0, 16, 19, 13)]) rm_L_turnGhost (x_PcT X σ sz [.ref (X.2.2 10 32), .int a1, .ref (X.2.2 12 48)]) (x_Qi X r.1 r.2 sz) 1 6 (x_A X sz) := by
  refine va_MetW (cc := cL_turnGhost) (maxL := 4) (ret := (some .int)) (hh := [(0, 16, 19, 13)]) (by decide) rfl ?_
  intro p e s m args below meth c s₁ B hml hv
  obtain ⟨F, Z, ht, hI, rfl, rfl⟩ := xl_begin B hml hv
  replace F : x_F p s m _ meth c cL_turnGhost 4 RL (some .int) := F
  have hx := F.1
  have hb := F.2.1
  have hml := F.2.2.1
  have hown := F.2.2.2.1
  have hts := F.2.2.2.2.1
  refine x_entry (vs := [.ref (X.2.2 10 32), .int a1, .ref (X.2.2 12 48)]) (n := 4) (Nat.le_of_ble_eq_true rfl) (fun ls hl => ?_)
  replace hl : lv_has ls 4 [(0, .ref (X.2.2 10 32)), (1, .int a1), (2, .ref (X.2.2 12 48))] := hl
  unfold fL_turnGhost at h
  refine lv_aload_n hx hb dL_turnGhost_0 rfl (lv_at hl 2 rfl) ?_
  refine lv_iconst (v := 0) hx hb dL_turnGhost_1 (by decide) ?_
  refine lv_aload_n hx hb dL_turnGhost_2 rfl (lv_at hl 0 rfl) ?_
  refine lv_iload_n hx hb dL_turnGhost_3 rfl (lv_at hl 1 rfl) ?_
  rcases x_or_el h with ⟨q1, h2, h⟩ | ⟨-, h⟩
  · refine xl_aci hI (xt_runV (rest := [.int (0), .ref (X.2.2 12 48)]) F Z hI (xX6_turnGhost l hl0 X _ σ a1 q1 h2) g_L_33 ⟨rfl, hd_X6_turnGhost⟩ ⟨by decide, by decide⟩ ⟨rfl, rfl⟩ (x_inO (by decide)) rfl rfl rfl rfl hl.1 rfl (Nat.le_of_ble_eq_true rfl) dL_turnGhost_4 ⟨by decide, by decide⟩) (fun H locs ce q9 hI hce hcv hcl => ?_)
    by_cases c3 : q1.1 = 0
    · have h := x_ift h c3
      rw [c3] at hcl
      refine xl_catch1 (b := 16) (hp := 19) (e0 := 0) F Z ht (by decide) rfl (by decide) hce hcv hcl ?_
      refine lv_astore_n (lv' := [(3, .ref q9), (0, .ref (X.2.2 10 32)), (1, .int a1), (2, .ref (X.2.2 12 48))]) hx hb dL_turnGhost_19 rfl hl (by decide) rfl (fun ls hl => ?_)
      refine lv_iconst (v := 1) hx hb dL_turnGhost_20 (by decide) ?_
      rw [x_some h]
      exact xl_iret F hI (Nat.le_of_ble_eq_true rfl) (Nat.le_of_ble_eq_true rfl) dL_turnGhost_21
    · have h := x_iff h c3
      cases h
  · obtain ⟨r4, h5, h⟩ := x_bnd h
    refine x_aci hI (x_runV (rest := [.int (0), .ref (X.2.2 12 48)]) F hI (mX6_turnGhost l X _ σ a1 r4 h5) g_L_33 ⟨rfl, hd_X6_turnGhost⟩ ⟨by decide, by decide⟩ ⟨rfl, rfl⟩ (x_inO (by decide)) rfl rfl rfl rfl hl.1 rfl (Nat.le_of_ble_eq_true rfl) dL_turnGhost_4 ⟨Nat.zero_le _, Nat.zero_le _⟩) (fun H locs hI => ?_)
    refine lv_if_eq (tgt := 14) hx hb dL_turnGhost_7 (by decide) (fun c6 => ?_) (fun c6 => ?_)
    · have h := x_ift h c6
      refine lv_lconst (v := 0) hx hb dL_turnGhost_14 (by decide) ?_
      refine x_last (x := (0 : Int32)) F hI (by decide) (by decide) dL_turnGhost_15 (fun H locs hI => ?_)
      obtain ⟨τ7, e8⟩ : ∃ z : x_S, z = (x_sh r4.2 12 (x_hu (r4.2 12) 48 (Int32.toNatClampNeg (0 : Int32)) (0 : Int32))) := ⟨_, rfl⟩
      rw [← e8] at hI
      have h := x_let_at h e8
      refine lv_goto (tgt := 22) hx hb dL_turnGhost_16 (by decide) ?_
      refine lv_iconst (v := 0) hx hb dL_turnGhost_22 (by decide) ?_
      rw [x_some h]
      exact xl_iret F hI (Nat.le_of_ble_eq_true rfl) (Nat.le_of_ble_eq_true rfl) dL_turnGhost_23
    · have h := x_iff h c6
      refine lv_lconst (v := 1) hx hb dL_turnGhost_10 (by decide) ?_
      refine lv_goto (tgt := 15) hx hb dL_turnGhost_11 (by decide) ?_
      refine x_last (x := (1 : Int32)) F hI (by decide) (by decide) dL_turnGhost_15 (fun H locs hI => ?_)
      obtain ⟨τ9, e10⟩ : ∃ z : x_S, z = (x_sh r4.2 12 (x_hu (r4.2 12) 48 (Int32.toNatClampNeg (0 : Int32)) (1 : Int32))) := ⟨_, rfl⟩
      rw [← e10] at hI
      have h := x_let_at h e10
      refine lv_goto (tgt := 22) hx hb dL_turnGhost_16 (by decide) ?_
      refine lv_iconst (v := 0) hx hb dL_turnGhost_22 (by decide) ?_
      rw [x_some h]
      exact xl_iret F hI (Nat.le_of_ble_eq_true rfl) (Nat.le_of_ble_eq_true rfl) dL_turnGhost_23
abbrev rm_L_changeLease : Room := { frames := 8, cells := 1, slots := 6, locals := 132 }
def fL_changeLease (σ : x_S) (a1 : Int32) : Option (Int32 × x_S) := (x_or (eX6_changeLease σ a1) (fun q1 => (if q1.1 = 1 then some ((1 : Int32), q1.2) else none)) (Option.bind (fX6_changeLease σ a1) fun r4 => x_let (x_sh r4.2 12 (x_hu (r4.2 12) 48 (Int32.toNatClampNeg (0 : Int32)) (r4.1))) fun τ6 => some ((0 : Int32), τ6)))
set_option maxHeartbeats 4000000 in
set_option maxRecDepth 100000 in
theorem mL_changeLease (l : Launch) (hl0 : l.stackTraces = false) (X : x_T) (sz : Nat) (σ : x_S) (a1 : Int32) (r : Int32 × x_S) (h : fL_changeLease σ a1 = some r) : Met l yL_changeLease (xl_ws yL_changeLease cL_changeLease 4 (some .int) [(0, 9, 12, 40)]) rm_L_changeLease (x_PcT X σ sz [.ref (X.2.2 10 32), .int a1, .ref (X.2.2 12 48)]) (x_Qi X r.1 r.2 sz) 1 6 (x_A X sz) := by
  refine va_MetW (cc := cL_changeLease) (maxL := 4) (ret := (some .int)) (hh := [(0, 9, 12, 40)]) (by decide) rfl ?_
  intro p e s m args below meth c s₁ B hml hv
  obtain ⟨F, Z, ht, hI, rfl, rfl⟩ := xl_begin B hml hv
  replace F : x_F p s m _ meth c cL_changeLease 4 RL (some .int) := F
  have hx := F.1
  have hb := F.2.1
  have hml := F.2.2.1
  have hown := F.2.2.2.1
  have hts := F.2.2.2.2.1
  refine x_entry (vs := [.ref (X.2.2 10 32), .int a1, .ref (X.2.2 12 48)]) (n := 4) (Nat.le_of_ble_eq_true rfl) (fun ls hl => ?_)
  replace hl : lv_has ls 4 [(0, .ref (X.2.2 10 32)), (1, .int a1), (2, .ref (X.2.2 12 48))] := hl
  unfold fL_changeLease at h
  refine lv_aload_n hx hb dL_changeLease_0 rfl (lv_at hl 2 rfl) ?_
  refine lv_iconst (v := 0) hx hb dL_changeLease_1 (by decide) ?_
  refine lv_aload_n hx hb dL_changeLease_2 rfl (lv_at hl 0 rfl) ?_
  refine lv_iload_n hx hb dL_changeLease_3 rfl (lv_at hl 1 rfl) ?_
  rcases x_or_el h with ⟨q1, h2, h⟩ | ⟨-, h⟩
  · refine xl_aci hI (xt_runV (rest := [.int (0), .ref (X.2.2 12 48)]) F Z hI (xX6_changeLease l hl0 X _ σ a1 q1 h2) g_L_37 ⟨rfl, hd_X6_changeLease⟩ ⟨by decide, by decide⟩ ⟨rfl, rfl⟩ (x_inO (by decide)) rfl rfl rfl rfl hl.1 rfl (Nat.le_of_ble_eq_true rfl) dL_changeLease_4 ⟨by decide, by decide⟩) (fun H locs ce q9 hI hce hcv hcl => ?_)
    by_cases c3 : q1.1 = 1
    · have h := x_ift h c3
      rw [c3] at hcl
      refine xl_catch1 (b := 9) (hp := 12) (e0 := 1) F Z ht (by decide) rfl (by decide) hce hcv hcl ?_
      refine lv_astore_n (lv' := [(3, .ref q9), (0, .ref (X.2.2 10 32)), (1, .int a1), (2, .ref (X.2.2 12 48))]) hx hb dL_changeLease_12 rfl hl (by decide) rfl (fun ls hl => ?_)
      refine lv_iconst (v := 1) hx hb dL_changeLease_13 (by decide) ?_
      rw [x_some h]
      exact xl_iret F hI (Nat.le_of_ble_eq_true rfl) (Nat.le_of_ble_eq_true rfl) dL_changeLease_14
    · have h := x_iff h c3
      cases h
  · obtain ⟨r4, h5, h⟩ := x_bnd h
    refine x_aci hI (x_runV (rest := [.int (0), .ref (X.2.2 12 48)]) F hI (mX6_changeLease l X _ σ a1 r4 h5) g_L_37 ⟨rfl, hd_X6_changeLease⟩ ⟨by decide, by decide⟩ ⟨rfl, rfl⟩ (x_inO (by decide)) rfl rfl rfl rfl hl.1 rfl (Nat.le_of_ble_eq_true rfl) dL_changeLease_4 ⟨Nat.zero_le _, Nat.zero_le _⟩) (fun H locs hI => ?_)
    refine lv_i2l hx hb dL_changeLease_7 rfl ?_
    refine x_last (x := (r4.1)) F hI rfl (by decide) dL_changeLease_8 (fun H locs hI => ?_)
    obtain ⟨τ6, e7⟩ : ∃ z : x_S, z = (x_sh r4.2 12 (x_hu (r4.2 12) 48 (Int32.toNatClampNeg (0 : Int32)) (r4.1))) := ⟨_, rfl⟩
    rw [← e7] at hI
    have h := x_let_at h e7
    refine lv_goto (tgt := 15) hx hb dL_changeLease_9 (by decide) ?_
    refine lv_iconst (v := 0) hx hb dL_changeLease_15 (by decide) ?_
    rw [x_some h]
    exact xl_iret F hI (Nat.le_of_ble_eq_true rfl) (Nat.le_of_ble_eq_true rfl) dL_changeLease_16
abbrev rm_L_changeHold : Room := { frames := 8, cells := 1, slots := 6, locals := 132 }
def fL_changeHold (σ : x_S) (a1 : Int32) : Option (Int32 × x_S) := (x_or (eX6_changeHold σ a1) (fun q1 => (if q1.1 = 1 then some ((1 : Int32), q1.2) else none)) (Option.bind (fX6_changeHold σ a1) fun r4 => x_let (x_sh r4.2 12 (x_hu (r4.2 12) 48 (Int32.toNatClampNeg (0 : Int32)) (r4.1))) fun τ6 => some ((0 : Int32), τ6)))
set_option maxHeartbeats 4000000 in
set_option maxRecDepth 100000 in
theorem mL_changeHold (l : Launch) (hl0 : l.stackTraces = false) (X : x_T) (sz : Nat) (σ : x_S) (a1 : Int32) (r : Int32 × x_S) (h : fL_changeHold σ a1 = some r) : Met l yL_changeHold (xl_ws yL_changeHold cL_changeHold 4 (some .int) [(0, 9, 12, 40)]) rm_L_changeHold (x_PcT X σ sz [.ref (X.2.2 10 32), .int a1, .ref (X.2.2 12 48)]) (x_Qi X r.1 r.2 sz) 1 6 (x_A X sz) := by
  refine va_MetW (cc := cL_changeHold) (maxL := 4) (ret := (some .int)) (hh := [(0, 9, 12, 40)]) (by decide) rfl ?_
  intro p e s m args below meth c s₁ B hml hv
  obtain ⟨F, Z, ht, hI, rfl, rfl⟩ := xl_begin B hml hv
  replace F : x_F p s m _ meth c cL_changeHold 4 RL (some .int) := F
  have hx := F.1
  have hb := F.2.1
  have hml := F.2.2.1
  have hown := F.2.2.2.1
  have hts := F.2.2.2.2.1
  refine x_entry (vs := [.ref (X.2.2 10 32), .int a1, .ref (X.2.2 12 48)]) (n := 4) (Nat.le_of_ble_eq_true rfl) (fun ls hl => ?_)
  replace hl : lv_has ls 4 [(0, .ref (X.2.2 10 32)), (1, .int a1), (2, .ref (X.2.2 12 48))] := hl
  unfold fL_changeHold at h
  refine lv_aload_n hx hb dL_changeHold_0 rfl (lv_at hl 2 rfl) ?_
  refine lv_iconst (v := 0) hx hb dL_changeHold_1 (by decide) ?_
  refine lv_aload_n hx hb dL_changeHold_2 rfl (lv_at hl 0 rfl) ?_
  refine lv_iload_n hx hb dL_changeHold_3 rfl (lv_at hl 1 rfl) ?_
  rcases x_or_el h with ⟨q1, h2, h⟩ | ⟨-, h⟩
  · refine xl_aci hI (xt_runV (rest := [.int (0), .ref (X.2.2 12 48)]) F Z hI (xX6_changeHold l hl0 X _ σ a1 q1 h2) g_L_42 ⟨rfl, hd_X6_changeHold⟩ ⟨by decide, by decide⟩ ⟨rfl, rfl⟩ (x_inO (by decide)) rfl rfl rfl rfl hl.1 rfl (Nat.le_of_ble_eq_true rfl) dL_changeHold_4 ⟨by decide, by decide⟩) (fun H locs ce q9 hI hce hcv hcl => ?_)
    by_cases c3 : q1.1 = 1
    · have h := x_ift h c3
      rw [c3] at hcl
      refine xl_catch1 (b := 9) (hp := 12) (e0 := 1) F Z ht (by decide) rfl (by decide) hce hcv hcl ?_
      refine lv_astore_n (lv' := [(3, .ref q9), (0, .ref (X.2.2 10 32)), (1, .int a1), (2, .ref (X.2.2 12 48))]) hx hb dL_changeHold_12 rfl hl (by decide) rfl (fun ls hl => ?_)
      refine lv_iconst (v := 1) hx hb dL_changeHold_13 (by decide) ?_
      rw [x_some h]
      exact xl_iret F hI (Nat.le_of_ble_eq_true rfl) (Nat.le_of_ble_eq_true rfl) dL_changeHold_14
    · have h := x_iff h c3
      cases h
  · obtain ⟨r4, h5, h⟩ := x_bnd h
    refine x_aci hI (x_runV (rest := [.int (0), .ref (X.2.2 12 48)]) F hI (mX6_changeHold l X _ σ a1 r4 h5) g_L_42 ⟨rfl, hd_X6_changeHold⟩ ⟨by decide, by decide⟩ ⟨rfl, rfl⟩ (x_inO (by decide)) rfl rfl rfl rfl hl.1 rfl (Nat.le_of_ble_eq_true rfl) dL_changeHold_4 ⟨Nat.zero_le _, Nat.zero_le _⟩) (fun H locs hI => ?_)
    refine lv_i2l hx hb dL_changeHold_7 rfl ?_
    refine x_last (x := (r4.1)) F hI rfl (by decide) dL_changeHold_8 (fun H locs hI => ?_)
    obtain ⟨τ6, e7⟩ : ∃ z : x_S, z = (x_sh r4.2 12 (x_hu (r4.2 12) 48 (Int32.toNatClampNeg (0 : Int32)) (r4.1))) := ⟨_, rfl⟩
    rw [← e7] at hI
    have h := x_let_at h e7
    refine lv_goto (tgt := 15) hx hb dL_changeHold_9 (by decide) ?_
    refine lv_iconst (v := 0) hx hb dL_changeHold_15 (by decide) ?_
    rw [x_some h]
    exact xl_iret F hI (Nat.le_of_ble_eq_true rfl) (Nat.le_of_ble_eq_true rfl) dL_changeHold_16
abbrev rm_L_changeShut : Room := { frames := 8, cells := 1, slots := 6, locals := 132 }
def fL_changeShut (σ : x_S) (a1 : Int32) : Option (Int32 × x_S) := (x_or (eX6_changeShut σ a1) (fun q1 => (if q1.1 = 1 then some ((1 : Int32), q1.2) else none)) (Option.bind (fX6_changeShut σ a1) fun r4 => x_let (x_sh r4.2 12 (x_hu (r4.2 12) 48 (Int32.toNatClampNeg (0 : Int32)) (r4.1))) fun τ6 => some ((0 : Int32), τ6)))
set_option maxHeartbeats 4000000 in
set_option maxRecDepth 100000 in
theorem mL_changeShut (l : Launch) (hl0 : l.stackTraces = false) (X : x_T) (sz : Nat) (σ : x_S) (a1 : Int32) (r : Int32 × x_S) (h : fL_changeShut σ a1 = some r) : Met l yL_changeShut (xl_ws yL_changeShut cL_changeShut 4 (some .int) [(0, 9, 12, 40)]) rm_L_changeShut (x_PcT X σ sz [.ref (X.2.2 10 32), .int a1, .ref (X.2.2 12 48)]) (x_Qi X r.1 r.2 sz) 1 6 (x_A X sz) := by
  refine va_MetW (cc := cL_changeShut) (maxL := 4) (ret := (some .int)) (hh := [(0, 9, 12, 40)]) (by decide) rfl ?_
  intro p e s m args below meth c s₁ B hml hv
  obtain ⟨F, Z, ht, hI, rfl, rfl⟩ := xl_begin B hml hv
  replace F : x_F p s m _ meth c cL_changeShut 4 RL (some .int) := F
  have hx := F.1
  have hb := F.2.1
  have hml := F.2.2.1
  have hown := F.2.2.2.1
  have hts := F.2.2.2.2.1
  refine x_entry (vs := [.ref (X.2.2 10 32), .int a1, .ref (X.2.2 12 48)]) (n := 4) (Nat.le_of_ble_eq_true rfl) (fun ls hl => ?_)
  replace hl : lv_has ls 4 [(0, .ref (X.2.2 10 32)), (1, .int a1), (2, .ref (X.2.2 12 48))] := hl
  unfold fL_changeShut at h
  refine lv_aload_n hx hb dL_changeShut_0 rfl (lv_at hl 2 rfl) ?_
  refine lv_iconst (v := 0) hx hb dL_changeShut_1 (by decide) ?_
  refine lv_aload_n hx hb dL_changeShut_2 rfl (lv_at hl 0 rfl) ?_
  refine lv_iload_n hx hb dL_changeShut_3 rfl (lv_at hl 1 rfl) ?_
  rcases x_or_el h with ⟨q1, h2, h⟩ | ⟨-, h⟩
  · refine xl_aci hI (xt_runV (rest := [.int (0), .ref (X.2.2 12 48)]) F Z hI (xX6_changeShut l hl0 X _ σ a1 q1 h2) g_L_45 ⟨rfl, hd_X6_changeShut⟩ ⟨by decide, by decide⟩ ⟨rfl, rfl⟩ (x_inO (by decide)) rfl rfl rfl rfl hl.1 rfl (Nat.le_of_ble_eq_true rfl) dL_changeShut_4 ⟨by decide, by decide⟩) (fun H locs ce q9 hI hce hcv hcl => ?_)
    by_cases c3 : q1.1 = 1
    · have h := x_ift h c3
      rw [c3] at hcl
      refine xl_catch1 (b := 9) (hp := 12) (e0 := 1) F Z ht (by decide) rfl (by decide) hce hcv hcl ?_
      refine lv_astore_n (lv' := [(3, .ref q9), (0, .ref (X.2.2 10 32)), (1, .int a1), (2, .ref (X.2.2 12 48))]) hx hb dL_changeShut_12 rfl hl (by decide) rfl (fun ls hl => ?_)
      refine lv_iconst (v := 1) hx hb dL_changeShut_13 (by decide) ?_
      rw [x_some h]
      exact xl_iret F hI (Nat.le_of_ble_eq_true rfl) (Nat.le_of_ble_eq_true rfl) dL_changeShut_14
    · have h := x_iff h c3
      cases h
  · obtain ⟨r4, h5, h⟩ := x_bnd h
    refine x_aci hI (x_runV (rest := [.int (0), .ref (X.2.2 12 48)]) F hI (mX6_changeShut l X _ σ a1 r4 h5) g_L_45 ⟨rfl, hd_X6_changeShut⟩ ⟨by decide, by decide⟩ ⟨rfl, rfl⟩ (x_inO (by decide)) rfl rfl rfl rfl hl.1 rfl (Nat.le_of_ble_eq_true rfl) dL_changeShut_4 ⟨Nat.zero_le _, Nat.zero_le _⟩) (fun H locs hI => ?_)
    refine lv_i2l hx hb dL_changeShut_7 rfl ?_
    refine x_last (x := (r4.1)) F hI rfl (by decide) dL_changeShut_8 (fun H locs hI => ?_)
    obtain ⟨τ6, e7⟩ : ∃ z : x_S, z = (x_sh r4.2 12 (x_hu (r4.2 12) 48 (Int32.toNatClampNeg (0 : Int32)) (r4.1))) := ⟨_, rfl⟩
    rw [← e7] at hI
    have h := x_let_at h e7
    refine lv_goto (tgt := 15) hx hb dL_changeShut_9 (by decide) ?_
    refine lv_iconst (v := 0) hx hb dL_changeShut_15 (by decide) ?_
    rw [x_some h]
    exact xl_iret F hI (Nat.le_of_ble_eq_true rfl) (Nat.le_of_ble_eq_true rfl) dL_changeShut_16
abbrev rm_L_deliver : Room := { frames := 8, cells := 1, slots := 6, locals := 131 }
def fL_deliver (σ : x_S) (a1 : Int32) : Option (Int32 × x_S) := (x_or (eX6_deliver σ a1) (fun q1 => (if q1.1 = 0 then some ((1 : Int32), q1.2) else none)) (Option.bind (fX6_deliver σ a1) fun r4 => x_let (x_sh r4.2 12 (x_hu (r4.2 12) 48 (Int32.toNatClampNeg (0 : Int32)) (r4.1))) fun τ6 => some ((0 : Int32), τ6)))
set_option maxHeartbeats 4000000 in
set_option maxRecDepth 100000 in
theorem mL_deliver (l : Launch) (hl0 : l.stackTraces = false) (X : x_T) (sz : Nat) (σ : x_S) (a1 : Int32) (r : Int32 × x_S) (h : fL_deliver σ a1 = some r) : Met l yL_deliver (xl_ws yL_deliver cL_deliver 4 (some .int) [(0, 9, 12, 13)]) rm_L_deliver (x_PcT X σ sz [.ref (X.2.2 10 32), .int a1, .ref (X.2.2 12 48)]) (x_Qi X r.1 r.2 sz) 1 6 (x_A X sz) := by
  refine va_MetW (cc := cL_deliver) (maxL := 4) (ret := (some .int)) (hh := [(0, 9, 12, 13)]) (by decide) rfl ?_
  intro p e s m args below meth c s₁ B hml hv
  obtain ⟨F, Z, ht, hI, rfl, rfl⟩ := xl_begin B hml hv
  replace F : x_F p s m _ meth c cL_deliver 4 RL (some .int) := F
  have hx := F.1
  have hb := F.2.1
  have hml := F.2.2.1
  have hown := F.2.2.2.1
  have hts := F.2.2.2.2.1
  refine x_entry (vs := [.ref (X.2.2 10 32), .int a1, .ref (X.2.2 12 48)]) (n := 4) (Nat.le_of_ble_eq_true rfl) (fun ls hl => ?_)
  replace hl : lv_has ls 4 [(0, .ref (X.2.2 10 32)), (1, .int a1), (2, .ref (X.2.2 12 48))] := hl
  unfold fL_deliver at h
  refine lv_aload_n hx hb dL_deliver_0 rfl (lv_at hl 2 rfl) ?_
  refine lv_iconst (v := 0) hx hb dL_deliver_1 (by decide) ?_
  refine lv_aload_n hx hb dL_deliver_2 rfl (lv_at hl 0 rfl) ?_
  refine lv_iload_n hx hb dL_deliver_3 rfl (lv_at hl 1 rfl) ?_
  rcases x_or_el h with ⟨q1, h2, h⟩ | ⟨-, h⟩
  · refine xl_aci hI (xt_runV (rest := [.int (0), .ref (X.2.2 12 48)]) F Z hI (xX6_deliver l hl0 X _ σ a1 q1 h2) g_L_48 ⟨rfl, hd_X6_deliver⟩ ⟨by decide, by decide⟩ ⟨rfl, rfl⟩ (x_inO (by decide)) rfl rfl rfl rfl hl.1 rfl (Nat.le_of_ble_eq_true rfl) dL_deliver_4 ⟨by decide, by decide⟩) (fun H locs ce q9 hI hce hcv hcl => ?_)
    by_cases c3 : q1.1 = 0
    · have h := x_ift h c3
      rw [c3] at hcl
      refine xl_catch1 (b := 9) (hp := 12) (e0 := 0) F Z ht (by decide) rfl (by decide) hce hcv hcl ?_
      refine lv_astore_n (lv' := [(3, .ref q9), (0, .ref (X.2.2 10 32)), (1, .int a1), (2, .ref (X.2.2 12 48))]) hx hb dL_deliver_12 rfl hl (by decide) rfl (fun ls hl => ?_)
      refine lv_iconst (v := 1) hx hb dL_deliver_13 (by decide) ?_
      rw [x_some h]
      exact xl_iret F hI (Nat.le_of_ble_eq_true rfl) (Nat.le_of_ble_eq_true rfl) dL_deliver_14
    · have h := x_iff h c3
      cases h
  · obtain ⟨r4, h5, h⟩ := x_bnd h
    refine x_aci hI (x_runV (rest := [.int (0), .ref (X.2.2 12 48)]) F hI (mX6_deliver l X _ σ a1 r4 h5) g_L_48 ⟨rfl, hd_X6_deliver⟩ ⟨by decide, by decide⟩ ⟨rfl, rfl⟩ (x_inO (by decide)) rfl rfl rfl rfl hl.1 rfl (Nat.le_of_ble_eq_true rfl) dL_deliver_4 ⟨Nat.zero_le _, Nat.zero_le _⟩) (fun H locs hI => ?_)
    refine lv_i2l hx hb dL_deliver_7 rfl ?_
    refine x_last (x := (r4.1)) F hI rfl (by decide) dL_deliver_8 (fun H locs hI => ?_)
    obtain ⟨τ6, e7⟩ : ∃ z : x_S, z = (x_sh r4.2 12 (x_hu (r4.2 12) 48 (Int32.toNatClampNeg (0 : Int32)) (r4.1))) := ⟨_, rfl⟩
    rw [← e7] at hI
    have h := x_let_at h e7
    refine lv_goto (tgt := 15) hx hb dL_deliver_9 (by decide) ?_
    refine lv_iconst (v := 0) hx hb dL_deliver_15 (by decide) ?_
    rw [x_some h]
    exact xl_iret F hI (Nat.le_of_ble_eq_true rfl) (Nat.le_of_ble_eq_true rfl) dL_deliver_16
abbrev rm_L_lose : Room := { frames := 8, cells := 1, slots := 6, locals := 131 }
def fL_lose (σ : x_S) (a1 : Int32) : Option (Int32 × x_S) := (x_or (eX6_lose σ a1) (fun q1 => (if q1.1 = 0 then some ((1 : Int32), q1.2) else none)) (Option.bind (fX6_lose σ a1) fun r4 => x_let (x_sh r4.2 12 (x_hu (r4.2 12) 48 (Int32.toNatClampNeg (0 : Int32)) (r4.1))) fun τ6 => some ((0 : Int32), τ6)))
set_option maxHeartbeats 4000000 in
set_option maxRecDepth 100000 in
theorem mL_lose (l : Launch) (hl0 : l.stackTraces = false) (X : x_T) (sz : Nat) (σ : x_S) (a1 : Int32) (r : Int32 × x_S) (h : fL_lose σ a1 = some r) : Met l yL_lose (xl_ws yL_lose cL_lose 4 (some .int) [(0, 9, 12, 13)]) rm_L_lose (x_PcT X σ sz [.ref (X.2.2 10 32), .int a1, .ref (X.2.2 12 48)]) (x_Qi X r.1 r.2 sz) 1 6 (x_A X sz) := by
  refine va_MetW (cc := cL_lose) (maxL := 4) (ret := (some .int)) (hh := [(0, 9, 12, 13)]) (by decide) rfl ?_
  intro p e s m args below meth c s₁ B hml hv
  obtain ⟨F, Z, ht, hI, rfl, rfl⟩ := xl_begin B hml hv
  replace F : x_F p s m _ meth c cL_lose 4 RL (some .int) := F
  have hx := F.1
  have hb := F.2.1
  have hml := F.2.2.1
  have hown := F.2.2.2.1
  have hts := F.2.2.2.2.1
  refine x_entry (vs := [.ref (X.2.2 10 32), .int a1, .ref (X.2.2 12 48)]) (n := 4) (Nat.le_of_ble_eq_true rfl) (fun ls hl => ?_)
  replace hl : lv_has ls 4 [(0, .ref (X.2.2 10 32)), (1, .int a1), (2, .ref (X.2.2 12 48))] := hl
  unfold fL_lose at h
  refine lv_aload_n hx hb dL_lose_0 rfl (lv_at hl 2 rfl) ?_
  refine lv_iconst (v := 0) hx hb dL_lose_1 (by decide) ?_
  refine lv_aload_n hx hb dL_lose_2 rfl (lv_at hl 0 rfl) ?_
  refine lv_iload_n hx hb dL_lose_3 rfl (lv_at hl 1 rfl) ?_
  rcases x_or_el h with ⟨q1, h2, h⟩ | ⟨-, h⟩
  · refine xl_aci hI (xt_runV (rest := [.int (0), .ref (X.2.2 12 48)]) F Z hI (xX6_lose l hl0 X _ σ a1 q1 h2) g_L_51 ⟨rfl, hd_X6_lose⟩ ⟨by decide, by decide⟩ ⟨rfl, rfl⟩ (x_inO (by decide)) rfl rfl rfl rfl hl.1 rfl (Nat.le_of_ble_eq_true rfl) dL_lose_4 ⟨by decide, by decide⟩) (fun H locs ce q9 hI hce hcv hcl => ?_)
    by_cases c3 : q1.1 = 0
    · have h := x_ift h c3
      rw [c3] at hcl
      refine xl_catch1 (b := 9) (hp := 12) (e0 := 0) F Z ht (by decide) rfl (by decide) hce hcv hcl ?_
      refine lv_astore_n (lv' := [(3, .ref q9), (0, .ref (X.2.2 10 32)), (1, .int a1), (2, .ref (X.2.2 12 48))]) hx hb dL_lose_12 rfl hl (by decide) rfl (fun ls hl => ?_)
      refine lv_iconst (v := 1) hx hb dL_lose_13 (by decide) ?_
      rw [x_some h]
      exact xl_iret F hI (Nat.le_of_ble_eq_true rfl) (Nat.le_of_ble_eq_true rfl) dL_lose_14
    · have h := x_iff h c3
      cases h
  · obtain ⟨r4, h5, h⟩ := x_bnd h
    refine x_aci hI (x_runV (rest := [.int (0), .ref (X.2.2 12 48)]) F hI (mX6_lose l X _ σ a1 r4 h5) g_L_51 ⟨rfl, hd_X6_lose⟩ ⟨by decide, by decide⟩ ⟨rfl, rfl⟩ (x_inO (by decide)) rfl rfl rfl rfl hl.1 rfl (Nat.le_of_ble_eq_true rfl) dL_lose_4 ⟨Nat.zero_le _, Nat.zero_le _⟩) (fun H locs hI => ?_)
    refine lv_i2l hx hb dL_lose_7 rfl ?_
    refine x_last (x := (r4.1)) F hI rfl (by decide) dL_lose_8 (fun H locs hI => ?_)
    obtain ⟨τ6, e7⟩ : ∃ z : x_S, z = (x_sh r4.2 12 (x_hu (r4.2 12) 48 (Int32.toNatClampNeg (0 : Int32)) (r4.1))) := ⟨_, rfl⟩
    rw [← e7] at hI
    have h := x_let_at h e7
    refine lv_goto (tgt := 15) hx hb dL_lose_9 (by decide) ?_
    refine lv_iconst (v := 0) hx hb dL_lose_15 (by decide) ?_
    rw [x_some h]
    exact xl_iret F hI (Nat.le_of_ble_eq_true rfl) (Nat.le_of_ble_eq_true rfl) dL_lose_16
abbrev rm_L_tick : Room := { frames := 8, cells := 1, slots := 6, locals := 131 }
def fL_tick (σ : x_S) (a1 : Int32) : Option (Int32 × x_S) := (x_or (eX6_tick σ a1) (fun q1 => (if q1.1 = 1 then some ((1 : Int32), q1.2) else none)) (Option.bind (fX6_tick σ a1) fun r4 => x_let (x_sh r4.2 12 (x_hu (r4.2 12) 48 (Int32.toNatClampNeg (0 : Int32)) (r4.1))) fun τ6 => some ((0 : Int32), τ6)))
set_option maxHeartbeats 4000000 in
set_option maxRecDepth 100000 in
theorem mL_tick (l : Launch) (hl0 : l.stackTraces = false) (X : x_T) (sz : Nat) (σ : x_S) (a1 : Int32) (r : Int32 × x_S) (h : fL_tick σ a1 = some r) : Met l yL_tick (xl_ws yL_tick cL_tick 4 (some .int) [(0, 9, 12, 40)]) rm_L_tick (x_PcT X σ sz [.ref (X.2.2 10 32), .int a1, .ref (X.2.2 12 48)]) (x_Qi X r.1 r.2 sz) 1 6 (x_A X sz) := by
  refine va_MetW (cc := cL_tick) (maxL := 4) (ret := (some .int)) (hh := [(0, 9, 12, 40)]) (by decide) rfl ?_
  intro p e s m args below meth c s₁ B hml hv
  obtain ⟨F, Z, ht, hI, rfl, rfl⟩ := xl_begin B hml hv
  replace F : x_F p s m _ meth c cL_tick 4 RL (some .int) := F
  have hx := F.1
  have hb := F.2.1
  have hml := F.2.2.1
  have hown := F.2.2.2.1
  have hts := F.2.2.2.2.1
  refine x_entry (vs := [.ref (X.2.2 10 32), .int a1, .ref (X.2.2 12 48)]) (n := 4) (Nat.le_of_ble_eq_true rfl) (fun ls hl => ?_)
  replace hl : lv_has ls 4 [(0, .ref (X.2.2 10 32)), (1, .int a1), (2, .ref (X.2.2 12 48))] := hl
  unfold fL_tick at h
  refine lv_aload_n hx hb dL_tick_0 rfl (lv_at hl 2 rfl) ?_
  refine lv_iconst (v := 0) hx hb dL_tick_1 (by decide) ?_
  refine lv_aload_n hx hb dL_tick_2 rfl (lv_at hl 0 rfl) ?_
  refine lv_iload_n hx hb dL_tick_3 rfl (lv_at hl 1 rfl) ?_
  rcases x_or_el h with ⟨q1, h2, h⟩ | ⟨-, h⟩
  · refine xl_aci hI (xt_runV (rest := [.int (0), .ref (X.2.2 12 48)]) F Z hI (xX6_tick l hl0 X _ σ a1 q1 h2) g_L_54 ⟨rfl, hd_X6_tick⟩ ⟨by decide, by decide⟩ ⟨rfl, rfl⟩ (x_inO (by decide)) rfl rfl rfl rfl hl.1 rfl (Nat.le_of_ble_eq_true rfl) dL_tick_4 ⟨by decide, by decide⟩) (fun H locs ce q9 hI hce hcv hcl => ?_)
    by_cases c3 : q1.1 = 1
    · have h := x_ift h c3
      rw [c3] at hcl
      refine xl_catch1 (b := 9) (hp := 12) (e0 := 1) F Z ht (by decide) rfl (by decide) hce hcv hcl ?_
      refine lv_astore_n (lv' := [(3, .ref q9), (0, .ref (X.2.2 10 32)), (1, .int a1), (2, .ref (X.2.2 12 48))]) hx hb dL_tick_12 rfl hl (by decide) rfl (fun ls hl => ?_)
      refine lv_iconst (v := 1) hx hb dL_tick_13 (by decide) ?_
      rw [x_some h]
      exact xl_iret F hI (Nat.le_of_ble_eq_true rfl) (Nat.le_of_ble_eq_true rfl) dL_tick_14
    · have h := x_iff h c3
      cases h
  · obtain ⟨r4, h5, h⟩ := x_bnd h
    refine x_aci hI (x_runV (rest := [.int (0), .ref (X.2.2 12 48)]) F hI (mX6_tick l X _ σ a1 r4 h5) g_L_54 ⟨rfl, hd_X6_tick⟩ ⟨by decide, by decide⟩ ⟨rfl, rfl⟩ (x_inO (by decide)) rfl rfl rfl rfl hl.1 rfl (Nat.le_of_ble_eq_true rfl) dL_tick_4 ⟨Nat.zero_le _, Nat.zero_le _⟩) (fun H locs hI => ?_)
    refine lv_i2l hx hb dL_tick_7 rfl ?_
    refine x_last (x := (r4.1)) F hI rfl (by decide) dL_tick_8 (fun H locs hI => ?_)
    obtain ⟨τ6, e7⟩ : ∃ z : x_S, z = (x_sh r4.2 12 (x_hu (r4.2 12) 48 (Int32.toNatClampNeg (0 : Int32)) (r4.1))) := ⟨_, rfl⟩
    rw [← e7] at hI
    have h := x_let_at h e7
    refine lv_goto (tgt := 15) hx hb dL_tick_9 (by decide) ?_
    refine lv_iconst (v := 0) hx hb dL_tick_15 (by decide) ?_
    rw [x_some h]
    exact xl_iret F hI (Nat.le_of_ble_eq_true rfl) (Nat.le_of_ble_eq_true rfl) dL_tick_16
abbrev rm_L_append : Room := { frames := 8, cells := 1, slots := 6, locals := 125 }
def fL_append (σ : x_S) (a1 : Int32) : Option (Int32 × x_S) := (x_or (eX6_append σ a1) (fun q1 => (if q1.1 = 1 then some ((1 : Int32), q1.2) else (if q1.1 = 2 then some ((2 : Int32), q1.2) else none))) (Option.bind (fX6_append σ a1) fun r5 => x_let (x_sh r5.2 12 (x_hu (r5.2 12) 48 (Int32.toNatClampNeg (0 : Int32)) (r5.1))) fun τ7 => some ((0 : Int32), τ7)))
set_option maxHeartbeats 4000000 in
set_option maxRecDepth 100000 in
theorem mL_append (l : Launch) (hl0 : l.stackTraces = false) (X : x_T) (sz : Nat) (σ : x_S) (a1 : Int32) (r : Int32 × x_S) (h : fL_append σ a1 = some r) : Met l yL_append (xl_ws yL_append cL_append 4 (some .int) [(0, 9, 12, 40), (0, 9, 15, 15)]) rm_L_append (x_PcT X σ sz [.ref (X.2.2 10 32), .int a1, .ref (X.2.2 12 48)]) (x_Qi X r.1 r.2 sz) 1 6 (x_A X sz) := by
  refine va_MetW (cc := cL_append) (maxL := 4) (ret := (some .int)) (hh := [(0, 9, 12, 40), (0, 9, 15, 15)]) (by decide) rfl ?_
  intro p e s m args below meth c s₁ B hml hv
  obtain ⟨F, Z, ht, hI, rfl, rfl⟩ := xl_begin B hml hv
  replace F : x_F p s m _ meth c cL_append 4 RL (some .int) := F
  have hx := F.1
  have hb := F.2.1
  have hml := F.2.2.1
  have hown := F.2.2.2.1
  have hts := F.2.2.2.2.1
  refine x_entry (vs := [.ref (X.2.2 10 32), .int a1, .ref (X.2.2 12 48)]) (n := 4) (Nat.le_of_ble_eq_true rfl) (fun ls hl => ?_)
  replace hl : lv_has ls 4 [(0, .ref (X.2.2 10 32)), (1, .int a1), (2, .ref (X.2.2 12 48))] := hl
  unfold fL_append at h
  refine lv_aload_n hx hb dL_append_0 rfl (lv_at hl 2 rfl) ?_
  refine lv_iconst (v := 0) hx hb dL_append_1 (by decide) ?_
  refine lv_aload_n hx hb dL_append_2 rfl (lv_at hl 0 rfl) ?_
  refine lv_iload_n hx hb dL_append_3 rfl (lv_at hl 1 rfl) ?_
  rcases x_or_el h with ⟨q1, h2, h⟩ | ⟨-, h⟩
  · refine xl_aci hI (xt_runV (rest := [.int (0), .ref (X.2.2 12 48)]) F Z hI (xX6_append l hl0 X _ σ a1 q1 h2) g_L_57 ⟨rfl, hd_X6_append⟩ ⟨by decide, by decide⟩ ⟨rfl, rfl⟩ (x_inO (by decide)) rfl rfl rfl rfl hl.1 rfl (Nat.le_of_ble_eq_true rfl) dL_append_4 ⟨by decide, by decide⟩) (fun H locs ce q9 hI hce hcv hcl => ?_)
    by_cases c4 : q1.1 = 1
    · have h := x_ift h c4
      rw [c4] at hcl
      refine xl_catch1 (b := 9) (hp := 12) (e0 := 1) F Z ht (by decide) rfl (by decide) hce hcv hcl ?_
      refine lv_astore_n (lv' := [(3, .ref q9), (0, .ref (X.2.2 10 32)), (1, .int a1), (2, .ref (X.2.2 12 48))]) hx hb dL_append_12 rfl hl (by decide) rfl (fun ls hl => ?_)
      refine lv_iconst (v := 1) hx hb dL_append_13 (by decide) ?_
      rw [x_some h]
      exact xl_iret F hI (Nat.le_of_ble_eq_true rfl) (Nat.le_of_ble_eq_true rfl) dL_append_14
    · have h := x_iff h c4
      by_cases c3 : q1.1 = 2
      · have h := x_ift h c3
        rw [c3] at hcl
        refine xl_catch2 (b := 9) (hp := 15) (e0 := 1) F Z ht (by decide) rfl (by decide) hce hcv hcl ?_
        refine lv_astore_n (lv' := [(3, .ref q9), (0, .ref (X.2.2 10 32)), (1, .int a1), (2, .ref (X.2.2 12 48))]) hx hb dL_append_15 rfl hl (by decide) rfl (fun ls hl => ?_)
        refine lv_iconst (v := 2) hx hb dL_append_16 (by decide) ?_
        rw [x_some h]
        exact xl_iret F hI (Nat.le_of_ble_eq_true rfl) (Nat.le_of_ble_eq_true rfl) dL_append_17
      · have h := x_iff h c3
        cases h
  · obtain ⟨r5, h6, h⟩ := x_bnd h
    refine x_aci hI (x_runV (rest := [.int (0), .ref (X.2.2 12 48)]) F hI (mX6_append l X _ σ a1 r5 h6) g_L_57 ⟨rfl, hd_X6_append⟩ ⟨by decide, by decide⟩ ⟨rfl, rfl⟩ (x_inO (by decide)) rfl rfl rfl rfl hl.1 rfl (Nat.le_of_ble_eq_true rfl) dL_append_4 ⟨Nat.zero_le _, Nat.zero_le _⟩) (fun H locs hI => ?_)
    refine lv_i2l hx hb dL_append_7 rfl ?_
    refine x_last (x := (r5.1)) F hI rfl (by decide) dL_append_8 (fun H locs hI => ?_)
    obtain ⟨τ7, e8⟩ : ∃ z : x_S, z = (x_sh r5.2 12 (x_hu (r5.2 12) 48 (Int32.toNatClampNeg (0 : Int32)) (r5.1))) := ⟨_, rfl⟩
    rw [← e8] at hI
    have h := x_let_at h e8
    refine lv_goto (tgt := 18) hx hb dL_append_9 (by decide) ?_
    refine lv_iconst (v := 0) hx hb dL_append_18 (by decide) ?_
    rw [x_some h]
    exact xl_iret F hI (Nat.le_of_ble_eq_true rfl) (Nat.le_of_ble_eq_true rfl) dL_append_19
abbrev rm_L_play : Room := { frames := 8, cells := 1, slots := 6, locals := 163 }
def fL_play (σ : x_S) : Option (Int32 × x_S) := (x_or (eX6_play σ ) (fun q1 => (if q1.1 = 1 then some ((1 : Int32), q1.2) else (if q1.1 = 2 then some ((2 : Int32), q1.2) else none))) (Option.bind (fX6_play σ ) fun r5 => x_let (x_sh r5.2 12 (x_hu (r5.2 12) 48 (Int32.toNatClampNeg (0 : Int32)) (r5.1))) fun τ7 => some ((0 : Int32), τ7)))
set_option maxHeartbeats 4000000 in
set_option maxRecDepth 100000 in
theorem mL_play (l : Launch) (hl0 : l.stackTraces = false) (X : x_T) (sz : Nat) (σ : x_S) (r : Int32 × x_S) (h : fL_play σ  = some r) : Met l yL_play (xl_ws yL_play cL_play 3 (some .int) [(0, 8, 11, 40), (0, 8, 14, 15)]) rm_L_play (x_PcT X σ sz [.ref (X.2.2 10 32), .ref (X.2.2 12 48)]) (x_Qi X r.1 r.2 sz) 1 6 (x_A X sz) := by
  refine va_MetW (cc := cL_play) (maxL := 3) (ret := (some .int)) (hh := [(0, 8, 11, 40), (0, 8, 14, 15)]) (by decide) rfl ?_
  intro p e s m args below meth c s₁ B hml hv
  obtain ⟨F, Z, ht, hI, rfl, rfl⟩ := xl_begin B hml hv
  replace F : x_F p s m _ meth c cL_play 3 RL (some .int) := F
  have hx := F.1
  have hb := F.2.1
  have hml := F.2.2.1
  have hown := F.2.2.2.1
  have hts := F.2.2.2.2.1
  refine x_entry (vs := [.ref (X.2.2 10 32), .ref (X.2.2 12 48)]) (n := 3) (Nat.le_of_ble_eq_true rfl) (fun ls hl => ?_)
  replace hl : lv_has ls 3 [(0, .ref (X.2.2 10 32)), (1, .ref (X.2.2 12 48))] := hl
  unfold fL_play at h
  refine lv_aload_n hx hb dL_play_0 rfl (lv_at hl 1 rfl) ?_
  refine lv_iconst (v := 0) hx hb dL_play_1 (by decide) ?_
  refine lv_aload_n hx hb dL_play_2 rfl (lv_at hl 0 rfl) ?_
  rcases x_or_el h with ⟨q1, h2, h⟩ | ⟨-, h⟩
  · refine xl_aci hI (xt_runV (rest := [.int (0), .ref (X.2.2 12 48)]) F Z hI (xX6_play l hl0 X _ σ  q1 h2) g_L_60 ⟨rfl, hd_X6_play⟩ ⟨by decide, by decide⟩ ⟨rfl, rfl⟩ (x_inO (by decide)) rfl rfl rfl rfl hl.1 rfl (Nat.le_of_ble_eq_true rfl) dL_play_3 ⟨by decide, by decide⟩) (fun H locs ce q9 hI hce hcv hcl => ?_)
    by_cases c4 : q1.1 = 1
    · have h := x_ift h c4
      rw [c4] at hcl
      refine xl_catch1 (b := 8) (hp := 11) (e0 := 1) F Z ht (by decide) rfl (by decide) hce hcv hcl ?_
      refine lv_astore_n (lv' := [(2, .ref q9), (0, .ref (X.2.2 10 32)), (1, .ref (X.2.2 12 48))]) hx hb dL_play_11 rfl hl (by decide) rfl (fun ls hl => ?_)
      refine lv_iconst (v := 1) hx hb dL_play_12 (by decide) ?_
      rw [x_some h]
      exact xl_iret F hI (Nat.le_of_ble_eq_true rfl) (Nat.le_of_ble_eq_true rfl) dL_play_13
    · have h := x_iff h c4
      by_cases c3 : q1.1 = 2
      · have h := x_ift h c3
        rw [c3] at hcl
        refine xl_catch2 (b := 8) (hp := 14) (e0 := 1) F Z ht (by decide) rfl (by decide) hce hcv hcl ?_
        refine lv_astore_n (lv' := [(2, .ref q9), (0, .ref (X.2.2 10 32)), (1, .ref (X.2.2 12 48))]) hx hb dL_play_14 rfl hl (by decide) rfl (fun ls hl => ?_)
        refine lv_iconst (v := 2) hx hb dL_play_15 (by decide) ?_
        rw [x_some h]
        exact xl_iret F hI (Nat.le_of_ble_eq_true rfl) (Nat.le_of_ble_eq_true rfl) dL_play_16
      · have h := x_iff h c3
        cases h
  · obtain ⟨r5, h6, h⟩ := x_bnd h
    refine x_aci hI (x_runV (rest := [.int (0), .ref (X.2.2 12 48)]) F hI (mX6_play l X _ σ  r5 h6) g_L_60 ⟨rfl, hd_X6_play⟩ ⟨by decide, by decide⟩ ⟨rfl, rfl⟩ (x_inO (by decide)) rfl rfl rfl rfl hl.1 rfl (Nat.le_of_ble_eq_true rfl) dL_play_3 ⟨Nat.zero_le _, Nat.zero_le _⟩) (fun H locs hI => ?_)
    refine lv_i2l hx hb dL_play_6 rfl ?_
    refine x_last (x := (r5.1)) F hI rfl (by decide) dL_play_7 (fun H locs hI => ?_)
    obtain ⟨τ7, e8⟩ : ∃ z : x_S, z = (x_sh r5.2 12 (x_hu (r5.2 12) 48 (Int32.toNatClampNeg (0 : Int32)) (r5.1))) := ⟨_, rfl⟩
    rw [← e8] at hI
    have h := x_let_at h e8
    refine lv_goto (tgt := 17) hx hb dL_play_8 (by decide) ?_
    refine lv_iconst (v := 0) hx hb dL_play_17 (by decide) ?_
    rw [x_some h]
    exact xl_iret F hI (Nat.le_of_ble_eq_true rfl) (Nat.le_of_ble_eq_true rfl) dL_play_18
abbrev rm_L_keep : Room := { frames := 8, cells := 1, slots := 6, locals := 125 }
def fL_keep (σ : x_S) (a1 : Int32) : Option (Int32 × x_S) := (x_or (eX6_keep σ a1) (fun q1 => (if q1.1 = 1 then some ((1 : Int32), q1.2) else none)) (Option.bind (fX6_keep σ a1) fun r4 => some ((0 : Int32), r4)))
set_option maxHeartbeats 4000000 in
set_option maxRecDepth 100000 in
theorem mL_keep (l : Launch) (hl0 : l.stackTraces = false) (X : x_T) (sz : Nat) (σ : x_S) (a1 : Int32) (r : Int32 × x_S) (h : fL_keep σ a1 = some r) : Met l yL_keep (xl_ws yL_keep cL_keep 3 (some .int) [(0, 5, 8, 40)]) rm_L_keep (x_PcT X σ sz [.ref (X.2.2 10 32), .int a1]) (x_Qi X r.1 r.2 sz) 1 6 (x_A X sz) := by
  refine va_MetW (cc := cL_keep) (maxL := 3) (ret := (some .int)) (hh := [(0, 5, 8, 40)]) (by decide) rfl ?_
  intro p e s m args below meth c s₁ B hml hv
  obtain ⟨F, Z, ht, hI, rfl, rfl⟩ := xl_begin B hml hv
  replace F : x_F p s m _ meth c cL_keep 3 RL (some .int) := F
  have hx := F.1
  have hb := F.2.1
  have hml := F.2.2.1
  have hown := F.2.2.2.1
  have hts := F.2.2.2.2.1
  refine x_entry (vs := [.ref (X.2.2 10 32), .int a1]) (n := 3) (Nat.le_of_ble_eq_true rfl) (fun ls hl => ?_)
  replace hl : lv_has ls 3 [(0, .ref (X.2.2 10 32)), (1, .int a1)] := hl
  unfold fL_keep at h
  refine lv_aload_n hx hb dL_keep_0 rfl (lv_at hl 0 rfl) ?_
  refine lv_iload_n hx hb dL_keep_1 rfl (lv_at hl 1 rfl) ?_
  rcases x_or_el h with ⟨q1, h2, h⟩ | ⟨-, h⟩
  · refine xl_acv hI (xt_runV (rest := []) F Z hI (xX6_keep l hl0 X _ σ a1 q1 h2) g_L_64 ⟨rfl, hd_X6_keep⟩ ⟨by decide, by decide⟩ ⟨rfl, rfl⟩ (x_inO (by decide)) rfl rfl rfl rfl hl.1 rfl (Nat.le_of_ble_eq_true rfl) dL_keep_2 ⟨by decide, by decide⟩) (fun H locs ce q9 hI hce hcv hcl => ?_)
    by_cases c3 : q1.1 = 1
    · have h := x_ift h c3
      rw [c3] at hcl
      refine xl_catch1 (b := 5) (hp := 8) (e0 := 1) F Z ht (by decide) rfl (by decide) hce hcv hcl ?_
      refine lv_astore_n (lv' := [(2, .ref q9), (0, .ref (X.2.2 10 32)), (1, .int a1)]) hx hb dL_keep_8 rfl hl (by decide) rfl (fun ls hl => ?_)
      refine lv_iconst (v := 1) hx hb dL_keep_9 (by decide) ?_
      rw [x_some h]
      exact xl_iret F hI (Nat.le_of_ble_eq_true rfl) (Nat.le_of_ble_eq_true rfl) dL_keep_10
    · have h := x_iff h c3
      cases h
  · obtain ⟨r4, h5, h⟩ := x_bnd h
    refine x_acv hI (x_runV (rest := []) F hI (mX6_keep l X _ σ a1 r4 h5) g_L_64 ⟨rfl, hd_X6_keep⟩ ⟨by decide, by decide⟩ ⟨rfl, rfl⟩ (x_inO (by decide)) rfl rfl rfl rfl hl.1 rfl (Nat.le_of_ble_eq_true rfl) dL_keep_2 ⟨Nat.zero_le _, Nat.zero_le _⟩) (fun H locs hI => ?_)
    refine lv_goto (tgt := 11) hx hb dL_keep_5 (by decide) ?_
    refine lv_iconst (v := 0) hx hb dL_keep_11 (by decide) ?_
    rw [x_some h]
    exact xl_iret F hI (Nat.le_of_ble_eq_true rfl) (Nat.le_of_ble_eq_true rfl) dL_keep_12
abbrev rm_L_goBack : Room := { frames := 8, cells := 1, slots := 6, locals := 131 }
def fL_goBack (σ : x_S) (a1 : Int32) : Option (Int32 × x_S) := (x_or (eX6_goBack σ a1) (fun q1 => (if q1.1 = 1 then some ((1 : Int32), q1.2) else (if q1.1 = 2 then some ((2 : Int32), q1.2) else none))) (Option.bind (fX6_goBack σ a1) fun r5 => some ((0 : Int32), r5)))
set_option maxHeartbeats 4000000 in
set_option maxRecDepth 100000 in
theorem mL_goBack (l : Launch) (hl0 : l.stackTraces = false) (X : x_T) (sz : Nat) (σ : x_S) (a1 : Int32) (r : Int32 × x_S) (h : fL_goBack σ a1 = some r) : Met l yL_goBack (xl_ws yL_goBack cL_goBack 3 (some .int) [(0, 5, 8, 40), (0, 5, 11, 15)]) rm_L_goBack (x_PcT X σ sz [.ref (X.2.2 10 32), .int a1]) (x_Qi X r.1 r.2 sz) 1 6 (x_A X sz) := by
  refine va_MetW (cc := cL_goBack) (maxL := 3) (ret := (some .int)) (hh := [(0, 5, 8, 40), (0, 5, 11, 15)]) (by decide) rfl ?_
  intro p e s m args below meth c s₁ B hml hv
  obtain ⟨F, Z, ht, hI, rfl, rfl⟩ := xl_begin B hml hv
  replace F : x_F p s m _ meth c cL_goBack 3 RL (some .int) := F
  have hx := F.1
  have hb := F.2.1
  have hml := F.2.2.1
  have hown := F.2.2.2.1
  have hts := F.2.2.2.2.1
  refine x_entry (vs := [.ref (X.2.2 10 32), .int a1]) (n := 3) (Nat.le_of_ble_eq_true rfl) (fun ls hl => ?_)
  replace hl : lv_has ls 3 [(0, .ref (X.2.2 10 32)), (1, .int a1)] := hl
  unfold fL_goBack at h
  refine lv_aload_n hx hb dL_goBack_0 rfl (lv_at hl 0 rfl) ?_
  refine lv_iload_n hx hb dL_goBack_1 rfl (lv_at hl 1 rfl) ?_
  rcases x_or_el h with ⟨q1, h2, h⟩ | ⟨-, h⟩
  · refine xl_acv hI (xt_runV (rest := []) F Z hI (xX6_goBack l hl0 X _ σ a1 q1 h2) g_L_68 ⟨rfl, hd_X6_goBack⟩ ⟨by decide, by decide⟩ ⟨rfl, rfl⟩ (x_inO (by decide)) rfl rfl rfl rfl hl.1 rfl (Nat.le_of_ble_eq_true rfl) dL_goBack_2 ⟨by decide, by decide⟩) (fun H locs ce q9 hI hce hcv hcl => ?_)
    by_cases c4 : q1.1 = 1
    · have h := x_ift h c4
      rw [c4] at hcl
      refine xl_catch1 (b := 5) (hp := 8) (e0 := 1) F Z ht (by decide) rfl (by decide) hce hcv hcl ?_
      refine lv_astore_n (lv' := [(2, .ref q9), (0, .ref (X.2.2 10 32)), (1, .int a1)]) hx hb dL_goBack_8 rfl hl (by decide) rfl (fun ls hl => ?_)
      refine lv_iconst (v := 1) hx hb dL_goBack_9 (by decide) ?_
      rw [x_some h]
      exact xl_iret F hI (Nat.le_of_ble_eq_true rfl) (Nat.le_of_ble_eq_true rfl) dL_goBack_10
    · have h := x_iff h c4
      by_cases c3 : q1.1 = 2
      · have h := x_ift h c3
        rw [c3] at hcl
        refine xl_catch2 (b := 5) (hp := 11) (e0 := 1) F Z ht (by decide) rfl (by decide) hce hcv hcl ?_
        refine lv_astore_n (lv' := [(2, .ref q9), (0, .ref (X.2.2 10 32)), (1, .int a1)]) hx hb dL_goBack_11 rfl hl (by decide) rfl (fun ls hl => ?_)
        refine lv_iconst (v := 2) hx hb dL_goBack_12 (by decide) ?_
        rw [x_some h]
        exact xl_iret F hI (Nat.le_of_ble_eq_true rfl) (Nat.le_of_ble_eq_true rfl) dL_goBack_13
      · have h := x_iff h c3
        cases h
  · obtain ⟨r5, h6, h⟩ := x_bnd h
    refine x_acv hI (x_runV (rest := []) F hI (mX6_goBack l X _ σ a1 r5 h6) g_L_68 ⟨rfl, hd_X6_goBack⟩ ⟨by decide, by decide⟩ ⟨rfl, rfl⟩ (x_inO (by decide)) rfl rfl rfl rfl hl.1 rfl (Nat.le_of_ble_eq_true rfl) dL_goBack_2 ⟨Nat.zero_le _, Nat.zero_le _⟩) (fun H locs hI => ?_)
    refine lv_goto (tgt := 14) hx hb dL_goBack_5 (by decide) ?_
    refine lv_iconst (v := 0) hx hb dL_goBack_14 (by decide) ?_
    rw [x_some h]
    exact xl_iret F hI (Nat.le_of_ble_eq_true rfl) (Nat.le_of_ble_eq_true rfl) dL_goBack_15
abbrev rm_L_undo : Room := { frames := 8, cells := 1, slots := 6, locals := 130 }
def fL_undo (σ : x_S) : Option (Int32 × x_S) := (x_or (eX6_undo σ ) (fun q1 => (if q1.1 = 2 then some ((1 : Int32), q1.2) else none)) (Option.bind (fX6_undo σ ) fun r4 => some ((0 : Int32), r4)))
set_option maxHeartbeats 4000000 in
set_option maxRecDepth 100000 in
theorem mL_undo (l : Launch) (hl0 : l.stackTraces = false) (X : x_T) (sz : Nat) (σ : x_S) (r : Int32 × x_S) (h : fL_undo σ  = some r) : Met l yL_undo (xl_ws yL_undo cL_undo 2 (some .int) [(0, 4, 7, 15)]) rm_L_undo (x_PcT X σ sz [.ref (X.2.2 10 32)]) (x_Qi X r.1 r.2 sz) 1 6 (x_A X sz) := by
  refine va_MetW (cc := cL_undo) (maxL := 2) (ret := (some .int)) (hh := [(0, 4, 7, 15)]) (by decide) rfl ?_
  intro p e s m args below meth c s₁ B hml hv
  obtain ⟨F, Z, ht, hI, rfl, rfl⟩ := xl_begin B hml hv
  replace F : x_F p s m _ meth c cL_undo 2 RL (some .int) := F
  have hx := F.1
  have hb := F.2.1
  have hml := F.2.2.1
  have hown := F.2.2.2.1
  have hts := F.2.2.2.2.1
  refine x_entry (vs := [.ref (X.2.2 10 32)]) (n := 2) (Nat.le_of_ble_eq_true rfl) (fun ls hl => ?_)
  replace hl : lv_has ls 2 [(0, .ref (X.2.2 10 32))] := hl
  unfold fL_undo at h
  refine lv_aload_n hx hb dL_undo_0 rfl (lv_at hl 0 rfl) ?_
  rcases x_or_el h with ⟨q1, h2, h⟩ | ⟨-, h⟩
  · refine xl_acv hI (xt_runV (rest := []) F Z hI (xX6_undo l hl0 X _ σ  q1 h2) g_L_71 ⟨rfl, hd_X6_undo⟩ ⟨by decide, by decide⟩ ⟨rfl, rfl⟩ (x_inO (by decide)) rfl rfl rfl rfl hl.1 rfl (Nat.le_of_ble_eq_true rfl) dL_undo_1 ⟨by decide, by decide⟩) (fun H locs ce q9 hI hce hcv hcl => ?_)
    by_cases c3 : q1.1 = 2
    · have h := x_ift h c3
      rw [c3] at hcl
      refine xl_catch1 (b := 4) (hp := 7) (e0 := 2) F Z ht (by decide) rfl (by decide) hce hcv hcl ?_
      refine lv_astore_n (lv' := [(1, .ref q9), (0, .ref (X.2.2 10 32))]) hx hb dL_undo_7 rfl hl (by decide) rfl (fun ls hl => ?_)
      refine lv_iconst (v := 1) hx hb dL_undo_8 (by decide) ?_
      rw [x_some h]
      exact xl_iret F hI (Nat.le_of_ble_eq_true rfl) (Nat.le_of_ble_eq_true rfl) dL_undo_9
    · have h := x_iff h c3
      cases h
  · obtain ⟨r4, h5, h⟩ := x_bnd h
    refine x_acv hI (x_runV (rest := []) F hI (mX6_undo l X _ σ  r4 h5) g_L_71 ⟨rfl, hd_X6_undo⟩ ⟨by decide, by decide⟩ ⟨rfl, rfl⟩ (x_inO (by decide)) rfl rfl rfl rfl hl.1 rfl (Nat.le_of_ble_eq_true rfl) dL_undo_1 ⟨Nat.zero_le _, Nat.zero_le _⟩) (fun H locs hI => ?_)
    refine lv_goto (tgt := 10) hx hb dL_undo_4 (by decide) ?_
    refine lv_iconst (v := 0) hx hb dL_undo_10 (by decide) ?_
    rw [x_some h]
    exact xl_iret F hI (Nat.le_of_ble_eq_true rfl) (Nat.le_of_ble_eq_true rfl) dL_undo_11
abbrev rm_L_doingOf : Room := { frames := 8, cells := 1, slots := 6, locals := 123 }
def fL_doingOf (σ : x_S) (a1 : Int32) : Option (Int32 × x_S) := (x_or (eX6_doingOf σ a1) (fun q1 => (if q1 = 0 then some ((1 : Int32), σ) else none)) (Option.bind (fX6_doingOf σ a1) fun r4 => x_let (x_sh σ 12 (x_hu (σ 12) 48 (Int32.toNatClampNeg (0 : Int32)) r4)) fun τ6 => some ((0 : Int32), τ6)))
set_option maxHeartbeats 4000000 in
set_option maxRecDepth 100000 in
theorem mL_doingOf (l : Launch) (hl0 : l.stackTraces = false) (X : x_T) (sz : Nat) (σ : x_S) (a1 : Int32) (r : Int32 × x_S) (h : fL_doingOf σ a1 = some r) : Met l yL_doingOf (xl_ws yL_doingOf cL_doingOf 4 (some .int) [(0, 9, 12, 13)]) rm_L_doingOf (x_PcT X σ sz [.ref (X.2.2 10 32), .int a1, .ref (X.2.2 12 48)]) (x_Qi X r.1 r.2 sz) 1 6 (x_A X sz) := by
  refine va_MetW (cc := cL_doingOf) (maxL := 4) (ret := (some .int)) (hh := [(0, 9, 12, 13)]) (by decide) rfl ?_
  intro p e s m args below meth c s₁ B hml hv
  obtain ⟨F, Z, ht, hI, rfl, rfl⟩ := xl_begin B hml hv
  replace F : x_F p s m _ meth c cL_doingOf 4 RL (some .int) := F
  have hx := F.1
  have hb := F.2.1
  have hml := F.2.2.1
  have hown := F.2.2.2.1
  have hts := F.2.2.2.2.1
  refine x_entry (vs := [.ref (X.2.2 10 32), .int a1, .ref (X.2.2 12 48)]) (n := 4) (Nat.le_of_ble_eq_true rfl) (fun ls hl => ?_)
  replace hl : lv_has ls 4 [(0, .ref (X.2.2 10 32)), (1, .int a1), (2, .ref (X.2.2 12 48))] := hl
  unfold fL_doingOf at h
  refine lv_aload_n hx hb dL_doingOf_0 rfl (lv_at hl 2 rfl) ?_
  refine lv_iconst (v := 0) hx hb dL_doingOf_1 (by decide) ?_
  refine lv_aload_n hx hb dL_doingOf_2 rfl (lv_at hl 0 rfl) ?_
  refine lv_iload_n hx hb dL_doingOf_3 rfl (lv_at hl 1 rfl) ?_
  rcases x_or_el h with ⟨q1, h2, h⟩ | ⟨-, h⟩
  · refine xl_aci hI (xt_runV (rest := [.int (0), .ref (X.2.2 12 48)]) F Z hI (xX6_doingOf l hl0 X _ σ a1 q1 h2) g_L_74 ⟨rfl, hd_X6_doingOf⟩ ⟨by decide, by decide⟩ ⟨rfl, rfl⟩ (x_inO (by decide)) rfl rfl rfl rfl hl.1 rfl (Nat.le_of_ble_eq_true rfl) dL_doingOf_4 ⟨by decide, by decide⟩) (fun H locs ce q9 hI hce hcv hcl => ?_)
    by_cases c3 : q1 = 0
    · have h := x_ift h c3
      rw [c3] at hcl
      refine xl_catch1 (b := 9) (hp := 12) (e0 := 0) F Z ht (by decide) rfl (by decide) hce hcv hcl ?_
      refine lv_astore_n (lv' := [(3, .ref q9), (0, .ref (X.2.2 10 32)), (1, .int a1), (2, .ref (X.2.2 12 48))]) hx hb dL_doingOf_12 rfl hl (by decide) rfl (fun ls hl => ?_)
      refine lv_iconst (v := 1) hx hb dL_doingOf_13 (by decide) ?_
      rw [x_some h]
      exact xl_iret F hI (Nat.le_of_ble_eq_true rfl) (Nat.le_of_ble_eq_true rfl) dL_doingOf_14
    · have h := x_iff h c3
      cases h
  · obtain ⟨r4, h5, h⟩ := x_bnd h
    refine x_aci hI (x_runV (rest := [.int (0), .ref (X.2.2 12 48)]) F hI (mX6_doingOf l X _ σ a1 r4 h5) g_L_74 ⟨rfl, hd_X6_doingOf⟩ ⟨by decide, by decide⟩ ⟨rfl, rfl⟩ (x_inO (by decide)) rfl rfl rfl rfl hl.1 rfl (Nat.le_of_ble_eq_true rfl) dL_doingOf_4 ⟨Nat.zero_le _, Nat.zero_le _⟩) (fun H locs hI => ?_)
    refine lv_i2l hx hb dL_doingOf_7 rfl ?_
    refine x_last (x := r4) F hI rfl (by decide) dL_doingOf_8 (fun H locs hI => ?_)
    obtain ⟨τ6, e7⟩ : ∃ z : x_S, z = (x_sh σ 12 (x_hu (σ 12) 48 (Int32.toNatClampNeg (0 : Int32)) r4)) := ⟨_, rfl⟩
    rw [← e7] at hI
    have h := x_let_at h e7
    refine lv_goto (tgt := 15) hx hb dL_doingOf_9 (by decide) ?_
    refine lv_iconst (v := 0) hx hb dL_doingOf_15 (by decide) ?_
    rw [x_some h]
    exact xl_iret F hI (Nat.le_of_ble_eq_true rfl) (Nat.le_of_ble_eq_true rfl) dL_doingOf_16
abbrev rm_L_roomOf : Room := { frames := 8, cells := 1, slots := 6, locals := 123 }
def fL_roomOf (σ : x_S) (a1 : Int32) : Option (Int32 × x_S) := (x_or (eX6_roomOf σ a1) (fun q1 => (if q1 = 0 then some ((1 : Int32), σ) else (if q1 = 2 then some ((2 : Int32), σ) else none))) (Option.bind (fX6_roomOf σ a1) fun r5 => x_let (x_sh σ 12 (x_hu (σ 12) 48 (Int32.toNatClampNeg (0 : Int32)) r5)) fun τ7 => some ((0 : Int32), τ7)))
set_option maxHeartbeats 4000000 in
set_option maxRecDepth 100000 in
theorem mL_roomOf (l : Launch) (hl0 : l.stackTraces = false) (X : x_T) (sz : Nat) (σ : x_S) (a1 : Int32) (r : Int32 × x_S) (h : fL_roomOf σ a1 = some r) : Met l yL_roomOf (xl_ws yL_roomOf cL_roomOf 4 (some .int) [(0, 9, 12, 13), (0, 9, 15, 15)]) rm_L_roomOf (x_PcT X σ sz [.ref (X.2.2 10 32), .int a1, .ref (X.2.2 12 48)]) (x_Qi X r.1 r.2 sz) 1 6 (x_A X sz) := by
  refine va_MetW (cc := cL_roomOf) (maxL := 4) (ret := (some .int)) (hh := [(0, 9, 12, 13), (0, 9, 15, 15)]) (by decide) rfl ?_
  intro p e s m args below meth c s₁ B hml hv
  obtain ⟨F, Z, ht, hI, rfl, rfl⟩ := xl_begin B hml hv
  replace F : x_F p s m _ meth c cL_roomOf 4 RL (some .int) := F
  have hx := F.1
  have hb := F.2.1
  have hml := F.2.2.1
  have hown := F.2.2.2.1
  have hts := F.2.2.2.2.1
  refine x_entry (vs := [.ref (X.2.2 10 32), .int a1, .ref (X.2.2 12 48)]) (n := 4) (Nat.le_of_ble_eq_true rfl) (fun ls hl => ?_)
  replace hl : lv_has ls 4 [(0, .ref (X.2.2 10 32)), (1, .int a1), (2, .ref (X.2.2 12 48))] := hl
  unfold fL_roomOf at h
  refine lv_aload_n hx hb dL_roomOf_0 rfl (lv_at hl 2 rfl) ?_
  refine lv_iconst (v := 0) hx hb dL_roomOf_1 (by decide) ?_
  refine lv_aload_n hx hb dL_roomOf_2 rfl (lv_at hl 0 rfl) ?_
  refine lv_iload_n hx hb dL_roomOf_3 rfl (lv_at hl 1 rfl) ?_
  rcases x_or_el h with ⟨q1, h2, h⟩ | ⟨-, h⟩
  · refine xl_aci hI (xt_runV (rest := [.int (0), .ref (X.2.2 12 48)]) F Z hI (xX6_roomOf l hl0 X _ σ a1 q1 h2) g_L_77 ⟨rfl, hd_X6_roomOf⟩ ⟨by decide, by decide⟩ ⟨rfl, rfl⟩ (x_inO (by decide)) rfl rfl rfl rfl hl.1 rfl (Nat.le_of_ble_eq_true rfl) dL_roomOf_4 ⟨by decide, by decide⟩) (fun H locs ce q9 hI hce hcv hcl => ?_)
    by_cases c4 : q1 = 0
    · have h := x_ift h c4
      rw [c4] at hcl
      refine xl_catch1 (b := 9) (hp := 12) (e0 := 0) F Z ht (by decide) rfl (by decide) hce hcv hcl ?_
      refine lv_astore_n (lv' := [(3, .ref q9), (0, .ref (X.2.2 10 32)), (1, .int a1), (2, .ref (X.2.2 12 48))]) hx hb dL_roomOf_12 rfl hl (by decide) rfl (fun ls hl => ?_)
      refine lv_iconst (v := 1) hx hb dL_roomOf_13 (by decide) ?_
      rw [x_some h]
      exact xl_iret F hI (Nat.le_of_ble_eq_true rfl) (Nat.le_of_ble_eq_true rfl) dL_roomOf_14
    · have h := x_iff h c4
      by_cases c3 : q1 = 2
      · have h := x_ift h c3
        rw [c3] at hcl
        refine xl_catch2 (b := 9) (hp := 15) (e0 := 0) F Z ht (by decide) rfl (by decide) hce hcv hcl ?_
        refine lv_astore_n (lv' := [(3, .ref q9), (0, .ref (X.2.2 10 32)), (1, .int a1), (2, .ref (X.2.2 12 48))]) hx hb dL_roomOf_15 rfl hl (by decide) rfl (fun ls hl => ?_)
        refine lv_iconst (v := 2) hx hb dL_roomOf_16 (by decide) ?_
        rw [x_some h]
        exact xl_iret F hI (Nat.le_of_ble_eq_true rfl) (Nat.le_of_ble_eq_true rfl) dL_roomOf_17
      · have h := x_iff h c3
        cases h
  · obtain ⟨r5, h6, h⟩ := x_bnd h
    refine x_aci hI (x_runV (rest := [.int (0), .ref (X.2.2 12 48)]) F hI (mX6_roomOf l X _ σ a1 r5 h6) g_L_77 ⟨rfl, hd_X6_roomOf⟩ ⟨by decide, by decide⟩ ⟨rfl, rfl⟩ (x_inO (by decide)) rfl rfl rfl rfl hl.1 rfl (Nat.le_of_ble_eq_true rfl) dL_roomOf_4 ⟨Nat.zero_le _, Nat.zero_le _⟩) (fun H locs hI => ?_)
    refine lv_i2l hx hb dL_roomOf_7 rfl ?_
    refine x_last (x := r5) F hI rfl (by decide) dL_roomOf_8 (fun H locs hI => ?_)
    obtain ⟨τ7, e8⟩ : ∃ z : x_S, z = (x_sh σ 12 (x_hu (σ 12) 48 (Int32.toNatClampNeg (0 : Int32)) r5)) := ⟨_, rfl⟩
    rw [← e8] at hI
    have h := x_let_at h e8
    refine lv_goto (tgt := 18) hx hb dL_roomOf_9 (by decide) ?_
    refine lv_iconst (v := 0) hx hb dL_roomOf_18 (by decide) ?_
    rw [x_some h]
    exact xl_iret F hI (Nat.le_of_ble_eq_true rfl) (Nat.le_of_ble_eq_true rfl) dL_roomOf_19
abbrev rm_L_ticksLeft : Room := { frames := 8, cells := 1, slots := 6, locals := 123 }
def fL_ticksLeft (σ : x_S) (a1 : Int32) : Option (Int32 × x_S) := (x_or (eX6_ticksLeft σ a1) (fun q1 => (if q1 = 0 then some ((1 : Int32), σ) else (if q1 = 2 then some ((2 : Int32), σ) else none))) (Option.bind (fX6_ticksLeft σ a1) fun r5 => x_let (x_sh σ 12 (x_hu (σ 12) 48 (Int32.toNatClampNeg (0 : Int32)) r5)) fun τ7 => some ((0 : Int32), τ7)))
set_option maxHeartbeats 4000000 in
set_option maxRecDepth 100000 in
theorem mL_ticksLeft (l : Launch) (hl0 : l.stackTraces = false) (X : x_T) (sz : Nat) (σ : x_S) (a1 : Int32) (r : Int32 × x_S) (h : fL_ticksLeft σ a1 = some r) : Met l yL_ticksLeft (xl_ws yL_ticksLeft cL_ticksLeft 4 (some .int) [(0, 9, 12, 13), (0, 9, 15, 15)]) rm_L_ticksLeft (x_PcT X σ sz [.ref (X.2.2 10 32), .int a1, .ref (X.2.2 12 48)]) (x_Qi X r.1 r.2 sz) 1 6 (x_A X sz) := by
  refine va_MetW (cc := cL_ticksLeft) (maxL := 4) (ret := (some .int)) (hh := [(0, 9, 12, 13), (0, 9, 15, 15)]) (by decide) rfl ?_
  intro p e s m args below meth c s₁ B hml hv
  obtain ⟨F, Z, ht, hI, rfl, rfl⟩ := xl_begin B hml hv
  replace F : x_F p s m _ meth c cL_ticksLeft 4 RL (some .int) := F
  have hx := F.1
  have hb := F.2.1
  have hml := F.2.2.1
  have hown := F.2.2.2.1
  have hts := F.2.2.2.2.1
  refine x_entry (vs := [.ref (X.2.2 10 32), .int a1, .ref (X.2.2 12 48)]) (n := 4) (Nat.le_of_ble_eq_true rfl) (fun ls hl => ?_)
  replace hl : lv_has ls 4 [(0, .ref (X.2.2 10 32)), (1, .int a1), (2, .ref (X.2.2 12 48))] := hl
  unfold fL_ticksLeft at h
  refine lv_aload_n hx hb dL_ticksLeft_0 rfl (lv_at hl 2 rfl) ?_
  refine lv_iconst (v := 0) hx hb dL_ticksLeft_1 (by decide) ?_
  refine lv_aload_n hx hb dL_ticksLeft_2 rfl (lv_at hl 0 rfl) ?_
  refine lv_iload_n hx hb dL_ticksLeft_3 rfl (lv_at hl 1 rfl) ?_
  rcases x_or_el h with ⟨q1, h2, h⟩ | ⟨-, h⟩
  · refine xl_aci hI (xt_runV (rest := [.int (0), .ref (X.2.2 12 48)]) F Z hI (xX6_ticksLeft l hl0 X _ σ a1 q1 h2) g_L_80 ⟨rfl, hd_X6_ticksLeft⟩ ⟨by decide, by decide⟩ ⟨rfl, rfl⟩ (x_inO (by decide)) rfl rfl rfl rfl hl.1 rfl (Nat.le_of_ble_eq_true rfl) dL_ticksLeft_4 ⟨by decide, by decide⟩) (fun H locs ce q9 hI hce hcv hcl => ?_)
    by_cases c4 : q1 = 0
    · have h := x_ift h c4
      rw [c4] at hcl
      refine xl_catch1 (b := 9) (hp := 12) (e0 := 0) F Z ht (by decide) rfl (by decide) hce hcv hcl ?_
      refine lv_astore_n (lv' := [(3, .ref q9), (0, .ref (X.2.2 10 32)), (1, .int a1), (2, .ref (X.2.2 12 48))]) hx hb dL_ticksLeft_12 rfl hl (by decide) rfl (fun ls hl => ?_)
      refine lv_iconst (v := 1) hx hb dL_ticksLeft_13 (by decide) ?_
      rw [x_some h]
      exact xl_iret F hI (Nat.le_of_ble_eq_true rfl) (Nat.le_of_ble_eq_true rfl) dL_ticksLeft_14
    · have h := x_iff h c4
      by_cases c3 : q1 = 2
      · have h := x_ift h c3
        rw [c3] at hcl
        refine xl_catch2 (b := 9) (hp := 15) (e0 := 0) F Z ht (by decide) rfl (by decide) hce hcv hcl ?_
        refine lv_astore_n (lv' := [(3, .ref q9), (0, .ref (X.2.2 10 32)), (1, .int a1), (2, .ref (X.2.2 12 48))]) hx hb dL_ticksLeft_15 rfl hl (by decide) rfl (fun ls hl => ?_)
        refine lv_iconst (v := 2) hx hb dL_ticksLeft_16 (by decide) ?_
        rw [x_some h]
        exact xl_iret F hI (Nat.le_of_ble_eq_true rfl) (Nat.le_of_ble_eq_true rfl) dL_ticksLeft_17
      · have h := x_iff h c3
        cases h
  · obtain ⟨r5, h6, h⟩ := x_bnd h
    refine x_aci hI (x_runV (rest := [.int (0), .ref (X.2.2 12 48)]) F hI (mX6_ticksLeft l X _ σ a1 r5 h6) g_L_80 ⟨rfl, hd_X6_ticksLeft⟩ ⟨by decide, by decide⟩ ⟨rfl, rfl⟩ (x_inO (by decide)) rfl rfl rfl rfl hl.1 rfl (Nat.le_of_ble_eq_true rfl) dL_ticksLeft_4 ⟨Nat.zero_le _, Nat.zero_le _⟩) (fun H locs hI => ?_)
    refine lv_i2l hx hb dL_ticksLeft_7 rfl ?_
    refine x_last (x := r5) F hI rfl (by decide) dL_ticksLeft_8 (fun H locs hI => ?_)
    obtain ⟨τ7, e8⟩ : ∃ z : x_S, z = (x_sh σ 12 (x_hu (σ 12) 48 (Int32.toNatClampNeg (0 : Int32)) r5)) := ⟨_, rfl⟩
    rw [← e8] at hI
    have h := x_let_at h e8
    refine lv_goto (tgt := 18) hx hb dL_ticksLeft_9 (by decide) ?_
    refine lv_iconst (v := 0) hx hb dL_ticksLeft_18 (by decide) ?_
    rw [x_some h]
    exact xl_iret F hI (Nat.le_of_ble_eq_true rfl) (Nat.le_of_ble_eq_true rfl) dL_ticksLeft_19
abbrev rm_L_ticksToRenewal : Room := { frames := 8, cells := 1, slots := 6, locals := 124 }
def fL_ticksToRenewal (σ : x_S) (a1 : Int32) : Option (Int32 × x_S) := (x_or (eX6_ticksToRenewal σ a1) (fun q1 => (if q1 = 0 then some ((1 : Int32), σ) else (if q1 = 2 then some ((2 : Int32), σ) else none))) (Option.bind (fX6_ticksToRenewal σ a1) fun r5 => x_let (x_sh σ 12 (x_hu (σ 12) 48 (Int32.toNatClampNeg (0 : Int32)) r5)) fun τ7 => some ((0 : Int32), τ7)))
set_option maxHeartbeats 4000000 in
set_option maxRecDepth 100000 in
theorem mL_ticksToRenewal (l : Launch) (hl0 : l.stackTraces = false) (X : x_T) (sz : Nat) (σ : x_S) (a1 : Int32) (r : Int32 × x_S) (h : fL_ticksToRenewal σ a1 = some r) : Met l yL_ticksToRenewal (xl_ws yL_ticksToRenewal cL_ticksToRenewal 4 (some .int) [(0, 9, 12, 13), (0, 9, 15, 15)]) rm_L_ticksToRenewal (x_PcT X σ sz [.ref (X.2.2 10 32), .int a1, .ref (X.2.2 12 48)]) (x_Qi X r.1 r.2 sz) 1 6 (x_A X sz) := by
  refine va_MetW (cc := cL_ticksToRenewal) (maxL := 4) (ret := (some .int)) (hh := [(0, 9, 12, 13), (0, 9, 15, 15)]) (by decide) rfl ?_
  intro p e s m args below meth c s₁ B hml hv
  obtain ⟨F, Z, ht, hI, rfl, rfl⟩ := xl_begin B hml hv
  replace F : x_F p s m _ meth c cL_ticksToRenewal 4 RL (some .int) := F
  have hx := F.1
  have hb := F.2.1
  have hml := F.2.2.1
  have hown := F.2.2.2.1
  have hts := F.2.2.2.2.1
  refine x_entry (vs := [.ref (X.2.2 10 32), .int a1, .ref (X.2.2 12 48)]) (n := 4) (Nat.le_of_ble_eq_true rfl) (fun ls hl => ?_)
  replace hl : lv_has ls 4 [(0, .ref (X.2.2 10 32)), (1, .int a1), (2, .ref (X.2.2 12 48))] := hl
  unfold fL_ticksToRenewal at h
  refine lv_aload_n hx hb dL_ticksToRenewal_0 rfl (lv_at hl 2 rfl) ?_
  refine lv_iconst (v := 0) hx hb dL_ticksToRenewal_1 (by decide) ?_
  refine lv_aload_n hx hb dL_ticksToRenewal_2 rfl (lv_at hl 0 rfl) ?_
  refine lv_iload_n hx hb dL_ticksToRenewal_3 rfl (lv_at hl 1 rfl) ?_
  rcases x_or_el h with ⟨q1, h2, h⟩ | ⟨-, h⟩
  · refine xl_aci hI (xt_runV (rest := [.int (0), .ref (X.2.2 12 48)]) F Z hI (xX6_ticksToRenewal l hl0 X _ σ a1 q1 h2) g_L_83 ⟨rfl, hd_X6_ticksToRenewal⟩ ⟨by decide, by decide⟩ ⟨rfl, rfl⟩ (x_inO (by decide)) rfl rfl rfl rfl hl.1 rfl (Nat.le_of_ble_eq_true rfl) dL_ticksToRenewal_4 ⟨by decide, by decide⟩) (fun H locs ce q9 hI hce hcv hcl => ?_)
    by_cases c4 : q1 = 0
    · have h := x_ift h c4
      rw [c4] at hcl
      refine xl_catch1 (b := 9) (hp := 12) (e0 := 0) F Z ht (by decide) rfl (by decide) hce hcv hcl ?_
      refine lv_astore_n (lv' := [(3, .ref q9), (0, .ref (X.2.2 10 32)), (1, .int a1), (2, .ref (X.2.2 12 48))]) hx hb dL_ticksToRenewal_12 rfl hl (by decide) rfl (fun ls hl => ?_)
      refine lv_iconst (v := 1) hx hb dL_ticksToRenewal_13 (by decide) ?_
      rw [x_some h]
      exact xl_iret F hI (Nat.le_of_ble_eq_true rfl) (Nat.le_of_ble_eq_true rfl) dL_ticksToRenewal_14
    · have h := x_iff h c4
      by_cases c3 : q1 = 2
      · have h := x_ift h c3
        rw [c3] at hcl
        refine xl_catch2 (b := 9) (hp := 15) (e0 := 0) F Z ht (by decide) rfl (by decide) hce hcv hcl ?_
        refine lv_astore_n (lv' := [(3, .ref q9), (0, .ref (X.2.2 10 32)), (1, .int a1), (2, .ref (X.2.2 12 48))]) hx hb dL_ticksToRenewal_15 rfl hl (by decide) rfl (fun ls hl => ?_)
        refine lv_iconst (v := 2) hx hb dL_ticksToRenewal_16 (by decide) ?_
        rw [x_some h]
        exact xl_iret F hI (Nat.le_of_ble_eq_true rfl) (Nat.le_of_ble_eq_true rfl) dL_ticksToRenewal_17
      · have h := x_iff h c3
        cases h
  · obtain ⟨r5, h6, h⟩ := x_bnd h
    refine x_aci hI (x_runV (rest := [.int (0), .ref (X.2.2 12 48)]) F hI (mX6_ticksToRenewal l X _ σ a1 r5 h6) g_L_83 ⟨rfl, hd_X6_ticksToRenewal⟩ ⟨by decide, by decide⟩ ⟨rfl, rfl⟩ (x_inO (by decide)) rfl rfl rfl rfl hl.1 rfl (Nat.le_of_ble_eq_true rfl) dL_ticksToRenewal_4 ⟨Nat.zero_le _, Nat.zero_le _⟩) (fun H locs hI => ?_)
    refine lv_i2l hx hb dL_ticksToRenewal_7 rfl ?_
    refine x_last (x := r5) F hI rfl (by decide) dL_ticksToRenewal_8 (fun H locs hI => ?_)
    obtain ⟨τ7, e8⟩ : ∃ z : x_S, z = (x_sh σ 12 (x_hu (σ 12) 48 (Int32.toNatClampNeg (0 : Int32)) r5)) := ⟨_, rfl⟩
    rw [← e8] at hI
    have h := x_let_at h e8
    refine lv_goto (tgt := 18) hx hb dL_ticksToRenewal_9 (by decide) ?_
    refine lv_iconst (v := 0) hx hb dL_ticksToRenewal_18 (by decide) ?_
    rw [x_some h]
    exact xl_iret F hI (Nat.le_of_ble_eq_true rfl) (Nat.le_of_ble_eq_true rfl) dL_ticksToRenewal_19
abbrev rm_L_isHaunted : Room := { frames := 8, cells := 1, slots := 6, locals := 123 }
def fL_isHaunted (σ : x_S) (a1 : Int32) : Option (Int32 × x_S) := (x_or (eX6_isHaunted σ a1) (fun q1 => (if q1 = 0 then some ((1 : Int32), σ) else none)) (Option.bind (fX6_isHaunted σ a1) fun r4 => (if r4 = 0 then x_let (x_sh σ 12 (x_hu (σ 12) 48 (Int32.toNatClampNeg (0 : Int32)) (0 : Int32))) fun τ7 => some ((0 : Int32), τ7) else x_let (x_sh σ 12 (x_hu (σ 12) 48 (Int32.toNatClampNeg (0 : Int32)) (1 : Int32))) fun τ9 => some ((0 : Int32), τ9))))
set_option maxHeartbeats 4000000 in
set_option maxRecDepth 100000 in
theorem mL_isHaunted (l : Launch) (hl0 : l.stackTraces = false) (X : x_T) (sz : Nat) (σ : x_S) (a1 : Int32) (r : Int32 × x_S) (h : fL_isHaunted σ a1 = some r) : Met l yL_isHaunted (xl_ws yL_isHaunted cL_isHaunted 4 (some .int) [(0, 16, 19, 13)]) rm_L_isHaunted (x_PcT X σ sz [.ref (X.2.2 10 32), .int a1, .ref (X.2.2 12 48)]) (x_Qi X r.1 r.2 sz) 1 6 (x_A X sz) := by
  refine va_MetW (cc := cL_isHaunted) (maxL := 4) (ret := (some .int)) (hh := [(0, 16, 19, 13)]) (by decide) rfl ?_
  intro p e s m args below meth c s₁ B hml hv
  obtain ⟨F, Z, ht, hI, rfl, rfl⟩ := xl_begin B hml hv
  replace F : x_F p s m _ meth c cL_isHaunted 4 RL (some .int) := F
  have hx := F.1
  have hb := F.2.1
  have hml := F.2.2.1
  have hown := F.2.2.2.1
  have hts := F.2.2.2.2.1
  refine x_entry (vs := [.ref (X.2.2 10 32), .int a1, .ref (X.2.2 12 48)]) (n := 4) (Nat.le_of_ble_eq_true rfl) (fun ls hl => ?_)
  replace hl : lv_has ls 4 [(0, .ref (X.2.2 10 32)), (1, .int a1), (2, .ref (X.2.2 12 48))] := hl
  unfold fL_isHaunted at h
  refine lv_aload_n hx hb dL_isHaunted_0 rfl (lv_at hl 2 rfl) ?_
  refine lv_iconst (v := 0) hx hb dL_isHaunted_1 (by decide) ?_
  refine lv_aload_n hx hb dL_isHaunted_2 rfl (lv_at hl 0 rfl) ?_
  refine lv_iload_n hx hb dL_isHaunted_3 rfl (lv_at hl 1 rfl) ?_
  rcases x_or_el h with ⟨q1, h2, h⟩ | ⟨-, h⟩
  · refine xl_aci hI (xt_runV (rest := [.int (0), .ref (X.2.2 12 48)]) F Z hI (xX6_isHaunted l hl0 X _ σ a1 q1 h2) g_L_86 ⟨rfl, hd_X6_isHaunted⟩ ⟨by decide, by decide⟩ ⟨rfl, rfl⟩ (x_inO (by decide)) rfl rfl rfl rfl hl.1 rfl (Nat.le_of_ble_eq_true rfl) dL_isHaunted_4 ⟨by decide, by decide⟩) (fun H locs ce q9 hI hce hcv hcl => ?_)
    by_cases c3 : q1 = 0
    · have h := x_ift h c3
      rw [c3] at hcl
      refine xl_catch1 (b := 16) (hp := 19) (e0 := 0) F Z ht (by decide) rfl (by decide) hce hcv hcl ?_
      refine lv_astore_n (lv' := [(3, .ref q9), (0, .ref (X.2.2 10 32)), (1, .int a1), (2, .ref (X.2.2 12 48))]) hx hb dL_isHaunted_19 rfl hl (by decide) rfl (fun ls hl => ?_)
      refine lv_iconst (v := 1) hx hb dL_isHaunted_20 (by decide) ?_
      rw [x_some h]
      exact xl_iret F hI (Nat.le_of_ble_eq_true rfl) (Nat.le_of_ble_eq_true rfl) dL_isHaunted_21
    · have h := x_iff h c3
      cases h
  · obtain ⟨r4, h5, h⟩ := x_bnd h
    refine x_aci hI (x_runV (rest := [.int (0), .ref (X.2.2 12 48)]) F hI (mX6_isHaunted l X _ σ a1 r4 h5) g_L_86 ⟨rfl, hd_X6_isHaunted⟩ ⟨by decide, by decide⟩ ⟨rfl, rfl⟩ (x_inO (by decide)) rfl rfl rfl rfl hl.1 rfl (Nat.le_of_ble_eq_true rfl) dL_isHaunted_4 ⟨Nat.zero_le _, Nat.zero_le _⟩) (fun H locs hI => ?_)
    refine lv_if_eq (tgt := 14) hx hb dL_isHaunted_7 (by decide) (fun c6 => ?_) (fun c6 => ?_)
    · have h := x_ift h c6
      refine lv_lconst (v := 0) hx hb dL_isHaunted_14 (by decide) ?_
      refine x_last (x := (0 : Int32)) F hI (by decide) (by decide) dL_isHaunted_15 (fun H locs hI => ?_)
      obtain ⟨τ7, e8⟩ : ∃ z : x_S, z = (x_sh σ 12 (x_hu (σ 12) 48 (Int32.toNatClampNeg (0 : Int32)) (0 : Int32))) := ⟨_, rfl⟩
      rw [← e8] at hI
      have h := x_let_at h e8
      refine lv_goto (tgt := 22) hx hb dL_isHaunted_16 (by decide) ?_
      refine lv_iconst (v := 0) hx hb dL_isHaunted_22 (by decide) ?_
      rw [x_some h]
      exact xl_iret F hI (Nat.le_of_ble_eq_true rfl) (Nat.le_of_ble_eq_true rfl) dL_isHaunted_23
    · have h := x_iff h c6
      refine lv_lconst (v := 1) hx hb dL_isHaunted_10 (by decide) ?_
      refine lv_goto (tgt := 15) hx hb dL_isHaunted_11 (by decide) ?_
      refine x_last (x := (1 : Int32)) F hI (by decide) (by decide) dL_isHaunted_15 (fun H locs hI => ?_)
      obtain ⟨τ9, e10⟩ : ∃ z : x_S, z = (x_sh σ 12 (x_hu (σ 12) 48 (Int32.toNatClampNeg (0 : Int32)) (1 : Int32))) := ⟨_, rfl⟩
      rw [← e10] at hI
      have h := x_let_at h e10
      refine lv_goto (tgt := 22) hx hb dL_isHaunted_16 (by decide) ?_
      refine lv_iconst (v := 0) hx hb dL_isHaunted_22 (by decide) ?_
      rw [x_some h]
      exact xl_iret F hI (Nat.le_of_ble_eq_true rfl) (Nat.le_of_ble_eq_true rfl) dL_isHaunted_23
abbrev rm_L_staysOf : Room := { frames := 8, cells := 1, slots := 6, locals := 123 }
def fL_staysOf (σ : x_S) (a1 : Int32) : Option (Int32 × x_S) := (x_or (eX6_staysOf σ a1) (fun q1 => (if q1 = 0 then some ((1 : Int32), σ) else none)) (Option.bind (fX6_staysOf σ a1) fun r4 => x_let (x_sh σ 12 (x_hu (σ 12) 48 (Int32.toNatClampNeg (0 : Int32)) r4)) fun τ6 => some ((0 : Int32), τ6)))
set_option maxHeartbeats 4000000 in
set_option maxRecDepth 100000 in
theorem mL_staysOf (l : Launch) (hl0 : l.stackTraces = false) (X : x_T) (sz : Nat) (σ : x_S) (a1 : Int32) (r : Int32 × x_S) (h : fL_staysOf σ a1 = some r) : Met l yL_staysOf (xl_ws yL_staysOf cL_staysOf 4 (some .int) [(0, 9, 12, 13)]) rm_L_staysOf (x_PcT X σ sz [.ref (X.2.2 10 32), .int a1, .ref (X.2.2 12 48)]) (x_Qi X r.1 r.2 sz) 1 6 (x_A X sz) := by
  refine va_MetW (cc := cL_staysOf) (maxL := 4) (ret := (some .int)) (hh := [(0, 9, 12, 13)]) (by decide) rfl ?_
  intro p e s m args below meth c s₁ B hml hv
  obtain ⟨F, Z, ht, hI, rfl, rfl⟩ := xl_begin B hml hv
  replace F : x_F p s m _ meth c cL_staysOf 4 RL (some .int) := F
  have hx := F.1
  have hb := F.2.1
  have hml := F.2.2.1
  have hown := F.2.2.2.1
  have hts := F.2.2.2.2.1
  refine x_entry (vs := [.ref (X.2.2 10 32), .int a1, .ref (X.2.2 12 48)]) (n := 4) (Nat.le_of_ble_eq_true rfl) (fun ls hl => ?_)
  replace hl : lv_has ls 4 [(0, .ref (X.2.2 10 32)), (1, .int a1), (2, .ref (X.2.2 12 48))] := hl
  unfold fL_staysOf at h
  refine lv_aload_n hx hb dL_staysOf_0 rfl (lv_at hl 2 rfl) ?_
  refine lv_iconst (v := 0) hx hb dL_staysOf_1 (by decide) ?_
  refine lv_aload_n hx hb dL_staysOf_2 rfl (lv_at hl 0 rfl) ?_
  refine lv_iload_n hx hb dL_staysOf_3 rfl (lv_at hl 1 rfl) ?_
  rcases x_or_el h with ⟨q1, h2, h⟩ | ⟨-, h⟩
  · refine xl_aci hI (xt_runV (rest := [.int (0), .ref (X.2.2 12 48)]) F Z hI (xX6_staysOf l hl0 X _ σ a1 q1 h2) g_L_89 ⟨rfl, hd_X6_staysOf⟩ ⟨by decide, by decide⟩ ⟨rfl, rfl⟩ (x_inO (by decide)) rfl rfl rfl rfl hl.1 rfl (Nat.le_of_ble_eq_true rfl) dL_staysOf_4 ⟨by decide, by decide⟩) (fun H locs ce q9 hI hce hcv hcl => ?_)
    by_cases c3 : q1 = 0
    · have h := x_ift h c3
      rw [c3] at hcl
      refine xl_catch1 (b := 9) (hp := 12) (e0 := 0) F Z ht (by decide) rfl (by decide) hce hcv hcl ?_
      refine lv_astore_n (lv' := [(3, .ref q9), (0, .ref (X.2.2 10 32)), (1, .int a1), (2, .ref (X.2.2 12 48))]) hx hb dL_staysOf_12 rfl hl (by decide) rfl (fun ls hl => ?_)
      refine lv_iconst (v := 1) hx hb dL_staysOf_13 (by decide) ?_
      rw [x_some h]
      exact xl_iret F hI (Nat.le_of_ble_eq_true rfl) (Nat.le_of_ble_eq_true rfl) dL_staysOf_14
    · have h := x_iff h c3
      cases h
  · obtain ⟨r4, h5, h⟩ := x_bnd h
    refine x_aci hI (x_runV (rest := [.int (0), .ref (X.2.2 12 48)]) F hI (mX6_staysOf l X _ σ a1 r4 h5) g_L_89 ⟨rfl, hd_X6_staysOf⟩ ⟨by decide, by decide⟩ ⟨rfl, rfl⟩ (x_inO (by decide)) rfl rfl rfl rfl hl.1 rfl (Nat.le_of_ble_eq_true rfl) dL_staysOf_4 ⟨Nat.zero_le _, Nat.zero_le _⟩) (fun H locs hI => ?_)
    refine lv_i2l hx hb dL_staysOf_7 rfl ?_
    refine x_last (x := r4) F hI rfl (by decide) dL_staysOf_8 (fun H locs hI => ?_)
    obtain ⟨τ6, e7⟩ : ∃ z : x_S, z = (x_sh σ 12 (x_hu (σ 12) 48 (Int32.toNatClampNeg (0 : Int32)) r4)) := ⟨_, rfl⟩
    rw [← e7] at hI
    have h := x_let_at h e7
    refine lv_goto (tgt := 15) hx hb dL_staysOf_9 (by decide) ?_
    refine lv_iconst (v := 0) hx hb dL_staysOf_15 (by decide) ?_
    rw [x_some h]
    exact xl_iret F hI (Nat.le_of_ble_eq_true rfl) (Nat.le_of_ble_eq_true rfl) dL_staysOf_16
abbrev rm_L_stateOf : Room := { frames := 8, cells := 1, slots := 6, locals := 123 }
def fL_stateOf (σ : x_S) (a1 : Int32) : Option (Int32 × x_S) := (x_or (eX6_stateOf σ a1) (fun q1 => (if q1 = 0 then some ((1 : Int32), σ) else none)) (Option.bind (fX6_stateOf σ a1) fun r4 => x_let (x_sh σ 12 (x_hu (σ 12) 48 (Int32.toNatClampNeg (0 : Int32)) r4)) fun τ6 => some ((0 : Int32), τ6)))
set_option maxHeartbeats 4000000 in
set_option maxRecDepth 100000 in
theorem mL_stateOf (l : Launch) (hl0 : l.stackTraces = false) (X : x_T) (sz : Nat) (σ : x_S) (a1 : Int32) (r : Int32 × x_S) (h : fL_stateOf σ a1 = some r) : Met l yL_stateOf (xl_ws yL_stateOf cL_stateOf 4 (some .int) [(0, 9, 12, 13)]) rm_L_stateOf (x_PcT X σ sz [.ref (X.2.2 10 32), .int a1, .ref (X.2.2 12 48)]) (x_Qi X r.1 r.2 sz) 1 6 (x_A X sz) := by
  refine va_MetW (cc := cL_stateOf) (maxL := 4) (ret := (some .int)) (hh := [(0, 9, 12, 13)]) (by decide) rfl ?_
  intro p e s m args below meth c s₁ B hml hv
  obtain ⟨F, Z, ht, hI, rfl, rfl⟩ := xl_begin B hml hv
  replace F : x_F p s m _ meth c cL_stateOf 4 RL (some .int) := F
  have hx := F.1
  have hb := F.2.1
  have hml := F.2.2.1
  have hown := F.2.2.2.1
  have hts := F.2.2.2.2.1
  refine x_entry (vs := [.ref (X.2.2 10 32), .int a1, .ref (X.2.2 12 48)]) (n := 4) (Nat.le_of_ble_eq_true rfl) (fun ls hl => ?_)
  replace hl : lv_has ls 4 [(0, .ref (X.2.2 10 32)), (1, .int a1), (2, .ref (X.2.2 12 48))] := hl
  unfold fL_stateOf at h
  refine lv_aload_n hx hb dL_stateOf_0 rfl (lv_at hl 2 rfl) ?_
  refine lv_iconst (v := 0) hx hb dL_stateOf_1 (by decide) ?_
  refine lv_aload_n hx hb dL_stateOf_2 rfl (lv_at hl 0 rfl) ?_
  refine lv_iload_n hx hb dL_stateOf_3 rfl (lv_at hl 1 rfl) ?_
  rcases x_or_el h with ⟨q1, h2, h⟩ | ⟨-, h⟩
  · refine xl_aci hI (xt_runV (rest := [.int (0), .ref (X.2.2 12 48)]) F Z hI (xX6_stateOf l hl0 X _ σ a1 q1 h2) g_L_92 ⟨rfl, hd_X6_stateOf⟩ ⟨by decide, by decide⟩ ⟨rfl, rfl⟩ (x_inO (by decide)) rfl rfl rfl rfl hl.1 rfl (Nat.le_of_ble_eq_true rfl) dL_stateOf_4 ⟨by decide, by decide⟩) (fun H locs ce q9 hI hce hcv hcl => ?_)
    by_cases c3 : q1 = 0
    · have h := x_ift h c3
      rw [c3] at hcl
      refine xl_catch1 (b := 9) (hp := 12) (e0 := 0) F Z ht (by decide) rfl (by decide) hce hcv hcl ?_
      refine lv_astore_n (lv' := [(3, .ref q9), (0, .ref (X.2.2 10 32)), (1, .int a1), (2, .ref (X.2.2 12 48))]) hx hb dL_stateOf_12 rfl hl (by decide) rfl (fun ls hl => ?_)
      refine lv_iconst (v := 1) hx hb dL_stateOf_13 (by decide) ?_
      rw [x_some h]
      exact xl_iret F hI (Nat.le_of_ble_eq_true rfl) (Nat.le_of_ble_eq_true rfl) dL_stateOf_14
    · have h := x_iff h c3
      cases h
  · obtain ⟨r4, h5, h⟩ := x_bnd h
    refine x_aci hI (x_runV (rest := [.int (0), .ref (X.2.2 12 48)]) F hI (mX6_stateOf l X _ σ a1 r4 h5) g_L_92 ⟨rfl, hd_X6_stateOf⟩ ⟨by decide, by decide⟩ ⟨rfl, rfl⟩ (x_inO (by decide)) rfl rfl rfl rfl hl.1 rfl (Nat.le_of_ble_eq_true rfl) dL_stateOf_4 ⟨Nat.zero_le _, Nat.zero_le _⟩) (fun H locs hI => ?_)
    refine lv_i2l hx hb dL_stateOf_7 rfl ?_
    refine x_last (x := r4) F hI rfl (by decide) dL_stateOf_8 (fun H locs hI => ?_)
    obtain ⟨τ6, e7⟩ : ∃ z : x_S, z = (x_sh σ 12 (x_hu (σ 12) 48 (Int32.toNatClampNeg (0 : Int32)) r4)) := ⟨_, rfl⟩
    rw [← e7] at hI
    have h := x_let_at h e7
    refine lv_goto (tgt := 15) hx hb dL_stateOf_9 (by decide) ?_
    refine lv_iconst (v := 0) hx hb dL_stateOf_15 (by decide) ?_
    rw [x_some h]
    exact xl_iret F hI (Nat.le_of_ble_eq_true rfl) (Nat.le_of_ble_eq_true rfl) dL_stateOf_16
abbrev rm_L_guestOf : Room := { frames := 8, cells := 1, slots := 6, locals := 123 }
def fL_guestOf (σ : x_S) (a1 : Int32) : Option (Int32 × x_S) := (x_or (eX6_guestOf σ a1) (fun q1 => (if q1 = 0 then some ((1 : Int32), σ) else (if q1 = 2 then some ((2 : Int32), σ) else none))) (Option.bind (fX6_guestOf σ a1) fun r5 => x_let (x_sh σ 12 (x_hu (σ 12) 48 (Int32.toNatClampNeg (0 : Int32)) r5)) fun τ7 => some ((0 : Int32), τ7)))
set_option maxHeartbeats 4000000 in
set_option maxRecDepth 100000 in
theorem mL_guestOf (l : Launch) (hl0 : l.stackTraces = false) (X : x_T) (sz : Nat) (σ : x_S) (a1 : Int32) (r : Int32 × x_S) (h : fL_guestOf σ a1 = some r) : Met l yL_guestOf (xl_ws yL_guestOf cL_guestOf 4 (some .int) [(0, 9, 12, 13), (0, 9, 15, 15)]) rm_L_guestOf (x_PcT X σ sz [.ref (X.2.2 10 32), .int a1, .ref (X.2.2 12 48)]) (x_Qi X r.1 r.2 sz) 1 6 (x_A X sz) := by
  refine va_MetW (cc := cL_guestOf) (maxL := 4) (ret := (some .int)) (hh := [(0, 9, 12, 13), (0, 9, 15, 15)]) (by decide) rfl ?_
  intro p e s m args below meth c s₁ B hml hv
  obtain ⟨F, Z, ht, hI, rfl, rfl⟩ := xl_begin B hml hv
  replace F : x_F p s m _ meth c cL_guestOf 4 RL (some .int) := F
  have hx := F.1
  have hb := F.2.1
  have hml := F.2.2.1
  have hown := F.2.2.2.1
  have hts := F.2.2.2.2.1
  refine x_entry (vs := [.ref (X.2.2 10 32), .int a1, .ref (X.2.2 12 48)]) (n := 4) (Nat.le_of_ble_eq_true rfl) (fun ls hl => ?_)
  replace hl : lv_has ls 4 [(0, .ref (X.2.2 10 32)), (1, .int a1), (2, .ref (X.2.2 12 48))] := hl
  unfold fL_guestOf at h
  refine lv_aload_n hx hb dL_guestOf_0 rfl (lv_at hl 2 rfl) ?_
  refine lv_iconst (v := 0) hx hb dL_guestOf_1 (by decide) ?_
  refine lv_aload_n hx hb dL_guestOf_2 rfl (lv_at hl 0 rfl) ?_
  refine lv_iload_n hx hb dL_guestOf_3 rfl (lv_at hl 1 rfl) ?_
  rcases x_or_el h with ⟨q1, h2, h⟩ | ⟨-, h⟩
  · refine xl_aci hI (xt_runV (rest := [.int (0), .ref (X.2.2 12 48)]) F Z hI (xX6_guestOf l hl0 X _ σ a1 q1 h2) g_L_95 ⟨rfl, hd_X6_guestOf⟩ ⟨by decide, by decide⟩ ⟨rfl, rfl⟩ (x_inO (by decide)) rfl rfl rfl rfl hl.1 rfl (Nat.le_of_ble_eq_true rfl) dL_guestOf_4 ⟨by decide, by decide⟩) (fun H locs ce q9 hI hce hcv hcl => ?_)
    by_cases c4 : q1 = 0
    · have h := x_ift h c4
      rw [c4] at hcl
      refine xl_catch1 (b := 9) (hp := 12) (e0 := 0) F Z ht (by decide) rfl (by decide) hce hcv hcl ?_
      refine lv_astore_n (lv' := [(3, .ref q9), (0, .ref (X.2.2 10 32)), (1, .int a1), (2, .ref (X.2.2 12 48))]) hx hb dL_guestOf_12 rfl hl (by decide) rfl (fun ls hl => ?_)
      refine lv_iconst (v := 1) hx hb dL_guestOf_13 (by decide) ?_
      rw [x_some h]
      exact xl_iret F hI (Nat.le_of_ble_eq_true rfl) (Nat.le_of_ble_eq_true rfl) dL_guestOf_14
    · have h := x_iff h c4
      by_cases c3 : q1 = 2
      · have h := x_ift h c3
        rw [c3] at hcl
        refine xl_catch2 (b := 9) (hp := 15) (e0 := 0) F Z ht (by decide) rfl (by decide) hce hcv hcl ?_
        refine lv_astore_n (lv' := [(3, .ref q9), (0, .ref (X.2.2 10 32)), (1, .int a1), (2, .ref (X.2.2 12 48))]) hx hb dL_guestOf_15 rfl hl (by decide) rfl (fun ls hl => ?_)
        refine lv_iconst (v := 2) hx hb dL_guestOf_16 (by decide) ?_
        rw [x_some h]
        exact xl_iret F hI (Nat.le_of_ble_eq_true rfl) (Nat.le_of_ble_eq_true rfl) dL_guestOf_17
      · have h := x_iff h c3
        cases h
  · obtain ⟨r5, h6, h⟩ := x_bnd h
    refine x_aci hI (x_runV (rest := [.int (0), .ref (X.2.2 12 48)]) F hI (mX6_guestOf l X _ σ a1 r5 h6) g_L_95 ⟨rfl, hd_X6_guestOf⟩ ⟨by decide, by decide⟩ ⟨rfl, rfl⟩ (x_inO (by decide)) rfl rfl rfl rfl hl.1 rfl (Nat.le_of_ble_eq_true rfl) dL_guestOf_4 ⟨Nat.zero_le _, Nat.zero_le _⟩) (fun H locs hI => ?_)
    refine lv_i2l hx hb dL_guestOf_7 rfl ?_
    refine x_last (x := r5) F hI rfl (by decide) dL_guestOf_8 (fun H locs hI => ?_)
    obtain ⟨τ7, e8⟩ : ∃ z : x_S, z = (x_sh σ 12 (x_hu (σ 12) 48 (Int32.toNatClampNeg (0 : Int32)) r5)) := ⟨_, rfl⟩
    rw [← e8] at hI
    have h := x_let_at h e8
    refine lv_goto (tgt := 18) hx hb dL_guestOf_9 (by decide) ?_
    refine lv_iconst (v := 0) hx hb dL_guestOf_18 (by decide) ?_
    rw [x_some h]
    exact xl_iret F hI (Nat.le_of_ble_eq_true rfl) (Nat.le_of_ble_eq_true rfl) dL_guestOf_19
abbrev rm_L_ticksOf : Room := { frames := 8, cells := 1, slots := 6, locals := 123 }
def fL_ticksOf (σ : x_S) (a1 : Int32) : Option (Int32 × x_S) := (x_or (eX6_ticksOf σ a1) (fun q1 => (if q1 = 0 then some ((1 : Int32), σ) else (if q1 = 2 then some ((2 : Int32), σ) else none))) (Option.bind (fX6_ticksOf σ a1) fun r5 => x_let (x_sh σ 12 (x_hu (σ 12) 48 (Int32.toNatClampNeg (0 : Int32)) r5)) fun τ7 => some ((0 : Int32), τ7)))
set_option maxHeartbeats 4000000 in
set_option maxRecDepth 100000 in
theorem mL_ticksOf (l : Launch) (hl0 : l.stackTraces = false) (X : x_T) (sz : Nat) (σ : x_S) (a1 : Int32) (r : Int32 × x_S) (h : fL_ticksOf σ a1 = some r) : Met l yL_ticksOf (xl_ws yL_ticksOf cL_ticksOf 4 (some .int) [(0, 9, 12, 13), (0, 9, 15, 15)]) rm_L_ticksOf (x_PcT X σ sz [.ref (X.2.2 10 32), .int a1, .ref (X.2.2 12 48)]) (x_Qi X r.1 r.2 sz) 1 6 (x_A X sz) := by
  refine va_MetW (cc := cL_ticksOf) (maxL := 4) (ret := (some .int)) (hh := [(0, 9, 12, 13), (0, 9, 15, 15)]) (by decide) rfl ?_
  intro p e s m args below meth c s₁ B hml hv
  obtain ⟨F, Z, ht, hI, rfl, rfl⟩ := xl_begin B hml hv
  replace F : x_F p s m _ meth c cL_ticksOf 4 RL (some .int) := F
  have hx := F.1
  have hb := F.2.1
  have hml := F.2.2.1
  have hown := F.2.2.2.1
  have hts := F.2.2.2.2.1
  refine x_entry (vs := [.ref (X.2.2 10 32), .int a1, .ref (X.2.2 12 48)]) (n := 4) (Nat.le_of_ble_eq_true rfl) (fun ls hl => ?_)
  replace hl : lv_has ls 4 [(0, .ref (X.2.2 10 32)), (1, .int a1), (2, .ref (X.2.2 12 48))] := hl
  unfold fL_ticksOf at h
  refine lv_aload_n hx hb dL_ticksOf_0 rfl (lv_at hl 2 rfl) ?_
  refine lv_iconst (v := 0) hx hb dL_ticksOf_1 (by decide) ?_
  refine lv_aload_n hx hb dL_ticksOf_2 rfl (lv_at hl 0 rfl) ?_
  refine lv_iload_n hx hb dL_ticksOf_3 rfl (lv_at hl 1 rfl) ?_
  rcases x_or_el h with ⟨q1, h2, h⟩ | ⟨-, h⟩
  · refine xl_aci hI (xt_runV (rest := [.int (0), .ref (X.2.2 12 48)]) F Z hI (xX6_ticksOf l hl0 X _ σ a1 q1 h2) g_L_98 ⟨rfl, hd_X6_ticksOf⟩ ⟨by decide, by decide⟩ ⟨rfl, rfl⟩ (x_inO (by decide)) rfl rfl rfl rfl hl.1 rfl (Nat.le_of_ble_eq_true rfl) dL_ticksOf_4 ⟨by decide, by decide⟩) (fun H locs ce q9 hI hce hcv hcl => ?_)
    by_cases c4 : q1 = 0
    · have h := x_ift h c4
      rw [c4] at hcl
      refine xl_catch1 (b := 9) (hp := 12) (e0 := 0) F Z ht (by decide) rfl (by decide) hce hcv hcl ?_
      refine lv_astore_n (lv' := [(3, .ref q9), (0, .ref (X.2.2 10 32)), (1, .int a1), (2, .ref (X.2.2 12 48))]) hx hb dL_ticksOf_12 rfl hl (by decide) rfl (fun ls hl => ?_)
      refine lv_iconst (v := 1) hx hb dL_ticksOf_13 (by decide) ?_
      rw [x_some h]
      exact xl_iret F hI (Nat.le_of_ble_eq_true rfl) (Nat.le_of_ble_eq_true rfl) dL_ticksOf_14
    · have h := x_iff h c4
      by_cases c3 : q1 = 2
      · have h := x_ift h c3
        rw [c3] at hcl
        refine xl_catch2 (b := 9) (hp := 15) (e0 := 0) F Z ht (by decide) rfl (by decide) hce hcv hcl ?_
        refine lv_astore_n (lv' := [(3, .ref q9), (0, .ref (X.2.2 10 32)), (1, .int a1), (2, .ref (X.2.2 12 48))]) hx hb dL_ticksOf_15 rfl hl (by decide) rfl (fun ls hl => ?_)
        refine lv_iconst (v := 2) hx hb dL_ticksOf_16 (by decide) ?_
        rw [x_some h]
        exact xl_iret F hI (Nat.le_of_ble_eq_true rfl) (Nat.le_of_ble_eq_true rfl) dL_ticksOf_17
      · have h := x_iff h c3
        cases h
  · obtain ⟨r5, h6, h⟩ := x_bnd h
    refine x_aci hI (x_runV (rest := [.int (0), .ref (X.2.2 12 48)]) F hI (mX6_ticksOf l X _ σ a1 r5 h6) g_L_98 ⟨rfl, hd_X6_ticksOf⟩ ⟨by decide, by decide⟩ ⟨rfl, rfl⟩ (x_inO (by decide)) rfl rfl rfl rfl hl.1 rfl (Nat.le_of_ble_eq_true rfl) dL_ticksOf_4 ⟨Nat.zero_le _, Nat.zero_le _⟩) (fun H locs hI => ?_)
    refine lv_i2l hx hb dL_ticksOf_7 rfl ?_
    refine x_last (x := r5) F hI rfl (by decide) dL_ticksOf_8 (fun H locs hI => ?_)
    obtain ⟨τ7, e8⟩ : ∃ z : x_S, z = (x_sh σ 12 (x_hu (σ 12) 48 (Int32.toNatClampNeg (0 : Int32)) r5)) := ⟨_, rfl⟩
    rw [← e8] at hI
    have h := x_let_at h e8
    refine lv_goto (tgt := 18) hx hb dL_ticksOf_9 (by decide) ?_
    refine lv_iconst (v := 0) hx hb dL_ticksOf_18 (by decide) ?_
    rw [x_some h]
    exact xl_iret F hI (Nat.le_of_ble_eq_true rfl) (Nat.le_of_ble_eq_true rfl) dL_ticksOf_19
abbrev rm_L_reservedFor : Room := { frames := 8, cells := 1, slots := 6, locals := 123 }
def fL_reservedFor (σ : x_S) (a1 : Int32) : Option (Int32 × x_S) := (x_or (eX6_reservedFor σ a1) (fun q1 => (if q1 = 0 then some ((1 : Int32), σ) else (if q1 = 2 then some ((2 : Int32), σ) else none))) (Option.bind (fX6_reservedFor σ a1) fun r5 => x_let (x_sh σ 12 (x_hu (σ 12) 48 (Int32.toNatClampNeg (0 : Int32)) r5)) fun τ7 => some ((0 : Int32), τ7)))
set_option maxHeartbeats 4000000 in
set_option maxRecDepth 100000 in
theorem mL_reservedFor (l : Launch) (hl0 : l.stackTraces = false) (X : x_T) (sz : Nat) (σ : x_S) (a1 : Int32) (r : Int32 × x_S) (h : fL_reservedFor σ a1 = some r) : Met l yL_reservedFor (xl_ws yL_reservedFor cL_reservedFor 4 (some .int) [(0, 9, 12, 13), (0, 9, 15, 15)]) rm_L_reservedFor (x_PcT X σ sz [.ref (X.2.2 10 32), .int a1, .ref (X.2.2 12 48)]) (x_Qi X r.1 r.2 sz) 1 6 (x_A X sz) := by
  refine va_MetW (cc := cL_reservedFor) (maxL := 4) (ret := (some .int)) (hh := [(0, 9, 12, 13), (0, 9, 15, 15)]) (by decide) rfl ?_
  intro p e s m args below meth c s₁ B hml hv
  obtain ⟨F, Z, ht, hI, rfl, rfl⟩ := xl_begin B hml hv
  replace F : x_F p s m _ meth c cL_reservedFor 4 RL (some .int) := F
  have hx := F.1
  have hb := F.2.1
  have hml := F.2.2.1
  have hown := F.2.2.2.1
  have hts := F.2.2.2.2.1
  refine x_entry (vs := [.ref (X.2.2 10 32), .int a1, .ref (X.2.2 12 48)]) (n := 4) (Nat.le_of_ble_eq_true rfl) (fun ls hl => ?_)
  replace hl : lv_has ls 4 [(0, .ref (X.2.2 10 32)), (1, .int a1), (2, .ref (X.2.2 12 48))] := hl
  unfold fL_reservedFor at h
  refine lv_aload_n hx hb dL_reservedFor_0 rfl (lv_at hl 2 rfl) ?_
  refine lv_iconst (v := 0) hx hb dL_reservedFor_1 (by decide) ?_
  refine lv_aload_n hx hb dL_reservedFor_2 rfl (lv_at hl 0 rfl) ?_
  refine lv_iload_n hx hb dL_reservedFor_3 rfl (lv_at hl 1 rfl) ?_
  rcases x_or_el h with ⟨q1, h2, h⟩ | ⟨-, h⟩
  · refine xl_aci hI (xt_runV (rest := [.int (0), .ref (X.2.2 12 48)]) F Z hI (xX6_reservedFor l hl0 X _ σ a1 q1 h2) g_L_101 ⟨rfl, hd_X6_reservedFor⟩ ⟨by decide, by decide⟩ ⟨rfl, rfl⟩ (x_inO (by decide)) rfl rfl rfl rfl hl.1 rfl (Nat.le_of_ble_eq_true rfl) dL_reservedFor_4 ⟨by decide, by decide⟩) (fun H locs ce q9 hI hce hcv hcl => ?_)
    by_cases c4 : q1 = 0
    · have h := x_ift h c4
      rw [c4] at hcl
      refine xl_catch1 (b := 9) (hp := 12) (e0 := 0) F Z ht (by decide) rfl (by decide) hce hcv hcl ?_
      refine lv_astore_n (lv' := [(3, .ref q9), (0, .ref (X.2.2 10 32)), (1, .int a1), (2, .ref (X.2.2 12 48))]) hx hb dL_reservedFor_12 rfl hl (by decide) rfl (fun ls hl => ?_)
      refine lv_iconst (v := 1) hx hb dL_reservedFor_13 (by decide) ?_
      rw [x_some h]
      exact xl_iret F hI (Nat.le_of_ble_eq_true rfl) (Nat.le_of_ble_eq_true rfl) dL_reservedFor_14
    · have h := x_iff h c4
      by_cases c3 : q1 = 2
      · have h := x_ift h c3
        rw [c3] at hcl
        refine xl_catch2 (b := 9) (hp := 15) (e0 := 0) F Z ht (by decide) rfl (by decide) hce hcv hcl ?_
        refine lv_astore_n (lv' := [(3, .ref q9), (0, .ref (X.2.2 10 32)), (1, .int a1), (2, .ref (X.2.2 12 48))]) hx hb dL_reservedFor_15 rfl hl (by decide) rfl (fun ls hl => ?_)
        refine lv_iconst (v := 2) hx hb dL_reservedFor_16 (by decide) ?_
        rw [x_some h]
        exact xl_iret F hI (Nat.le_of_ble_eq_true rfl) (Nat.le_of_ble_eq_true rfl) dL_reservedFor_17
      · have h := x_iff h c3
        cases h
  · obtain ⟨r5, h6, h⟩ := x_bnd h
    refine x_aci hI (x_runV (rest := [.int (0), .ref (X.2.2 12 48)]) F hI (mX6_reservedFor l X _ σ a1 r5 h6) g_L_101 ⟨rfl, hd_X6_reservedFor⟩ ⟨by decide, by decide⟩ ⟨rfl, rfl⟩ (x_inO (by decide)) rfl rfl rfl rfl hl.1 rfl (Nat.le_of_ble_eq_true rfl) dL_reservedFor_4 ⟨Nat.zero_le _, Nat.zero_le _⟩) (fun H locs hI => ?_)
    refine lv_i2l hx hb dL_reservedFor_7 rfl ?_
    refine x_last (x := r5) F hI rfl (by decide) dL_reservedFor_8 (fun H locs hI => ?_)
    obtain ⟨τ7, e8⟩ : ∃ z : x_S, z = (x_sh σ 12 (x_hu (σ 12) 48 (Int32.toNatClampNeg (0 : Int32)) r5)) := ⟨_, rfl⟩
    rw [← e8] at hI
    have h := x_let_at h e8
    refine lv_goto (tgt := 18) hx hb dL_reservedFor_9 (by decide) ?_
    refine lv_iconst (v := 0) hx hb dL_reservedFor_18 (by decide) ?_
    rw [x_some h]
    exact xl_iret F hI (Nat.le_of_ble_eq_true rfl) (Nat.le_of_ble_eq_true rfl) dL_reservedFor_19
abbrev rm_L_hasGhost : Room := { frames := 8, cells := 1, slots := 6, locals := 123 }
def fL_hasGhost (σ : x_S) (a1 : Int32) : Option (Int32 × x_S) := (x_or (eX6_hasGhost σ a1) (fun q1 => (if q1 = 0 then some ((1 : Int32), σ) else none)) (Option.bind (fX6_hasGhost σ a1) fun r4 => (if r4 = 0 then x_let (x_sh σ 12 (x_hu (σ 12) 48 (Int32.toNatClampNeg (0 : Int32)) (0 : Int32))) fun τ7 => some ((0 : Int32), τ7) else x_let (x_sh σ 12 (x_hu (σ 12) 48 (Int32.toNatClampNeg (0 : Int32)) (1 : Int32))) fun τ9 => some ((0 : Int32), τ9))))
set_option maxHeartbeats 4000000 in
set_option maxRecDepth 100000 in
theorem mL_hasGhost (l : Launch) (hl0 : l.stackTraces = false) (X : x_T) (sz : Nat) (σ : x_S) (a1 : Int32) (r : Int32 × x_S) (h : fL_hasGhost σ a1 = some r) : Met l yL_hasGhost (xl_ws yL_hasGhost cL_hasGhost 4 (some .int) [(0, 16, 19, 13)]) rm_L_hasGhost (x_PcT X σ sz [.ref (X.2.2 10 32), .int a1, .ref (X.2.2 12 48)]) (x_Qi X r.1 r.2 sz) 1 6 (x_A X sz) := by
  refine va_MetW (cc := cL_hasGhost) (maxL := 4) (ret := (some .int)) (hh := [(0, 16, 19, 13)]) (by decide) rfl ?_
  intro p e s m args below meth c s₁ B hml hv
  obtain ⟨F, Z, ht, hI, rfl, rfl⟩ := xl_begin B hml hv
  replace F : x_F p s m _ meth c cL_hasGhost 4 RL (some .int) := F
  have hx := F.1
  have hb := F.2.1
  have hml := F.2.2.1
  have hown := F.2.2.2.1
  have hts := F.2.2.2.2.1
  refine x_entry (vs := [.ref (X.2.2 10 32), .int a1, .ref (X.2.2 12 48)]) (n := 4) (Nat.le_of_ble_eq_true rfl) (fun ls hl => ?_)
  replace hl : lv_has ls 4 [(0, .ref (X.2.2 10 32)), (1, .int a1), (2, .ref (X.2.2 12 48))] := hl
  unfold fL_hasGhost at h
  refine lv_aload_n hx hb dL_hasGhost_0 rfl (lv_at hl 2 rfl) ?_
  refine lv_iconst (v := 0) hx hb dL_hasGhost_1 (by decide) ?_
  refine lv_aload_n hx hb dL_hasGhost_2 rfl (lv_at hl 0 rfl) ?_
  refine lv_iload_n hx hb dL_hasGhost_3 rfl (lv_at hl 1 rfl) ?_
  rcases x_or_el h with ⟨q1, h2, h⟩ | ⟨-, h⟩
  · refine xl_aci hI (xt_runV (rest := [.int (0), .ref (X.2.2 12 48)]) F Z hI (xX6_hasGhost l hl0 X _ σ a1 q1 h2) g_L_104 ⟨rfl, hd_X6_hasGhost⟩ ⟨by decide, by decide⟩ ⟨rfl, rfl⟩ (x_inO (by decide)) rfl rfl rfl rfl hl.1 rfl (Nat.le_of_ble_eq_true rfl) dL_hasGhost_4 ⟨by decide, by decide⟩) (fun H locs ce q9 hI hce hcv hcl => ?_)
    by_cases c3 : q1 = 0
    · have h := x_ift h c3
      rw [c3] at hcl
      refine xl_catch1 (b := 16) (hp := 19) (e0 := 0) F Z ht (by decide) rfl (by decide) hce hcv hcl ?_
      refine lv_astore_n (lv' := [(3, .ref q9), (0, .ref (X.2.2 10 32)), (1, .int a1), (2, .ref (X.2.2 12 48))]) hx hb dL_hasGhost_19 rfl hl (by decide) rfl (fun ls hl => ?_)
      refine lv_iconst (v := 1) hx hb dL_hasGhost_20 (by decide) ?_
      rw [x_some h]
      exact xl_iret F hI (Nat.le_of_ble_eq_true rfl) (Nat.le_of_ble_eq_true rfl) dL_hasGhost_21
    · have h := x_iff h c3
      cases h
  · obtain ⟨r4, h5, h⟩ := x_bnd h
    refine x_aci hI (x_runV (rest := [.int (0), .ref (X.2.2 12 48)]) F hI (mX6_hasGhost l X _ σ a1 r4 h5) g_L_104 ⟨rfl, hd_X6_hasGhost⟩ ⟨by decide, by decide⟩ ⟨rfl, rfl⟩ (x_inO (by decide)) rfl rfl rfl rfl hl.1 rfl (Nat.le_of_ble_eq_true rfl) dL_hasGhost_4 ⟨Nat.zero_le _, Nat.zero_le _⟩) (fun H locs hI => ?_)
    refine lv_if_eq (tgt := 14) hx hb dL_hasGhost_7 (by decide) (fun c6 => ?_) (fun c6 => ?_)
    · have h := x_ift h c6
      refine lv_lconst (v := 0) hx hb dL_hasGhost_14 (by decide) ?_
      refine x_last (x := (0 : Int32)) F hI (by decide) (by decide) dL_hasGhost_15 (fun H locs hI => ?_)
      obtain ⟨τ7, e8⟩ : ∃ z : x_S, z = (x_sh σ 12 (x_hu (σ 12) 48 (Int32.toNatClampNeg (0 : Int32)) (0 : Int32))) := ⟨_, rfl⟩
      rw [← e8] at hI
      have h := x_let_at h e8
      refine lv_goto (tgt := 22) hx hb dL_hasGhost_16 (by decide) ?_
      refine lv_iconst (v := 0) hx hb dL_hasGhost_22 (by decide) ?_
      rw [x_some h]
      exact xl_iret F hI (Nat.le_of_ble_eq_true rfl) (Nat.le_of_ble_eq_true rfl) dL_hasGhost_23
    · have h := x_iff h c6
      refine lv_lconst (v := 1) hx hb dL_hasGhost_10 (by decide) ?_
      refine lv_goto (tgt := 15) hx hb dL_hasGhost_11 (by decide) ?_
      refine x_last (x := (1 : Int32)) F hI (by decide) (by decide) dL_hasGhost_15 (fun H locs hI => ?_)
      obtain ⟨τ9, e10⟩ : ∃ z : x_S, z = (x_sh σ 12 (x_hu (σ 12) 48 (Int32.toNatClampNeg (0 : Int32)) (1 : Int32))) := ⟨_, rfl⟩
      rw [← e10] at hI
      have h := x_let_at h e10
      refine lv_goto (tgt := 22) hx hb dL_hasGhost_16 (by decide) ?_
      refine lv_iconst (v := 0) hx hb dL_hasGhost_22 (by decide) ?_
      rw [x_some h]
      exact xl_iret F hI (Nat.le_of_ble_eq_true rfl) (Nat.le_of_ble_eq_true rfl) dL_hasGhost_23
abbrev rm_L_roomFor : Room := { frames := 8, cells := 1, slots := 6, locals := 124 }
def fL_roomFor (σ : x_S) (a1 : Int32) : Option (Int32 × x_S) := (x_or (eX6_roomFor σ a1) (fun q1 => (if q1 = 0 then some ((1 : Int32), σ) else (if q1 = 2 then some ((2 : Int32), σ) else none))) (Option.bind (fX6_roomFor σ a1) fun r5 => x_let (x_sh σ 12 (x_hu (σ 12) 48 (Int32.toNatClampNeg (0 : Int32)) r5)) fun τ7 => some ((0 : Int32), τ7)))
set_option maxHeartbeats 4000000 in
set_option maxRecDepth 100000 in
theorem mL_roomFor (l : Launch) (hl0 : l.stackTraces = false) (X : x_T) (sz : Nat) (σ : x_S) (a1 : Int32) (r : Int32 × x_S) (h : fL_roomFor σ a1 = some r) : Met l yL_roomFor (xl_ws yL_roomFor cL_roomFor 4 (some .int) [(0, 9, 12, 13), (0, 9, 15, 15)]) rm_L_roomFor (x_PcT X σ sz [.ref (X.2.2 10 32), .int a1, .ref (X.2.2 12 48)]) (x_Qi X r.1 r.2 sz) 1 6 (x_A X sz) := by
  refine va_MetW (cc := cL_roomFor) (maxL := 4) (ret := (some .int)) (hh := [(0, 9, 12, 13), (0, 9, 15, 15)]) (by decide) rfl ?_
  intro p e s m args below meth c s₁ B hml hv
  obtain ⟨F, Z, ht, hI, rfl, rfl⟩ := xl_begin B hml hv
  replace F : x_F p s m _ meth c cL_roomFor 4 RL (some .int) := F
  have hx := F.1
  have hb := F.2.1
  have hml := F.2.2.1
  have hown := F.2.2.2.1
  have hts := F.2.2.2.2.1
  refine x_entry (vs := [.ref (X.2.2 10 32), .int a1, .ref (X.2.2 12 48)]) (n := 4) (Nat.le_of_ble_eq_true rfl) (fun ls hl => ?_)
  replace hl : lv_has ls 4 [(0, .ref (X.2.2 10 32)), (1, .int a1), (2, .ref (X.2.2 12 48))] := hl
  unfold fL_roomFor at h
  refine lv_aload_n hx hb dL_roomFor_0 rfl (lv_at hl 2 rfl) ?_
  refine lv_iconst (v := 0) hx hb dL_roomFor_1 (by decide) ?_
  refine lv_aload_n hx hb dL_roomFor_2 rfl (lv_at hl 0 rfl) ?_
  refine lv_iload_n hx hb dL_roomFor_3 rfl (lv_at hl 1 rfl) ?_
  rcases x_or_el h with ⟨q1, h2, h⟩ | ⟨-, h⟩
  · refine xl_aci hI (xt_runV (rest := [.int (0), .ref (X.2.2 12 48)]) F Z hI (xX6_roomFor l hl0 X _ σ a1 q1 h2) g_L_107 ⟨rfl, hd_X6_roomFor⟩ ⟨by decide, by decide⟩ ⟨rfl, rfl⟩ (x_inO (by decide)) rfl rfl rfl rfl hl.1 rfl (Nat.le_of_ble_eq_true rfl) dL_roomFor_4 ⟨by decide, by decide⟩) (fun H locs ce q9 hI hce hcv hcl => ?_)
    by_cases c4 : q1 = 0
    · have h := x_ift h c4
      rw [c4] at hcl
      refine xl_catch1 (b := 9) (hp := 12) (e0 := 0) F Z ht (by decide) rfl (by decide) hce hcv hcl ?_
      refine lv_astore_n (lv' := [(3, .ref q9), (0, .ref (X.2.2 10 32)), (1, .int a1), (2, .ref (X.2.2 12 48))]) hx hb dL_roomFor_12 rfl hl (by decide) rfl (fun ls hl => ?_)
      refine lv_iconst (v := 1) hx hb dL_roomFor_13 (by decide) ?_
      rw [x_some h]
      exact xl_iret F hI (Nat.le_of_ble_eq_true rfl) (Nat.le_of_ble_eq_true rfl) dL_roomFor_14
    · have h := x_iff h c4
      by_cases c3 : q1 = 2
      · have h := x_ift h c3
        rw [c3] at hcl
        refine xl_catch2 (b := 9) (hp := 15) (e0 := 0) F Z ht (by decide) rfl (by decide) hce hcv hcl ?_
        refine lv_astore_n (lv' := [(3, .ref q9), (0, .ref (X.2.2 10 32)), (1, .int a1), (2, .ref (X.2.2 12 48))]) hx hb dL_roomFor_15 rfl hl (by decide) rfl (fun ls hl => ?_)
        refine lv_iconst (v := 2) hx hb dL_roomFor_16 (by decide) ?_
        rw [x_some h]
        exact xl_iret F hI (Nat.le_of_ble_eq_true rfl) (Nat.le_of_ble_eq_true rfl) dL_roomFor_17
      · have h := x_iff h c3
        cases h
  · obtain ⟨r5, h6, h⟩ := x_bnd h
    refine x_aci hI (x_runV (rest := [.int (0), .ref (X.2.2 12 48)]) F hI (mX6_roomFor l X _ σ a1 r5 h6) g_L_107 ⟨rfl, hd_X6_roomFor⟩ ⟨by decide, by decide⟩ ⟨rfl, rfl⟩ (x_inO (by decide)) rfl rfl rfl rfl hl.1 rfl (Nat.le_of_ble_eq_true rfl) dL_roomFor_4 ⟨Nat.zero_le _, Nat.zero_le _⟩) (fun H locs hI => ?_)
    refine lv_i2l hx hb dL_roomFor_7 rfl ?_
    refine x_last (x := r5) F hI rfl (by decide) dL_roomFor_8 (fun H locs hI => ?_)
    obtain ⟨τ7, e8⟩ : ∃ z : x_S, z = (x_sh σ 12 (x_hu (σ 12) 48 (Int32.toNatClampNeg (0 : Int32)) r5)) := ⟨_, rfl⟩
    rw [← e8] at hI
    have h := x_let_at h e8
    refine lv_goto (tgt := 18) hx hb dL_roomFor_9 (by decide) ?_
    refine lv_iconst (v := 0) hx hb dL_roomFor_18 (by decide) ?_
    rw [x_some h]
    exact xl_iret F hI (Nat.le_of_ble_eq_true rfl) (Nat.le_of_ble_eq_true rfl) dL_roomFor_19
abbrev rm_L_nextFreeByRooms : Room := { frames := 8, cells := 1, slots := 6, locals := 123 }
def fL_nextFreeByRooms (σ : x_S) : Option (Int32 × x_S) := (x_or (eX6_nextFreeByRooms σ ) (fun q1 => (if q1 = 2 then some ((1 : Int32), σ) else none)) (Option.bind (fX6_nextFreeByRooms σ ) fun r4 => x_let (x_sh σ 12 (x_hu (σ 12) 48 (Int32.toNatClampNeg (0 : Int32)) r4)) fun τ6 => some ((0 : Int32), τ6)))
set_option maxHeartbeats 4000000 in
set_option maxRecDepth 100000 in
theorem mL_nextFreeByRooms (l : Launch) (hl0 : l.stackTraces = false) (X : x_T) (sz : Nat) (σ : x_S) (r : Int32 × x_S) (h : fL_nextFreeByRooms σ  = some r) : Met l yL_nextFreeByRooms (xl_ws yL_nextFreeByRooms cL_nextFreeByRooms 3 (some .int) [(0, 8, 11, 15)]) rm_L_nextFreeByRooms (x_PcT X σ sz [.ref (X.2.2 10 32), .ref (X.2.2 12 48)]) (x_Qi X r.1 r.2 sz) 1 6 (x_A X sz) := by
  refine va_MetW (cc := cL_nextFreeByRooms) (maxL := 3) (ret := (some .int)) (hh := [(0, 8, 11, 15)]) (by decide) rfl ?_
  intro p e s m args below meth c s₁ B hml hv
  obtain ⟨F, Z, ht, hI, rfl, rfl⟩ := xl_begin B hml hv
  replace F : x_F p s m _ meth c cL_nextFreeByRooms 3 RL (some .int) := F
  have hx := F.1
  have hb := F.2.1
  have hml := F.2.2.1
  have hown := F.2.2.2.1
  have hts := F.2.2.2.2.1
  refine x_entry (vs := [.ref (X.2.2 10 32), .ref (X.2.2 12 48)]) (n := 3) (Nat.le_of_ble_eq_true rfl) (fun ls hl => ?_)
  replace hl : lv_has ls 3 [(0, .ref (X.2.2 10 32)), (1, .ref (X.2.2 12 48))] := hl
  unfold fL_nextFreeByRooms at h
  refine lv_aload_n hx hb dL_nextFreeByRooms_0 rfl (lv_at hl 1 rfl) ?_
  refine lv_iconst (v := 0) hx hb dL_nextFreeByRooms_1 (by decide) ?_
  refine lv_aload_n hx hb dL_nextFreeByRooms_2 rfl (lv_at hl 0 rfl) ?_
  rcases x_or_el h with ⟨q1, h2, h⟩ | ⟨-, h⟩
  · refine xl_aci hI (xt_runV (rest := [.int (0), .ref (X.2.2 12 48)]) F Z hI (xX6_nextFreeByRooms l hl0 X _ σ  q1 h2) g_L_110 ⟨rfl, hd_X6_nextFreeByRooms⟩ ⟨by decide, by decide⟩ ⟨rfl, rfl⟩ (x_inO (by decide)) rfl rfl rfl rfl hl.1 rfl (Nat.le_of_ble_eq_true rfl) dL_nextFreeByRooms_3 ⟨by decide, by decide⟩) (fun H locs ce q9 hI hce hcv hcl => ?_)
    by_cases c3 : q1 = 2
    · have h := x_ift h c3
      rw [c3] at hcl
      refine xl_catch1 (b := 8) (hp := 11) (e0 := 2) F Z ht (by decide) rfl (by decide) hce hcv hcl ?_
      refine lv_astore_n (lv' := [(2, .ref q9), (0, .ref (X.2.2 10 32)), (1, .ref (X.2.2 12 48))]) hx hb dL_nextFreeByRooms_11 rfl hl (by decide) rfl (fun ls hl => ?_)
      refine lv_iconst (v := 1) hx hb dL_nextFreeByRooms_12 (by decide) ?_
      rw [x_some h]
      exact xl_iret F hI (Nat.le_of_ble_eq_true rfl) (Nat.le_of_ble_eq_true rfl) dL_nextFreeByRooms_13
    · have h := x_iff h c3
      cases h
  · obtain ⟨r4, h5, h⟩ := x_bnd h
    refine x_aci hI (x_runV (rest := [.int (0), .ref (X.2.2 12 48)]) F hI (mX6_nextFreeByRooms l X _ σ  r4 h5) g_L_110 ⟨rfl, hd_X6_nextFreeByRooms⟩ ⟨by decide, by decide⟩ ⟨rfl, rfl⟩ (x_inO (by decide)) rfl rfl rfl rfl hl.1 rfl (Nat.le_of_ble_eq_true rfl) dL_nextFreeByRooms_3 ⟨Nat.zero_le _, Nat.zero_le _⟩) (fun H locs hI => ?_)
    refine lv_i2l hx hb dL_nextFreeByRooms_6 rfl ?_
    refine x_last (x := r4) F hI rfl (by decide) dL_nextFreeByRooms_7 (fun H locs hI => ?_)
    obtain ⟨τ6, e7⟩ : ∃ z : x_S, z = (x_sh σ 12 (x_hu (σ 12) 48 (Int32.toNatClampNeg (0 : Int32)) r4)) := ⟨_, rfl⟩
    rw [← e7] at hI
    have h := x_let_at h e7
    refine lv_goto (tgt := 14) hx hb dL_nextFreeByRooms_8 (by decide) ?_
    refine lv_iconst (v := 0) hx hb dL_nextFreeByRooms_14 (by decide) ?_
    rw [x_some h]
    exact xl_iret F hI (Nat.le_of_ble_eq_true rfl) (Nat.le_of_ble_eq_true rfl) dL_nextFreeByRooms_15
abbrev rm_L_nextFreeByTicks : Room := { frames := 8, cells := 1, slots := 6, locals := 123 }
def fL_nextFreeByTicks (σ : x_S) : Option (Int32 × x_S) := (x_or (eX6_nextFreeByTicks σ ) (fun q1 => (if q1.1 = 2 then some ((1 : Int32), q1.2) else none)) (Option.bind (fX6_nextFreeByTicks σ ) fun r4 => x_let (x_sh r4.2 12 (x_hu (r4.2 12) 48 (Int32.toNatClampNeg (0 : Int32)) (r4.1))) fun τ6 => some ((0 : Int32), τ6)))
set_option maxHeartbeats 4000000 in
set_option maxRecDepth 100000 in
theorem mL_nextFreeByTicks (l : Launch) (hl0 : l.stackTraces = false) (X : x_T) (sz : Nat) (σ : x_S) (r : Int32 × x_S) (h : fL_nextFreeByTicks σ  = some r) : Met l yL_nextFreeByTicks (xl_ws yL_nextFreeByTicks cL_nextFreeByTicks 3 (some .int) [(0, 8, 11, 15)]) rm_L_nextFreeByTicks (x_PcT X σ sz [.ref (X.2.2 10 32), .ref (X.2.2 12 48)]) (x_Qi X r.1 r.2 sz) 1 6 (x_A X sz) := by
  refine va_MetW (cc := cL_nextFreeByTicks) (maxL := 3) (ret := (some .int)) (hh := [(0, 8, 11, 15)]) (by decide) rfl ?_
  intro p e s m args below meth c s₁ B hml hv
  obtain ⟨F, Z, ht, hI, rfl, rfl⟩ := xl_begin B hml hv
  replace F : x_F p s m _ meth c cL_nextFreeByTicks 3 RL (some .int) := F
  have hx := F.1
  have hb := F.2.1
  have hml := F.2.2.1
  have hown := F.2.2.2.1
  have hts := F.2.2.2.2.1
  refine x_entry (vs := [.ref (X.2.2 10 32), .ref (X.2.2 12 48)]) (n := 3) (Nat.le_of_ble_eq_true rfl) (fun ls hl => ?_)
  replace hl : lv_has ls 3 [(0, .ref (X.2.2 10 32)), (1, .ref (X.2.2 12 48))] := hl
  unfold fL_nextFreeByTicks at h
  refine lv_aload_n hx hb dL_nextFreeByTicks_0 rfl (lv_at hl 1 rfl) ?_
  refine lv_iconst (v := 0) hx hb dL_nextFreeByTicks_1 (by decide) ?_
  refine lv_aload_n hx hb dL_nextFreeByTicks_2 rfl (lv_at hl 0 rfl) ?_
  rcases x_or_el h with ⟨q1, h2, h⟩ | ⟨-, h⟩
  · refine xl_aci hI (xt_runV (rest := [.int (0), .ref (X.2.2 12 48)]) F Z hI (xX6_nextFreeByTicks l hl0 X _ σ  q1 h2) g_L_113 ⟨rfl, hd_X6_nextFreeByTicks⟩ ⟨by decide, by decide⟩ ⟨rfl, rfl⟩ (x_inO (by decide)) rfl rfl rfl rfl hl.1 rfl (Nat.le_of_ble_eq_true rfl) dL_nextFreeByTicks_3 ⟨by decide, by decide⟩) (fun H locs ce q9 hI hce hcv hcl => ?_)
    by_cases c3 : q1.1 = 2
    · have h := x_ift h c3
      rw [c3] at hcl
      refine xl_catch1 (b := 8) (hp := 11) (e0 := 2) F Z ht (by decide) rfl (by decide) hce hcv hcl ?_
      refine lv_astore_n (lv' := [(2, .ref q9), (0, .ref (X.2.2 10 32)), (1, .ref (X.2.2 12 48))]) hx hb dL_nextFreeByTicks_11 rfl hl (by decide) rfl (fun ls hl => ?_)
      refine lv_iconst (v := 1) hx hb dL_nextFreeByTicks_12 (by decide) ?_
      rw [x_some h]
      exact xl_iret F hI (Nat.le_of_ble_eq_true rfl) (Nat.le_of_ble_eq_true rfl) dL_nextFreeByTicks_13
    · have h := x_iff h c3
      cases h
  · obtain ⟨r4, h5, h⟩ := x_bnd h
    refine x_aci hI (x_runV (rest := [.int (0), .ref (X.2.2 12 48)]) F hI (mX6_nextFreeByTicks l X _ σ  r4 h5) g_L_113 ⟨rfl, hd_X6_nextFreeByTicks⟩ ⟨by decide, by decide⟩ ⟨rfl, rfl⟩ (x_inO (by decide)) rfl rfl rfl rfl hl.1 rfl (Nat.le_of_ble_eq_true rfl) dL_nextFreeByTicks_3 ⟨Nat.zero_le _, Nat.zero_le _⟩) (fun H locs hI => ?_)
    refine lv_i2l hx hb dL_nextFreeByTicks_6 rfl ?_
    refine x_last (x := (r4.1)) F hI rfl (by decide) dL_nextFreeByTicks_7 (fun H locs hI => ?_)
    obtain ⟨τ6, e7⟩ : ∃ z : x_S, z = (x_sh r4.2 12 (x_hu (r4.2 12) 48 (Int32.toNatClampNeg (0 : Int32)) (r4.1))) := ⟨_, rfl⟩
    rw [← e7] at hI
    have h := x_let_at h e7
    refine lv_goto (tgt := 14) hx hb dL_nextFreeByTicks_8 (by decide) ?_
    refine lv_iconst (v := 0) hx hb dL_nextFreeByTicks_14 (by decide) ?_
    rw [x_some h]
    exact xl_iret F hI (Nat.le_of_ble_eq_true rfl) (Nat.le_of_ble_eq_true rfl) dL_nextFreeByTicks_15
abbrev rm_L_kindAt : Room := { frames := 8, cells := 1, slots := 6, locals := 124 }
def fL_kindAt (σ : x_S) (a1 : Int32) : Option (Int32 × x_S) := (x_or (eX6_kindAt σ a1) (fun q1 => (if q1 = 0 then some ((1 : Int32), σ) else none)) (Option.bind (fX6_kindAt σ a1) fun r4 => x_let (x_sh σ 12 (x_hu (σ 12) 48 (Int32.toNatClampNeg (0 : Int32)) r4)) fun τ6 => some ((0 : Int32), τ6)))
set_option maxHeartbeats 4000000 in
set_option maxRecDepth 100000 in
theorem mL_kindAt (l : Launch) (hl0 : l.stackTraces = false) (X : x_T) (sz : Nat) (σ : x_S) (a1 : Int32) (r : Int32 × x_S) (h : fL_kindAt σ a1 = some r) : Met l yL_kindAt (xl_ws yL_kindAt cL_kindAt 4 (some .int) [(0, 9, 12, 13)]) rm_L_kindAt (x_PcT X σ sz [.ref (X.2.2 10 32), .int a1, .ref (X.2.2 12 48)]) (x_Qi X r.1 r.2 sz) 1 6 (x_A X sz) := by
  refine va_MetW (cc := cL_kindAt) (maxL := 4) (ret := (some .int)) (hh := [(0, 9, 12, 13)]) (by decide) rfl ?_
  intro p e s m args below meth c s₁ B hml hv
  obtain ⟨F, Z, ht, hI, rfl, rfl⟩ := xl_begin B hml hv
  replace F : x_F p s m _ meth c cL_kindAt 4 RL (some .int) := F
  have hx := F.1
  have hb := F.2.1
  have hml := F.2.2.1
  have hown := F.2.2.2.1
  have hts := F.2.2.2.2.1
  refine x_entry (vs := [.ref (X.2.2 10 32), .int a1, .ref (X.2.2 12 48)]) (n := 4) (Nat.le_of_ble_eq_true rfl) (fun ls hl => ?_)
  replace hl : lv_has ls 4 [(0, .ref (X.2.2 10 32)), (1, .int a1), (2, .ref (X.2.2 12 48))] := hl
  unfold fL_kindAt at h
  refine lv_aload_n hx hb dL_kindAt_0 rfl (lv_at hl 2 rfl) ?_
  refine lv_iconst (v := 0) hx hb dL_kindAt_1 (by decide) ?_
  refine lv_aload_n hx hb dL_kindAt_2 rfl (lv_at hl 0 rfl) ?_
  refine lv_iload_n hx hb dL_kindAt_3 rfl (lv_at hl 1 rfl) ?_
  rcases x_or_el h with ⟨q1, h2, h⟩ | ⟨-, h⟩
  · refine xl_aci hI (xt_runV (rest := [.int (0), .ref (X.2.2 12 48)]) F Z hI (xX6_kindAt l hl0 X _ σ a1 q1 h2) g_L_116 ⟨rfl, hd_X6_kindAt⟩ ⟨by decide, by decide⟩ ⟨rfl, rfl⟩ (x_inO (by decide)) rfl rfl rfl rfl hl.1 rfl (Nat.le_of_ble_eq_true rfl) dL_kindAt_4 ⟨by decide, by decide⟩) (fun H locs ce q9 hI hce hcv hcl => ?_)
    by_cases c3 : q1 = 0
    · have h := x_ift h c3
      rw [c3] at hcl
      refine xl_catch1 (b := 9) (hp := 12) (e0 := 0) F Z ht (by decide) rfl (by decide) hce hcv hcl ?_
      refine lv_astore_n (lv' := [(3, .ref q9), (0, .ref (X.2.2 10 32)), (1, .int a1), (2, .ref (X.2.2 12 48))]) hx hb dL_kindAt_12 rfl hl (by decide) rfl (fun ls hl => ?_)
      refine lv_iconst (v := 1) hx hb dL_kindAt_13 (by decide) ?_
      rw [x_some h]
      exact xl_iret F hI (Nat.le_of_ble_eq_true rfl) (Nat.le_of_ble_eq_true rfl) dL_kindAt_14
    · have h := x_iff h c3
      cases h
  · obtain ⟨r4, h5, h⟩ := x_bnd h
    refine x_aci hI (x_runV (rest := [.int (0), .ref (X.2.2 12 48)]) F hI (mX6_kindAt l X _ σ a1 r4 h5) g_L_116 ⟨rfl, hd_X6_kindAt⟩ ⟨by decide, by decide⟩ ⟨rfl, rfl⟩ (x_inO (by decide)) rfl rfl rfl rfl hl.1 rfl (Nat.le_of_ble_eq_true rfl) dL_kindAt_4 ⟨Nat.zero_le _, Nat.zero_le _⟩) (fun H locs hI => ?_)
    refine lv_i2l hx hb dL_kindAt_7 rfl ?_
    refine x_last (x := r4) F hI rfl (by decide) dL_kindAt_8 (fun H locs hI => ?_)
    obtain ⟨τ6, e7⟩ : ∃ z : x_S, z = (x_sh σ 12 (x_hu (σ 12) 48 (Int32.toNatClampNeg (0 : Int32)) r4)) := ⟨_, rfl⟩
    rw [← e7] at hI
    have h := x_let_at h e7
    refine lv_goto (tgt := 15) hx hb dL_kindAt_9 (by decide) ?_
    refine lv_iconst (v := 0) hx hb dL_kindAt_15 (by decide) ?_
    rw [x_some h]
    exact xl_iret F hI (Nat.le_of_ble_eq_true rfl) (Nat.le_of_ble_eq_true rfl) dL_kindAt_16
abbrev rm_L_guestAt : Room := { frames := 8, cells := 1, slots := 6, locals := 124 }
def fL_guestAt (σ : x_S) (a1 : Int32) : Option (Int32 × x_S) := (x_or (eX6_guestAt σ a1) (fun q1 => (if q1 = 0 then some ((1 : Int32), σ) else none)) (Option.bind (fX6_guestAt σ a1) fun r4 => x_let (x_sh σ 12 (x_hu (σ 12) 48 (Int32.toNatClampNeg (0 : Int32)) r4)) fun τ6 => some ((0 : Int32), τ6)))
set_option maxHeartbeats 4000000 in
set_option maxRecDepth 100000 in
theorem mL_guestAt (l : Launch) (hl0 : l.stackTraces = false) (X : x_T) (sz : Nat) (σ : x_S) (a1 : Int32) (r : Int32 × x_S) (h : fL_guestAt σ a1 = some r) : Met l yL_guestAt (xl_ws yL_guestAt cL_guestAt 4 (some .int) [(0, 9, 12, 13)]) rm_L_guestAt (x_PcT X σ sz [.ref (X.2.2 10 32), .int a1, .ref (X.2.2 12 48)]) (x_Qi X r.1 r.2 sz) 1 6 (x_A X sz) := by
  refine va_MetW (cc := cL_guestAt) (maxL := 4) (ret := (some .int)) (hh := [(0, 9, 12, 13)]) (by decide) rfl ?_
  intro p e s m args below meth c s₁ B hml hv
  obtain ⟨F, Z, ht, hI, rfl, rfl⟩ := xl_begin B hml hv
  replace F : x_F p s m _ meth c cL_guestAt 4 RL (some .int) := F
  have hx := F.1
  have hb := F.2.1
  have hml := F.2.2.1
  have hown := F.2.2.2.1
  have hts := F.2.2.2.2.1
  refine x_entry (vs := [.ref (X.2.2 10 32), .int a1, .ref (X.2.2 12 48)]) (n := 4) (Nat.le_of_ble_eq_true rfl) (fun ls hl => ?_)
  replace hl : lv_has ls 4 [(0, .ref (X.2.2 10 32)), (1, .int a1), (2, .ref (X.2.2 12 48))] := hl
  unfold fL_guestAt at h
  refine lv_aload_n hx hb dL_guestAt_0 rfl (lv_at hl 2 rfl) ?_
  refine lv_iconst (v := 0) hx hb dL_guestAt_1 (by decide) ?_
  refine lv_aload_n hx hb dL_guestAt_2 rfl (lv_at hl 0 rfl) ?_
  refine lv_iload_n hx hb dL_guestAt_3 rfl (lv_at hl 1 rfl) ?_
  rcases x_or_el h with ⟨q1, h2, h⟩ | ⟨-, h⟩
  · refine xl_aci hI (xt_runV (rest := [.int (0), .ref (X.2.2 12 48)]) F Z hI (xX6_guestAt l hl0 X _ σ a1 q1 h2) g_L_119 ⟨rfl, hd_X6_guestAt⟩ ⟨by decide, by decide⟩ ⟨rfl, rfl⟩ (x_inO (by decide)) rfl rfl rfl rfl hl.1 rfl (Nat.le_of_ble_eq_true rfl) dL_guestAt_4 ⟨by decide, by decide⟩) (fun H locs ce q9 hI hce hcv hcl => ?_)
    by_cases c3 : q1 = 0
    · have h := x_ift h c3
      rw [c3] at hcl
      refine xl_catch1 (b := 9) (hp := 12) (e0 := 0) F Z ht (by decide) rfl (by decide) hce hcv hcl ?_
      refine lv_astore_n (lv' := [(3, .ref q9), (0, .ref (X.2.2 10 32)), (1, .int a1), (2, .ref (X.2.2 12 48))]) hx hb dL_guestAt_12 rfl hl (by decide) rfl (fun ls hl => ?_)
      refine lv_iconst (v := 1) hx hb dL_guestAt_13 (by decide) ?_
      rw [x_some h]
      exact xl_iret F hI (Nat.le_of_ble_eq_true rfl) (Nat.le_of_ble_eq_true rfl) dL_guestAt_14
    · have h := x_iff h c3
      cases h
  · obtain ⟨r4, h5, h⟩ := x_bnd h
    refine x_aci hI (x_runV (rest := [.int (0), .ref (X.2.2 12 48)]) F hI (mX6_guestAt l X _ σ a1 r4 h5) g_L_119 ⟨rfl, hd_X6_guestAt⟩ ⟨by decide, by decide⟩ ⟨rfl, rfl⟩ (x_inO (by decide)) rfl rfl rfl rfl hl.1 rfl (Nat.le_of_ble_eq_true rfl) dL_guestAt_4 ⟨Nat.zero_le _, Nat.zero_le _⟩) (fun H locs hI => ?_)
    refine lv_i2l hx hb dL_guestAt_7 rfl ?_
    refine x_last (x := r4) F hI rfl (by decide) dL_guestAt_8 (fun H locs hI => ?_)
    obtain ⟨τ6, e7⟩ : ∃ z : x_S, z = (x_sh σ 12 (x_hu (σ 12) 48 (Int32.toNatClampNeg (0 : Int32)) r4)) := ⟨_, rfl⟩
    rw [← e7] at hI
    have h := x_let_at h e7
    refine lv_goto (tgt := 15) hx hb dL_guestAt_9 (by decide) ?_
    refine lv_iconst (v := 0) hx hb dL_guestAt_15 (by decide) ?_
    rw [x_some h]
    exact xl_iret F hI (Nat.le_of_ble_eq_true rfl) (Nat.le_of_ble_eq_true rfl) dL_guestAt_16
abbrev rm_L_roomAt : Room := { frames := 8, cells := 1, slots := 6, locals := 124 }
def fL_roomAt (σ : x_S) (a1 : Int32) : Option (Int32 × x_S) := (x_or (eX6_roomAt σ a1) (fun q1 => (if q1 = 0 then some ((1 : Int32), σ) else (if q1 = 2 then some ((2 : Int32), σ) else none))) (Option.bind (fX6_roomAt σ a1) fun r5 => x_let (x_sh σ 12 (x_hu (σ 12) 48 (Int32.toNatClampNeg (0 : Int32)) r5)) fun τ7 => some ((0 : Int32), τ7)))
set_option maxHeartbeats 4000000 in
set_option maxRecDepth 100000 in
theorem mL_roomAt (l : Launch) (hl0 : l.stackTraces = false) (X : x_T) (sz : Nat) (σ : x_S) (a1 : Int32) (r : Int32 × x_S) (h : fL_roomAt σ a1 = some r) : Met l yL_roomAt (xl_ws yL_roomAt cL_roomAt 4 (some .int) [(0, 9, 12, 13), (0, 9, 15, 15)]) rm_L_roomAt (x_PcT X σ sz [.ref (X.2.2 10 32), .int a1, .ref (X.2.2 12 48)]) (x_Qi X r.1 r.2 sz) 1 6 (x_A X sz) := by
  refine va_MetW (cc := cL_roomAt) (maxL := 4) (ret := (some .int)) (hh := [(0, 9, 12, 13), (0, 9, 15, 15)]) (by decide) rfl ?_
  intro p e s m args below meth c s₁ B hml hv
  obtain ⟨F, Z, ht, hI, rfl, rfl⟩ := xl_begin B hml hv
  replace F : x_F p s m _ meth c cL_roomAt 4 RL (some .int) := F
  have hx := F.1
  have hb := F.2.1
  have hml := F.2.2.1
  have hown := F.2.2.2.1
  have hts := F.2.2.2.2.1
  refine x_entry (vs := [.ref (X.2.2 10 32), .int a1, .ref (X.2.2 12 48)]) (n := 4) (Nat.le_of_ble_eq_true rfl) (fun ls hl => ?_)
  replace hl : lv_has ls 4 [(0, .ref (X.2.2 10 32)), (1, .int a1), (2, .ref (X.2.2 12 48))] := hl
  unfold fL_roomAt at h
  refine lv_aload_n hx hb dL_roomAt_0 rfl (lv_at hl 2 rfl) ?_
  refine lv_iconst (v := 0) hx hb dL_roomAt_1 (by decide) ?_
  refine lv_aload_n hx hb dL_roomAt_2 rfl (lv_at hl 0 rfl) ?_
  refine lv_iload_n hx hb dL_roomAt_3 rfl (lv_at hl 1 rfl) ?_
  rcases x_or_el h with ⟨q1, h2, h⟩ | ⟨-, h⟩
  · refine xl_aci hI (xt_runV (rest := [.int (0), .ref (X.2.2 12 48)]) F Z hI (xX6_roomAt l hl0 X _ σ a1 q1 h2) g_L_122 ⟨rfl, hd_X6_roomAt⟩ ⟨by decide, by decide⟩ ⟨rfl, rfl⟩ (x_inO (by decide)) rfl rfl rfl rfl hl.1 rfl (Nat.le_of_ble_eq_true rfl) dL_roomAt_4 ⟨by decide, by decide⟩) (fun H locs ce q9 hI hce hcv hcl => ?_)
    by_cases c4 : q1 = 0
    · have h := x_ift h c4
      rw [c4] at hcl
      refine xl_catch1 (b := 9) (hp := 12) (e0 := 0) F Z ht (by decide) rfl (by decide) hce hcv hcl ?_
      refine lv_astore_n (lv' := [(3, .ref q9), (0, .ref (X.2.2 10 32)), (1, .int a1), (2, .ref (X.2.2 12 48))]) hx hb dL_roomAt_12 rfl hl (by decide) rfl (fun ls hl => ?_)
      refine lv_iconst (v := 1) hx hb dL_roomAt_13 (by decide) ?_
      rw [x_some h]
      exact xl_iret F hI (Nat.le_of_ble_eq_true rfl) (Nat.le_of_ble_eq_true rfl) dL_roomAt_14
    · have h := x_iff h c4
      by_cases c3 : q1 = 2
      · have h := x_ift h c3
        rw [c3] at hcl
        refine xl_catch2 (b := 9) (hp := 15) (e0 := 0) F Z ht (by decide) rfl (by decide) hce hcv hcl ?_
        refine lv_astore_n (lv' := [(3, .ref q9), (0, .ref (X.2.2 10 32)), (1, .int a1), (2, .ref (X.2.2 12 48))]) hx hb dL_roomAt_15 rfl hl (by decide) rfl (fun ls hl => ?_)
        refine lv_iconst (v := 2) hx hb dL_roomAt_16 (by decide) ?_
        rw [x_some h]
        exact xl_iret F hI (Nat.le_of_ble_eq_true rfl) (Nat.le_of_ble_eq_true rfl) dL_roomAt_17
      · have h := x_iff h c3
        cases h
  · obtain ⟨r5, h6, h⟩ := x_bnd h
    refine x_aci hI (x_runV (rest := [.int (0), .ref (X.2.2 12 48)]) F hI (mX6_roomAt l X _ σ a1 r5 h6) g_L_122 ⟨rfl, hd_X6_roomAt⟩ ⟨by decide, by decide⟩ ⟨rfl, rfl⟩ (x_inO (by decide)) rfl rfl rfl rfl hl.1 rfl (Nat.le_of_ble_eq_true rfl) dL_roomAt_4 ⟨Nat.zero_le _, Nat.zero_le _⟩) (fun H locs hI => ?_)
    refine lv_i2l hx hb dL_roomAt_7 rfl ?_
    refine x_last (x := r5) F hI rfl (by decide) dL_roomAt_8 (fun H locs hI => ?_)
    obtain ⟨τ7, e8⟩ : ∃ z : x_S, z = (x_sh σ 12 (x_hu (σ 12) 48 (Int32.toNatClampNeg (0 : Int32)) r5)) := ⟨_, rfl⟩
    rw [← e8] at hI
    have h := x_let_at h e8
    refine lv_goto (tgt := 18) hx hb dL_roomAt_9 (by decide) ?_
    refine lv_iconst (v := 0) hx hb dL_roomAt_18 (by decide) ?_
    rw [x_some h]
    exact xl_iret F hI (Nat.le_of_ble_eq_true rfl) (Nat.le_of_ble_eq_true rfl) dL_roomAt_19
abbrev rm_L_sent : Room := { frames := 8, cells := 1, slots := 6, locals := 125 }
def fL_sent (σ : x_S) (a1 : Int32) : Option (Int32 × x_S) := (x_or (eX6_sent σ a1) (fun q1 => (if q1 = 1 then some ((1 : Int32), σ) else none)) (Option.bind (fX6_sent σ a1) fun r4 => x_let (x_sh σ 12 (x_hu (σ 12) 48 (Int32.toNatClampNeg (0 : Int32)) r4)) fun τ6 => some ((0 : Int32), τ6)))
set_option maxHeartbeats 4000000 in
set_option maxRecDepth 100000 in
theorem mL_sent (l : Launch) (hl0 : l.stackTraces = false) (X : x_T) (sz : Nat) (σ : x_S) (a1 : Int32) (r : Int32 × x_S) (h : fL_sent σ a1 = some r) : Met l yL_sent (xl_ws yL_sent cL_sent 4 (some .int) [(0, 9, 12, 40)]) rm_L_sent (x_PcT X σ sz [.ref (X.2.2 10 32), .int a1, .ref (X.2.2 12 48)]) (x_Qi X r.1 r.2 sz) 1 6 (x_A X sz) := by
  refine va_MetW (cc := cL_sent) (maxL := 4) (ret := (some .int)) (hh := [(0, 9, 12, 40)]) (by decide) rfl ?_
  intro p e s m args below meth c s₁ B hml hv
  obtain ⟨F, Z, ht, hI, rfl, rfl⟩ := xl_begin B hml hv
  replace F : x_F p s m _ meth c cL_sent 4 RL (some .int) := F
  have hx := F.1
  have hb := F.2.1
  have hml := F.2.2.1
  have hown := F.2.2.2.1
  have hts := F.2.2.2.2.1
  refine x_entry (vs := [.ref (X.2.2 10 32), .int a1, .ref (X.2.2 12 48)]) (n := 4) (Nat.le_of_ble_eq_true rfl) (fun ls hl => ?_)
  replace hl : lv_has ls 4 [(0, .ref (X.2.2 10 32)), (1, .int a1), (2, .ref (X.2.2 12 48))] := hl
  unfold fL_sent at h
  refine lv_aload_n hx hb dL_sent_0 rfl (lv_at hl 2 rfl) ?_
  refine lv_iconst (v := 0) hx hb dL_sent_1 (by decide) ?_
  refine lv_aload_n hx hb dL_sent_2 rfl (lv_at hl 0 rfl) ?_
  refine lv_iload_n hx hb dL_sent_3 rfl (lv_at hl 1 rfl) ?_
  rcases x_or_el h with ⟨q1, h2, h⟩ | ⟨-, h⟩
  · refine xl_aci hI (xt_runV (rest := [.int (0), .ref (X.2.2 12 48)]) F Z hI (xX6_sent l hl0 X _ σ a1 q1 h2) g_L_125 ⟨rfl, hd_X6_sent⟩ ⟨by decide, by decide⟩ ⟨rfl, rfl⟩ (x_inO (by decide)) rfl rfl rfl rfl hl.1 rfl (Nat.le_of_ble_eq_true rfl) dL_sent_4 ⟨by decide, by decide⟩) (fun H locs ce q9 hI hce hcv hcl => ?_)
    by_cases c3 : q1 = 1
    · have h := x_ift h c3
      rw [c3] at hcl
      refine xl_catch1 (b := 9) (hp := 12) (e0 := 1) F Z ht (by decide) rfl (by decide) hce hcv hcl ?_
      refine lv_astore_n (lv' := [(3, .ref q9), (0, .ref (X.2.2 10 32)), (1, .int a1), (2, .ref (X.2.2 12 48))]) hx hb dL_sent_12 rfl hl (by decide) rfl (fun ls hl => ?_)
      refine lv_iconst (v := 1) hx hb dL_sent_13 (by decide) ?_
      rw [x_some h]
      exact xl_iret F hI (Nat.le_of_ble_eq_true rfl) (Nat.le_of_ble_eq_true rfl) dL_sent_14
    · have h := x_iff h c3
      cases h
  · obtain ⟨r4, h5, h⟩ := x_bnd h
    refine x_aci hI (x_runV (rest := [.int (0), .ref (X.2.2 12 48)]) F hI (mX6_sent l X _ σ a1 r4 h5) g_L_125 ⟨rfl, hd_X6_sent⟩ ⟨by decide, by decide⟩ ⟨rfl, rfl⟩ (x_inO (by decide)) rfl rfl rfl rfl hl.1 rfl (Nat.le_of_ble_eq_true rfl) dL_sent_4 ⟨Nat.zero_le _, Nat.zero_le _⟩) (fun H locs hI => ?_)
    refine lv_i2l hx hb dL_sent_7 rfl ?_
    refine x_last (x := r4) F hI rfl (by decide) dL_sent_8 (fun H locs hI => ?_)
    obtain ⟨τ6, e7⟩ : ∃ z : x_S, z = (x_sh σ 12 (x_hu (σ 12) 48 (Int32.toNatClampNeg (0 : Int32)) r4)) := ⟨_, rfl⟩
    rw [← e7] at hI
    have h := x_let_at h e7
    refine lv_goto (tgt := 15) hx hb dL_sent_9 (by decide) ?_
    refine lv_iconst (v := 0) hx hb dL_sent_15 (by decide) ?_
    rw [x_some h]
    exact xl_iret F hI (Nat.le_of_ble_eq_true rfl) (Nat.le_of_ble_eq_true rfl) dL_sent_16
