abbrev rm_X6_deliverAll : Room := { frames := 5, cells := 0, slots := 0, locals := 119 }
def fX6_deliverAll (σ : x_S) : Option (Int32 × x_S) := (Option.bind (fX5_push σ ) fun r1 => (Option.bind (fX2_deliverEach (r1 0) ) fun r3 => x_let (x_sh r1 0 r3.2) fun τ5 => some (r3.1, τ5)))
set_option maxHeartbeats 4000000 in
set_option maxRecDepth 100000 in
theorem mX6_deliverAll (l : Launch) (X : x_T) (sz : Nat) (σ : x_S) (r : (Int32 × x_S)) (h : fX6_deliverAll σ  = some r) : Met l yX6_deliverAll (x_ws yX6_deliverAll cX6_deliverAll 1 (some .int)) rm_X6_deliverAll (x_Pc X σ sz [.ref (X.2.2 10 32)]) (x_Qi X r.1 r.2 sz) 0 0 (x_A X sz) := by
  refine Met.ofW (cc := cX6_deliverAll) (maxL := 1) (ret := (some .int)) (by decide) rfl ?_
  intro p e s m args below meth c s₁ B hml hv
  obtain ⟨F, hI, rfl, rfl⟩ := x_begin B hml hv
  replace F : x_F p s m _ meth c cX6_deliverAll 1 RX6 (some .int) := F
  have hx := F.1
  have hb := F.2.1
  have hml := F.2.2.1
  have hown := F.2.2.2.1
  have hts := F.2.2.2.2.1
  refine x_entry (vs := [.ref (X.2.2 10 32)]) (n := 1) (Nat.le_of_ble_eq_true rfl) (fun ls hl => ?_)
  replace hl : lv_has ls 1 [(0, .ref (X.2.2 10 32))] := hl
  unfold fX6_deliverAll at h
  refine lv_aload_n hx hb dX6_deliverAll_0 rfl (lv_at hl 0 rfl) ?_
  refine xsg_6_2 F hI (x_inO (by decide)) u_fl_X6_22 dX6_deliverAll_1 ?_
  refine lv_aload_n hx hb dX6_deliverAll_4 rfl (lv_at hl 0 rfl) ?_
  refine xsg_6_0 F hI (x_inO (by decide)) u_fl_X6_12 dX6_deliverAll_5 ?_
  obtain ⟨r1, h2, h⟩ := x_bnd h
  refine x_acv hI (x_runV (rest := []) F hI (mX5_push l X _ σ  r1 h2) g_X6_59 ⟨rfl, hd_X5_push⟩ ⟨by decide, by decide⟩ ⟨rfl, rfl⟩ (x_inO (by decide)) rfl rfl rfl rfl hl.1 rfl (Nat.le_of_ble_eq_true rfl) dX6_deliverAll_8 ⟨Nat.zero_le _, Nat.zero_le _⟩) (fun H locs hI => ?_)
  refine lv_aload_n hx hb dX6_deliverAll_11 rfl (lv_at hl 0 rfl) ?_
  refine xsg_6_0 F hI (x_inO (by decide)) u_fl_X6_12 dX6_deliverAll_12 ?_
  obtain ⟨r3, h4, h⟩ := x_bnd h
  have hI := x_toH 0 hI
  refine x_aci hI (x_runV (rest := []) F hI (mX2_deliverEach l X r1 0 (show 0 < 10 by decide) _ (r1 0)  r3 h4) g_X6_136 ⟨rfl, hd_X2_deliverEach⟩ ⟨by decide, by decide⟩ ⟨rfl, rfl⟩ (x_inH (show 0 < 10 by decide) (by decide)) rfl rfl rfl rfl hl.1 rfl (Nat.le_of_ble_eq_true rfl) dX6_deliverAll_15 ⟨Nat.zero_le _, Nat.zero_le _⟩) (fun H locs hI => ?_)
  obtain ⟨τ5, e6⟩ : ∃ z : x_S, z = (x_sh r1 0 r3.2) := ⟨_, rfl⟩
  rw [← e6] at hI
  have h := x_let_at h e6
  rw [x_some h]
  exact x_iret F hI dX6_deliverAll_18
abbrev rm_X6_clearBuffer : Room := { frames := 0, cells := 0, slots := 0, locals := 0 }
def fX6_clearBuffer (σ : x_S) : Option (Int32 × x_S) := x_let (σ 10 37 0) fun x1 => x_let (x_sh σ 10 (x_hu (σ 10) 37 0 (0 : Int32))) fun τ3 => some (x1, τ3)
set_option maxHeartbeats 4000000 in
set_option maxRecDepth 100000 in
theorem mX6_clearBuffer (l : Launch) (X : x_T) (sz : Nat) (σ : x_S) (r : (Int32 × x_S)) (h : fX6_clearBuffer σ  = some r) : Met l yX6_clearBuffer (x_ws yX6_clearBuffer cX6_clearBuffer 2 (some .int)) rm_X6_clearBuffer (x_Pc X σ sz [.ref (X.2.2 10 32)]) (x_Qi X r.1 r.2 sz) 0 0 (x_A X sz) := by
  refine Met.ofW (cc := cX6_clearBuffer) (maxL := 2) (ret := (some .int)) (by decide) rfl ?_
  intro p e s m args below meth c s₁ B hml hv
  obtain ⟨F, hI, rfl, rfl⟩ := x_begin B hml hv
  replace F : x_F p s m _ meth c cX6_clearBuffer 2 RX6 (some .int) := F
  have hx := F.1
  have hb := F.2.1
  have hml := F.2.2.1
  have hown := F.2.2.2.1
  have hts := F.2.2.2.2.1
  refine x_entry (vs := [.ref (X.2.2 10 32)]) (n := 2) (Nat.le_of_ble_eq_true rfl) (fun ls hl => ?_)
  replace hl : lv_has ls 2 [(0, .ref (X.2.2 10 32))] := hl
  unfold fX6_clearBuffer at h
  refine lv_aload_n hx hb dX6_clearBuffer_0 rfl (lv_at hl 0 rfl) ?_
  refine xsg_6_5 F hI (x_inO (by decide)) u_fl_X6_37 dX6_clearBuffer_1 ?_
  refine xsg_0_1 F hI (x_inO (by decide)) u_fl_X6_143 dX6_clearBuffer_4 ?_
  refine lv_topi (fun x1 e2 => ?_)
  have h := x_let_at h e2
  refine lv_istore_n (lv' := [(1, .int x1), (0, .ref (X.2.2 10 32))]) hx hb dX6_clearBuffer_7 rfl hl (by decide) rfl (fun ls hl => ?_)
  refine lv_aload_n hx hb dX6_clearBuffer_8 rfl (lv_at hl 1 rfl) ?_
  refine xsg_6_5 F hI (x_inO (by decide)) u_fl_X6_37 dX6_clearBuffer_9 ?_
  refine lv_iconst (v := 0) hx hb dX6_clearBuffer_12 (by decide) ?_
  refine xsp_0_1 F hI (x_inO (by decide)) u_fl_X6_143 dX6_clearBuffer_13 (fun H locs hI => ?_)
  obtain ⟨τ3, e4⟩ : ∃ z : x_S, z = (x_sh σ 10 (x_hu (σ 10) 37 0 (0 : Int32))) := ⟨_, rfl⟩
  rw [← e4] at hI
  have h := x_let_at h e4
  refine lv_iload_n hx hb dX6_clearBuffer_16 rfl (lv_at hl 0 rfl) ?_
  rw [x_some h]
  exact x_iret F hI dX6_clearBuffer_17
abbrev rm_X6_firstError : Room := { frames := 4, cells := 0, slots := 0, locals := 84 }
def fX6_firstError (σ : x_S) : Option (Int32 × x_S) := (Option.bind (fX0_errorAt (σ 10) ) fun r1 => x_let (x_sh σ 10 r1.2) fun τ3 => some (r1.1, τ3))
set_option maxHeartbeats 4000000 in
set_option maxRecDepth 100000 in
theorem mX6_firstError (l : Launch) (X : x_T) (sz : Nat) (σ : x_S) (r : (Int32 × x_S)) (h : fX6_firstError σ  = some r) : Met l yX6_firstError (x_ws yX6_firstError cX6_firstError 1 (some .int)) rm_X6_firstError (x_Pc X σ sz [.ref (X.2.2 10 32)]) (x_Qi X r.1 r.2 sz) 0 0 (x_A X sz) := by
  refine Met.ofW (cc := cX6_firstError) (maxL := 1) (ret := (some .int)) (by decide) rfl ?_
  intro p e s m args below meth c s₁ B hml hv
  obtain ⟨F, hI, rfl, rfl⟩ := x_begin B hml hv
  replace F : x_F p s m _ meth c cX6_firstError 1 RX6 (some .int) := F
  have hx := F.1
  have hb := F.2.1
  have hml := F.2.2.1
  have hown := F.2.2.2.1
  have hts := F.2.2.2.2.1
  refine x_entry (vs := [.ref (X.2.2 10 32)]) (n := 1) (Nat.le_of_ble_eq_true rfl) (fun ls hl => ?_)
  replace hl : lv_has ls 1 [(0, .ref (X.2.2 10 32))] := hl
  unfold fX6_firstError at h
  refine lv_aload_n hx hb dX6_firstError_0 rfl (lv_at hl 0 rfl) ?_
  refine xsg_6_5 F hI (x_inO (by decide)) u_fl_X6_37 dX6_firstError_1 ?_
  obtain ⟨r1, h2, h⟩ := x_bnd h
  have hI := x_toH 10 hI
  refine x_aci hI (x_runV (rest := []) F hI (mX0_errorAt l X σ _ (σ 10)  r1 h2) g_X6_150 ⟨rfl, hd_X0_errorAt⟩ ⟨by decide, by decide⟩ ⟨rfl, rfl⟩ (x_inO (by decide)) rfl rfl rfl rfl hl.1 rfl (Nat.le_of_ble_eq_true rfl) dX6_firstError_4 ⟨Nat.zero_le _, Nat.zero_le _⟩) (fun H locs hI => ?_)
  obtain ⟨τ3, e4⟩ : ∃ z : x_S, z = (x_sh σ 10 r1.2) := ⟨_, rfl⟩
  rw [← e4] at hI
  have h := x_let_at h e4
  rw [x_some h]
  exact x_iret F hI dX6_firstError_7
abbrev rm_X6_savedStates : Room := { frames := 0, cells := 0, slots := 0, locals := 0 }
def fX6_savedStates (σ : x_S) : Option Int32 := some (σ 10 33 0)
set_option maxHeartbeats 4000000 in
set_option maxRecDepth 100000 in
theorem mX6_savedStates (l : Launch) (X : x_T) (sz : Nat) (σ : x_S) (r : Int32) (h : fX6_savedStates σ  = some r) : Met l yX6_savedStates (x_ws yX6_savedStates cX6_savedStates 1 (some .int)) rm_X6_savedStates (x_Pc X σ sz [.ref (X.2.2 10 32)]) (x_Qi X r σ sz) 0 0 (x_A X sz) := by
  refine Met.ofW (cc := cX6_savedStates) (maxL := 1) (ret := (some .int)) (by decide) rfl ?_
  intro p e s m args below meth c s₁ B hml hv
  obtain ⟨F, hI, rfl, rfl⟩ := x_begin B hml hv
  replace F : x_F p s m _ meth c cX6_savedStates 1 RX6 (some .int) := F
  have hx := F.1
  have hb := F.2.1
  have hml := F.2.2.1
  have hown := F.2.2.2.1
  have hts := F.2.2.2.2.1
  refine x_entry (vs := [.ref (X.2.2 10 32)]) (n := 1) (Nat.le_of_ble_eq_true rfl) (fun ls hl => ?_)
  replace hl : lv_has ls 1 [(0, .ref (X.2.2 10 32))] := hl
  unfold fX6_savedStates at h
  refine lv_aload_n hx hb dX6_savedStates_0 rfl (lv_at hl 0 rfl) ?_
  refine xsg_6_2 F hI (x_inO (by decide)) u_fl_X6_22 dX6_savedStates_1 ?_
  refine xsg_5_1 F hI (x_inO (by decide)) u_fl_X6_174 dX6_savedStates_4 ?_
  rw [x_some h]
  exact x_iret F hI dX6_savedStates_7
abbrev rm_X6_housed : Room := { frames := 1, cells := 0, slots := 0, locals := 22 }
def fX6_housed (σ : x_S) : Option Int32 := (Option.bind (fX1_countHoused (σ 0) ) fun r1 => some (r1))
set_option maxHeartbeats 4000000 in
set_option maxRecDepth 100000 in
theorem mX6_housed (l : Launch) (X : x_T) (sz : Nat) (σ : x_S) (r : Int32) (h : fX6_housed σ  = some r) : Met l yX6_housed (x_ws yX6_housed cX6_housed 1 (some .int)) rm_X6_housed (x_Pc X σ sz [.ref (X.2.2 10 32)]) (x_Qi X r σ sz) 0 0 (x_A X sz) := by
  refine Met.ofW (cc := cX6_housed) (maxL := 1) (ret := (some .int)) (by decide) rfl ?_
  intro p e s m args below meth c s₁ B hml hv
  obtain ⟨F, hI, rfl, rfl⟩ := x_begin B hml hv
  replace F : x_F p s m _ meth c cX6_housed 1 RX6 (some .int) := F
  have hx := F.1
  have hb := F.2.1
  have hml := F.2.2.1
  have hown := F.2.2.2.1
  have hts := F.2.2.2.2.1
  refine x_entry (vs := [.ref (X.2.2 10 32)]) (n := 1) (Nat.le_of_ble_eq_true rfl) (fun ls hl => ?_)
  replace hl : lv_has ls 1 [(0, .ref (X.2.2 10 32))] := hl
  unfold fX6_housed at h
  refine lv_aload_n hx hb dX6_housed_0 rfl (lv_at hl 0 rfl) ?_
  refine xsg_6_0 F hI (x_inO (by decide)) u_fl_X6_12 dX6_housed_1 ?_
  refine xsg_2_0 F hI (x_inH (show 0 < 10 by decide) (by decide)) u_fl_X6_45 dX6_housed_4 ?_
  obtain ⟨r1, h2, h⟩ := x_bnd h
  have hI := x_toH 0 hI
  refine x_aci hI (x_runV (rest := []) F hI (mX1_countHoused l X σ 0 (show 0 < 10 by decide) _ (σ 0)  r1 h2) g_X6_171 ⟨rfl, hd_X1_countHoused⟩ ⟨by decide, by decide⟩ ⟨rfl, rfl⟩ (x_inH (show 0 < 10 by decide) (by decide)) rfl rfl rfl rfl hl.1 rfl (Nat.le_of_ble_eq_true rfl) dX6_housed_7 ⟨Nat.zero_le _, Nat.zero_le _⟩) (fun H locs hI => ?_)
  rw [x_sh_self] at hI
  rw [x_some h]
  exact x_iret F hI dX6_housed_10
abbrev rm_X6_leasedByRooms : Room := { frames := 1, cells := 0, slots := 0, locals := 23 }
def fX6_leasedByRooms (σ : x_S) : Option Int32 := (Option.bind (fX3_countRooms (σ 0) (2 : Int32)) fun r1 => some (r1))
set_option maxHeartbeats 4000000 in
set_option maxRecDepth 100000 in
theorem mX6_leasedByRooms (l : Launch) (X : x_T) (sz : Nat) (σ : x_S) (r : Int32) (h : fX6_leasedByRooms σ  = some r) : Met l yX6_leasedByRooms (x_ws yX6_leasedByRooms cX6_leasedByRooms 1 (some .int)) rm_X6_leasedByRooms (x_Pc X σ sz [.ref (X.2.2 10 32)]) (x_Qi X r σ sz) 0 0 (x_A X sz) := by
  refine Met.ofW (cc := cX6_leasedByRooms) (maxL := 1) (ret := (some .int)) (by decide) rfl ?_
  intro p e s m args below meth c s₁ B hml hv
  obtain ⟨F, hI, rfl, rfl⟩ := x_begin B hml hv
  replace F : x_F p s m _ meth c cX6_leasedByRooms 1 RX6 (some .int) := F
  have hx := F.1
  have hb := F.2.1
  have hml := F.2.2.1
  have hown := F.2.2.2.1
  have hts := F.2.2.2.2.1
  refine x_entry (vs := [.ref (X.2.2 10 32)]) (n := 1) (Nat.le_of_ble_eq_true rfl) (fun ls hl => ?_)
  replace hl : lv_has ls 1 [(0, .ref (X.2.2 10 32))] := hl
  unfold fX6_leasedByRooms at h
  refine lv_aload_n hx hb dX6_leasedByRooms_0 rfl (lv_at hl 0 rfl) ?_
  refine xsg_6_0 F hI (x_inO (by decide)) u_fl_X6_12 dX6_leasedByRooms_1 ?_
  refine xsg_2_1 F hI (x_inH (show 0 < 10 by decide) (by decide)) u_fl_X6_91 dX6_leasedByRooms_4 ?_
  refine lv_iconst (v := 2) hx hb dX6_leasedByRooms_7 (by decide) ?_
  obtain ⟨r1, h2, h⟩ := x_bnd h
  have hI := x_toH 0 hI
  refine x_aci hI (x_runV (rest := []) F hI (mX3_countRooms l X σ 0 (show 0 < 10 by decide) _ (σ 0) (2 : Int32) r1 h2) g_X6_208 ⟨rfl, hd_X3_countRooms⟩ ⟨by decide, by decide⟩ ⟨rfl, rfl⟩ (x_inH (show 0 < 10 by decide) (by decide)) rfl rfl rfl rfl hl.1 rfl (Nat.le_of_ble_eq_true rfl) dX6_leasedByRooms_8 ⟨Nat.zero_le _, Nat.zero_le _⟩) (fun H locs hI => ?_)
  rw [x_sh_self] at hI
  rw [x_some h]
  exact x_iret F hI dX6_leasedByRooms_11
abbrev rm_X6_leasedByGuests : Room := { frames := 1, cells := 0, slots := 0, locals := 22 }
def fX6_leasedByGuests (σ : x_S) : Option Int32 := (Option.bind (fX3_countLeasesOfGuests (σ 0) ) fun r1 => some (r1))
set_option maxHeartbeats 4000000 in
set_option maxRecDepth 100000 in
theorem mX6_leasedByGuests (l : Launch) (X : x_T) (sz : Nat) (σ : x_S) (r : Int32) (h : fX6_leasedByGuests σ  = some r) : Met l yX6_leasedByGuests (x_ws yX6_leasedByGuests cX6_leasedByGuests 1 (some .int)) rm_X6_leasedByGuests (x_Pc X σ sz [.ref (X.2.2 10 32)]) (x_Qi X r σ sz) 0 0 (x_A X sz) := by
  refine Met.ofW (cc := cX6_leasedByGuests) (maxL := 1) (ret := (some .int)) (by decide) rfl ?_
  intro p e s m args below meth c s₁ B hml hv
  obtain ⟨F, hI, rfl, rfl⟩ := x_begin B hml hv
  replace F : x_F p s m _ meth c cX6_leasedByGuests 1 RX6 (some .int) := F
  have hx := F.1
  have hb := F.2.1
  have hml := F.2.2.1
  have hown := F.2.2.2.1
  have hts := F.2.2.2.2.1
  refine x_entry (vs := [.ref (X.2.2 10 32)]) (n := 1) (Nat.le_of_ble_eq_true rfl) (fun ls hl => ?_)
  replace hl : lv_has ls 1 [(0, .ref (X.2.2 10 32))] := hl
  unfold fX6_leasedByGuests at h
  refine lv_aload_n hx hb dX6_leasedByGuests_0 rfl (lv_at hl 0 rfl) ?_
  refine xsg_6_0 F hI (x_inO (by decide)) u_fl_X6_12 dX6_leasedByGuests_1 ?_
  refine xsg_2_1 F hI (x_inH (show 0 < 10 by decide) (by decide)) u_fl_X6_91 dX6_leasedByGuests_4 ?_
  obtain ⟨r1, h2, h⟩ := x_bnd h
  have hI := x_toH 0 hI
  refine x_aci hI (x_runV (rest := []) F hI (mX3_countLeasesOfGuests l X σ 0 (show 0 < 10 by decide) _ (σ 0)  r1 h2) g_X6_211 ⟨rfl, hd_X3_countLeasesOfGuests⟩ ⟨by decide, by decide⟩ ⟨rfl, rfl⟩ (x_inH (show 0 < 10 by decide) (by decide)) rfl rfl rfl rfl hl.1 rfl (Nat.le_of_ble_eq_true rfl) dX6_leasedByGuests_7 ⟨Nat.zero_le _, Nat.zero_le _⟩) (fun H locs hI => ?_)
  rw [x_sh_self] at hI
  rw [x_some h]
  exact x_iret F hI dX6_leasedByGuests_10
abbrev rm_X6_freeRooms : Room := { frames := 1, cells := 0, slots := 0, locals := 23 }
def fX6_freeRooms (σ : x_S) : Option Int32 := (Option.bind (fX3_countRooms (σ 0) (0 : Int32)) fun r1 => some (r1))
set_option maxHeartbeats 4000000 in
set_option maxRecDepth 100000 in
theorem mX6_freeRooms (l : Launch) (X : x_T) (sz : Nat) (σ : x_S) (r : Int32) (h : fX6_freeRooms σ  = some r) : Met l yX6_freeRooms (x_ws yX6_freeRooms cX6_freeRooms 1 (some .int)) rm_X6_freeRooms (x_Pc X σ sz [.ref (X.2.2 10 32)]) (x_Qi X r σ sz) 0 0 (x_A X sz) := by
  refine Met.ofW (cc := cX6_freeRooms) (maxL := 1) (ret := (some .int)) (by decide) rfl ?_
  intro p e s m args below meth c s₁ B hml hv
  obtain ⟨F, hI, rfl, rfl⟩ := x_begin B hml hv
  replace F : x_F p s m _ meth c cX6_freeRooms 1 RX6 (some .int) := F
  have hx := F.1
  have hb := F.2.1
  have hml := F.2.2.1
  have hown := F.2.2.2.1
  have hts := F.2.2.2.2.1
  refine x_entry (vs := [.ref (X.2.2 10 32)]) (n := 1) (Nat.le_of_ble_eq_true rfl) (fun ls hl => ?_)
  replace hl : lv_has ls 1 [(0, .ref (X.2.2 10 32))] := hl
  unfold fX6_freeRooms at h
  refine lv_aload_n hx hb dX6_freeRooms_0 rfl (lv_at hl 0 rfl) ?_
  refine xsg_6_0 F hI (x_inO (by decide)) u_fl_X6_12 dX6_freeRooms_1 ?_
  refine xsg_2_1 F hI (x_inH (show 0 < 10 by decide) (by decide)) u_fl_X6_91 dX6_freeRooms_4 ?_
  refine lv_iconst (v := 0) hx hb dX6_freeRooms_7 (by decide) ?_
  obtain ⟨r1, h2, h⟩ := x_bnd h
  have hI := x_toH 0 hI
  refine x_aci hI (x_runV (rest := []) F hI (mX3_countRooms l X σ 0 (show 0 < 10 by decide) _ (σ 0) (0 : Int32) r1 h2) g_X6_208 ⟨rfl, hd_X3_countRooms⟩ ⟨by decide, by decide⟩ ⟨rfl, rfl⟩ (x_inH (show 0 < 10 by decide) (by decide)) rfl rfl rfl rfl hl.1 rfl (Nat.le_of_ble_eq_true rfl) dX6_freeRooms_8 ⟨Nat.zero_le _, Nat.zero_le _⟩) (fun H locs hI => ?_)
  rw [x_sh_self] at hI
  rw [x_some h]
  exact x_iret F hI dX6_freeRooms_11
abbrev rm_X6_holdTicks : Room := { frames := 0, cells := 0, slots := 0, locals := 0 }
def fX6_holdTicks (σ : x_S) : Option Int32 := some (σ 0 2 2)
set_option maxHeartbeats 4000000 in
set_option maxRecDepth 100000 in
theorem mX6_holdTicks (l : Launch) (X : x_T) (sz : Nat) (σ : x_S) (r : Int32) (h : fX6_holdTicks σ  = some r) : Met l yX6_holdTicks (x_ws yX6_holdTicks cX6_holdTicks 1 (some .int)) rm_X6_holdTicks (x_Pc X σ sz [.ref (X.2.2 10 32)]) (x_Qi X r σ sz) 0 0 (x_A X sz) := by
  refine Met.ofW (cc := cX6_holdTicks) (maxL := 1) (ret := (some .int)) (by decide) rfl ?_
  intro p e s m args below meth c s₁ B hml hv
  obtain ⟨F, hI, rfl, rfl⟩ := x_begin B hml hv
  replace F : x_F p s m _ meth c cX6_holdTicks 1 RX6 (some .int) := F
  have hx := F.1
  have hb := F.2.1
  have hml := F.2.2.1
  have hown := F.2.2.2.1
  have hts := F.2.2.2.2.1
  refine x_entry (vs := [.ref (X.2.2 10 32)]) (n := 1) (Nat.le_of_ble_eq_true rfl) (fun ls hl => ?_)
  replace hl : lv_has ls 1 [(0, .ref (X.2.2 10 32))] := hl
  unfold fX6_holdTicks at h
  refine lv_aload_n hx hb dX6_holdTicks_0 rfl (lv_at hl 0 rfl) ?_
  refine xsg_6_0 F hI (x_inO (by decide)) u_fl_X6_12 dX6_holdTicks_1 ?_
  refine xsg_2_1 F hI (x_inH (show 0 < 10 by decide) (by decide)) u_fl_X6_91 dX6_holdTicks_4 ?_
  refine xsg_3_9 F hI (x_inH (show 0 < 10 by decide) (by decide)) u_fl_X6_121 dX6_holdTicks_7 ?_
  rw [x_some h]
  exact x_iret F hI dX6_holdTicks_10
abbrev rm_X6_messages : Room := { frames := 0, cells := 0, slots := 0, locals := 0 }
def fX6_messages (σ : x_S) : Option Int32 := some (σ 0 3 0)
set_option maxHeartbeats 4000000 in
set_option maxRecDepth 100000 in
theorem mX6_messages (l : Launch) (X : x_T) (sz : Nat) (σ : x_S) (r : Int32) (h : fX6_messages σ  = some r) : Met l yX6_messages (x_ws yX6_messages cX6_messages 1 (some .int)) rm_X6_messages (x_Pc X σ sz [.ref (X.2.2 10 32)]) (x_Qi X r σ sz) 0 0 (x_A X sz) := by
  refine Met.ofW (cc := cX6_messages) (maxL := 1) (ret := (some .int)) (by decide) rfl ?_
  intro p e s m args below meth c s₁ B hml hv
  obtain ⟨F, hI, rfl, rfl⟩ := x_begin B hml hv
  replace F : x_F p s m _ meth c cX6_messages 1 RX6 (some .int) := F
  have hx := F.1
  have hb := F.2.1
  have hml := F.2.2.1
  have hown := F.2.2.2.1
  have hts := F.2.2.2.2.1
  refine x_entry (vs := [.ref (X.2.2 10 32)]) (n := 1) (Nat.le_of_ble_eq_true rfl) (fun ls hl => ?_)
  replace hl : lv_has ls 1 [(0, .ref (X.2.2 10 32))] := hl
  unfold fX6_messages at h
  refine lv_aload_n hx hb dX6_messages_0 rfl (lv_at hl 0 rfl) ?_
  refine xsg_6_0 F hI (x_inO (by decide)) u_fl_X6_12 dX6_messages_1 ?_
  refine xsg_2_2 F hI (x_inH (show 0 < 10 by decide) (by decide)) u_fl_X6_66 dX6_messages_4 ?_
  refine xsg_4_6 F hI (x_inH (show 0 < 10 by decide) (by decide)) u_fl_X6_70 dX6_messages_7 ?_
  rw [x_some h]
  exact x_iret F hI dX6_messages_10
abbrev rm_X6_time : Room := { frames := 0, cells := 0, slots := 0, locals := 0 }
def fX6_time (σ : x_S) : Option Int32 := some (σ 0 0 0)
set_option maxHeartbeats 4000000 in
set_option maxRecDepth 100000 in
theorem mX6_time (l : Launch) (X : x_T) (sz : Nat) (σ : x_S) (r : Int32) (h : fX6_time σ  = some r) : Met l yX6_time (x_ws yX6_time cX6_time 1 (some .int)) rm_X6_time (x_Pc X σ sz [.ref (X.2.2 10 32)]) (x_Qi X r σ sz) 0 0 (x_A X sz) := by
  refine Met.ofW (cc := cX6_time) (maxL := 1) (ret := (some .int)) (by decide) rfl ?_
  intro p e s m args below meth c s₁ B hml hv
  obtain ⟨F, hI, rfl, rfl⟩ := x_begin B hml hv
  replace F : x_F p s m _ meth c cX6_time 1 RX6 (some .int) := F
  have hx := F.1
  have hb := F.2.1
  have hml := F.2.2.1
  have hown := F.2.2.2.1
  have hts := F.2.2.2.2.1
  refine x_entry (vs := [.ref (X.2.2 10 32)]) (n := 1) (Nat.le_of_ble_eq_true rfl) (fun ls hl => ?_)
  replace hl : lv_has ls 1 [(0, .ref (X.2.2 10 32))] := hl
  unfold fX6_time at h
  refine lv_aload_n hx hb dX6_time_0 rfl (lv_at hl 0 rfl) ?_
  refine xsg_6_0 F hI (x_inO (by decide)) u_fl_X6_12 dX6_time_1 ?_
  refine xsg_2_4 F hI (x_inH (show 0 < 10 by decide) (by decide)) u_fl_X6_180 dX6_time_4 ?_
  rw [x_some h]
  exact x_iret F hI dX6_time_7
abbrev rm_X6_lost : Room := { frames := 0, cells := 0, slots := 0, locals := 0 }
def fX6_lost (σ : x_S) : Option Int32 := some (σ 0 0 2)
set_option maxHeartbeats 4000000 in
set_option maxRecDepth 100000 in
theorem mX6_lost (l : Launch) (X : x_T) (sz : Nat) (σ : x_S) (r : Int32) (h : fX6_lost σ  = some r) : Met l yX6_lost (x_ws yX6_lost cX6_lost 1 (some .int)) rm_X6_lost (x_Pc X σ sz [.ref (X.2.2 10 32)]) (x_Qi X r σ sz) 0 0 (x_A X sz) := by
  refine Met.ofW (cc := cX6_lost) (maxL := 1) (ret := (some .int)) (by decide) rfl ?_
  intro p e s m args below meth c s₁ B hml hv
  obtain ⟨F, hI, rfl, rfl⟩ := x_begin B hml hv
  replace F : x_F p s m _ meth c cX6_lost 1 RX6 (some .int) := F
  have hx := F.1
  have hb := F.2.1
  have hml := F.2.2.1
  have hown := F.2.2.2.1
  have hts := F.2.2.2.2.1
  refine x_entry (vs := [.ref (X.2.2 10 32)]) (n := 1) (Nat.le_of_ble_eq_true rfl) (fun ls hl => ?_)
  replace hl : lv_has ls 1 [(0, .ref (X.2.2 10 32))] := hl
  unfold fX6_lost at h
  refine lv_aload_n hx hb dX6_lost_0 rfl (lv_at hl 0 rfl) ?_
  refine xsg_6_0 F hI (x_inO (by decide)) u_fl_X6_12 dX6_lost_1 ?_
  refine xsg_2_6 F hI (x_inH (show 0 < 10 by decide) (by decide)) u_fl_X6_228 dX6_lost_4 ?_
  rw [x_some h]
  exact x_iret F hI dX6_lost_7
abbrev rm_X6_delivered : Room := { frames := 0, cells := 0, slots := 0, locals := 0 }
def fX6_delivered (σ : x_S) : Option Int32 := some (σ 0 0 3)
set_option maxHeartbeats 4000000 in
set_option maxRecDepth 100000 in
theorem mX6_delivered (l : Launch) (X : x_T) (sz : Nat) (σ : x_S) (r : Int32) (h : fX6_delivered σ  = some r) : Met l yX6_delivered (x_ws yX6_delivered cX6_delivered 1 (some .int)) rm_X6_delivered (x_Pc X σ sz [.ref (X.2.2 10 32)]) (x_Qi X r σ sz) 0 0 (x_A X sz) := by
  refine Met.ofW (cc := cX6_delivered) (maxL := 1) (ret := (some .int)) (by decide) rfl ?_
  intro p e s m args below meth c s₁ B hml hv
  obtain ⟨F, hI, rfl, rfl⟩ := x_begin B hml hv
  replace F : x_F p s m _ meth c cX6_delivered 1 RX6 (some .int) := F
  have hx := F.1
  have hb := F.2.1
  have hml := F.2.2.1
  have hown := F.2.2.2.1
  have hts := F.2.2.2.2.1
  refine x_entry (vs := [.ref (X.2.2 10 32)]) (n := 1) (Nat.le_of_ble_eq_true rfl) (fun ls hl => ?_)
  replace hl : lv_has ls 1 [(0, .ref (X.2.2 10 32))] := hl
  unfold fX6_delivered at h
  refine lv_aload_n hx hb dX6_delivered_0 rfl (lv_at hl 0 rfl) ?_
  refine xsg_6_0 F hI (x_inO (by decide)) u_fl_X6_12 dX6_delivered_1 ?_
  refine xsg_2_7 F hI (x_inH (show 0 < 10 by decide) (by decide)) u_fl_X6_231 dX6_delivered_4 ?_
  rw [x_some h]
  exact x_iret F hI dX6_delivered_7
abbrev rm_X6_leases : Room := { frames := 0, cells := 0, slots := 0, locals := 0 }
def fX6_leases (σ : x_S) : Option Int32 := some (σ 0 0 4)
set_option maxHeartbeats 4000000 in
set_option maxRecDepth 100000 in
theorem mX6_leases (l : Launch) (X : x_T) (sz : Nat) (σ : x_S) (r : Int32) (h : fX6_leases σ  = some r) : Met l yX6_leases (x_ws yX6_leases cX6_leases 1 (some .int)) rm_X6_leases (x_Pc X σ sz [.ref (X.2.2 10 32)]) (x_Qi X r σ sz) 0 0 (x_A X sz) := by
  refine Met.ofW (cc := cX6_leases) (maxL := 1) (ret := (some .int)) (by decide) rfl ?_
  intro p e s m args below meth c s₁ B hml hv
  obtain ⟨F, hI, rfl, rfl⟩ := x_begin B hml hv
  replace F : x_F p s m _ meth c cX6_leases 1 RX6 (some .int) := F
  have hx := F.1
  have hb := F.2.1
  have hml := F.2.2.1
  have hown := F.2.2.2.1
  have hts := F.2.2.2.2.1
  refine x_entry (vs := [.ref (X.2.2 10 32)]) (n := 1) (Nat.le_of_ble_eq_true rfl) (fun ls hl => ?_)
  replace hl : lv_has ls 1 [(0, .ref (X.2.2 10 32))] := hl
  unfold fX6_leases at h
  refine lv_aload_n hx hb dX6_leases_0 rfl (lv_at hl 0 rfl) ?_
  refine xsg_6_0 F hI (x_inO (by decide)) u_fl_X6_12 dX6_leases_1 ?_
  refine xsg_2_8 F hI (x_inH (show 0 < 10 by decide) (by decide)) u_fl_X6_234 dX6_leases_4 ?_
  rw [x_some h]
  exact x_iret F hI dX6_leases_7
abbrev rm_X6_tryDeliveringAll : Room := { frames := 5, cells := 0, slots := 0, locals := 119 }
def fX6_tryDeliveringAll (σ : x_S) : Option (Int32 × x_S) := x_let (x_sh σ 1 (σ 0)) fun τ1 => (Option.bind (fX2_deliverEach (τ1 1) ) fun r3 => x_let (x_sh τ1 1 r3.2) fun τ5 => some (r3.1, τ5))
set_option maxHeartbeats 4000000 in
set_option maxRecDepth 100000 in
theorem mX6_tryDeliveringAll (l : Launch) (X : x_T) (sz : Nat) (σ : x_S) (r : (Int32 × x_S)) (h : fX6_tryDeliveringAll σ  = some r) : Met l yX6_tryDeliveringAll (x_ws yX6_tryDeliveringAll cX6_tryDeliveringAll 1 (some .int)) rm_X6_tryDeliveringAll (x_Pc X σ sz [.ref (X.2.2 10 32)]) (x_Qi X r.1 r.2 sz) 0 0 (x_A X sz) := by
  refine Met.ofW (cc := cX6_tryDeliveringAll) (maxL := 1) (ret := (some .int)) (by decide) rfl ?_
  intro p e s m args below meth c s₁ B hml hv
  obtain ⟨F, hI, rfl, rfl⟩ := x_begin B hml hv
  replace F : x_F p s m _ meth c cX6_tryDeliveringAll 1 RX6 (some .int) := F
  have hx := F.1
  have hb := F.2.1
  have hml := F.2.2.1
  have hown := F.2.2.2.1
  have hts := F.2.2.2.2.1
  refine x_entry (vs := [.ref (X.2.2 10 32)]) (n := 1) (Nat.le_of_ble_eq_true rfl) (fun ls hl => ?_)
  replace hl : lv_has ls 1 [(0, .ref (X.2.2 10 32))] := hl
  unfold fX6_tryDeliveringAll at h
  refine lv_aload_n hx hb dX6_tryDeliveringAll_0 rfl (lv_at hl 0 rfl) ?_
  refine xsg_6_1 F hI (x_inO (by decide)) u_fl_X6_16 dX6_tryDeliveringAll_1 ?_
  refine lv_aload_n hx hb dX6_tryDeliveringAll_4 rfl (lv_at hl 0 rfl) ?_
  refine xsg_6_0 F hI (x_inO (by decide)) u_fl_X6_12 dX6_tryDeliveringAll_5 ?_
  refine x_acv hI (x_runV (rest := []) F hI (mX2_copyFromN l X σ 0 1 (show 0 < 10 by decide) (show 1 < 10 by decide) (by decide) _) g_X6_164 ⟨rfl, hd_X2_copyFrom⟩ ⟨by decide, by decide⟩ ⟨rfl, rfl⟩ (x_inH (show 1 < 10 by decide) (by decide)) rfl rfl rfl rfl hl.1 rfl (Nat.le_of_ble_eq_true rfl) dX6_tryDeliveringAll_8 ⟨Nat.zero_le _, Nat.zero_le _⟩) (fun H locs hI => ?_)
  obtain ⟨τ1, e2⟩ : ∃ z : x_S, z = (x_sh σ 1 (σ 0)) := ⟨_, rfl⟩
  rw [← e2] at hI
  have h := x_let_at h e2
  refine lv_aload_n hx hb dX6_tryDeliveringAll_11 rfl (lv_at hl 0 rfl) ?_
  refine xsg_6_1 F hI (x_inO (by decide)) u_fl_X6_16 dX6_tryDeliveringAll_12 ?_
  obtain ⟨r3, h4, h⟩ := x_bnd h
  have hI := x_toH 1 hI
  refine x_aci hI (x_runV (rest := []) F hI (mX2_deliverEach l X τ1 1 (show 1 < 10 by decide) _ (τ1 1)  r3 h4) g_X6_136 ⟨rfl, hd_X2_deliverEach⟩ ⟨by decide, by decide⟩ ⟨rfl, rfl⟩ (x_inH (show 1 < 10 by decide) (by decide)) rfl rfl rfl rfl hl.1 rfl (Nat.le_of_ble_eq_true rfl) dX6_tryDeliveringAll_15 ⟨Nat.zero_le _, Nat.zero_le _⟩) (fun H locs hI => ?_)
  obtain ⟨τ5, e6⟩ : ∃ z : x_S, z = (x_sh τ1 1 r3.2) := ⟨_, rfl⟩
  rw [← e6] at hI
  have h := x_let_at h e6
  rw [x_some h]
  exact x_iret F hI dX6_tryDeliveringAll_18
abbrev rm_X6_wouldDeliver : Room := { frames := 6, cells := 0, slots := 0, locals := 139 }
def fX6_wouldDeliver (σ : x_S) : Option (Int32 × x_S) := (Option.bind (fX6_tryDeliveringAll σ ) fun r1 => some (r1.1, r1.2))
set_option maxHeartbeats 4000000 in
set_option maxRecDepth 100000 in
theorem mX6_wouldDeliver (l : Launch) (X : x_T) (sz : Nat) (σ : x_S) (r : (Int32 × x_S)) (h : fX6_wouldDeliver σ  = some r) : Met l yX6_wouldDeliver (x_ws yX6_wouldDeliver cX6_wouldDeliver 1 (some .int)) rm_X6_wouldDeliver (x_Pc X σ sz [.ref (X.2.2 10 32)]) (x_Qi X r.1 r.2 sz) 0 0 (x_A X sz) := by
  refine Met.ofW (cc := cX6_wouldDeliver) (maxL := 1) (ret := (some .int)) (by decide) rfl ?_
  intro p e s m args below meth c s₁ B hml hv
  obtain ⟨F, hI, rfl, rfl⟩ := x_begin B hml hv
  replace F : x_F p s m _ meth c cX6_wouldDeliver 1 RX6 (some .int) := F
  have hx := F.1
  have hb := F.2.1
  have hml := F.2.2.1
  have hown := F.2.2.2.1
  have hts := F.2.2.2.2.1
  refine x_entry (vs := [.ref (X.2.2 10 32)]) (n := 1) (Nat.le_of_ble_eq_true rfl) (fun ls hl => ?_)
  replace hl : lv_has ls 1 [(0, .ref (X.2.2 10 32))] := hl
  unfold fX6_wouldDeliver at h
  refine lv_aload_n hx hb dX6_wouldDeliver_0 rfl (lv_at hl 0 rfl) ?_
  obtain ⟨r1, h2, h⟩ := x_bnd h
  refine x_aci hI (x_runV (rest := []) F hI (mX6_tryDeliveringAll l X _ σ  r1 h2) g_X6_243 ⟨rfl, hd_X6_tryDeliveringAll⟩ ⟨by decide, by decide⟩ ⟨rfl, rfl⟩ (x_inO (by decide)) rfl rfl rfl rfl hl.1 rfl (Nat.le_of_ble_eq_true rfl) dX6_wouldDeliver_1 ⟨Nat.zero_le _, Nat.zero_le _⟩) (fun H locs hI => ?_)
  rw [x_some h]
  exact x_iret F hI dX6_wouldDeliver_4
abbrev rm_X6_wouldHouse : Room := { frames := 6, cells := 0, slots := 0, locals := 139 }
def fX6_wouldHouse (σ : x_S) : Option (Int32 × x_S) := (Option.bind (fX6_tryDeliveringAll σ ) fun r1 => (Option.bind (fX1_countHoused (r1.2 1) ) fun r3 => some (r3, r1.2)))
set_option maxHeartbeats 4000000 in
set_option maxRecDepth 100000 in
theorem mX6_wouldHouse (l : Launch) (X : x_T) (sz : Nat) (σ : x_S) (r : (Int32 × x_S)) (h : fX6_wouldHouse σ  = some r) : Met l yX6_wouldHouse (x_ws yX6_wouldHouse cX6_wouldHouse 1 (some .int)) rm_X6_wouldHouse (x_Pc X σ sz [.ref (X.2.2 10 32)]) (x_Qi X r.1 r.2 sz) 0 0 (x_A X sz) := by
  refine Met.ofW (cc := cX6_wouldHouse) (maxL := 1) (ret := (some .int)) (by decide) rfl ?_
  intro p e s m args below meth c s₁ B hml hv
  obtain ⟨F, hI, rfl, rfl⟩ := x_begin B hml hv
  replace F : x_F p s m _ meth c cX6_wouldHouse 1 RX6 (some .int) := F
  have hx := F.1
  have hb := F.2.1
  have hml := F.2.2.1
  have hown := F.2.2.2.1
  have hts := F.2.2.2.2.1
  refine x_entry (vs := [.ref (X.2.2 10 32)]) (n := 1) (Nat.le_of_ble_eq_true rfl) (fun ls hl => ?_)
  replace hl : lv_has ls 1 [(0, .ref (X.2.2 10 32))] := hl
  unfold fX6_wouldHouse at h
  refine lv_aload_n hx hb dX6_wouldHouse_0 rfl (lv_at hl 0 rfl) ?_
  obtain ⟨r1, h2, h⟩ := x_bnd h
  refine x_aci hI (x_runV (rest := []) F hI (mX6_tryDeliveringAll l X _ σ  r1 h2) g_X6_243 ⟨rfl, hd_X6_tryDeliveringAll⟩ ⟨by decide, by decide⟩ ⟨rfl, rfl⟩ (x_inO (by decide)) rfl rfl rfl rfl hl.1 rfl (Nat.le_of_ble_eq_true rfl) dX6_wouldHouse_1 ⟨Nat.zero_le _, Nat.zero_le _⟩) (fun H locs hI => ?_)
  refine lv_pop hx hb dX6_wouldHouse_4 rfl ?_
  refine lv_aload_n hx hb dX6_wouldHouse_5 rfl (lv_at hl 0 rfl) ?_
  refine xsg_6_1 F hI (x_inO (by decide)) u_fl_X6_16 dX6_wouldHouse_6 ?_
  refine xsg_2_0 F hI (x_inH (show 1 < 10 by decide) (by decide)) u_fl_X6_45 dX6_wouldHouse_9 ?_
  obtain ⟨r3, h4, h⟩ := x_bnd h
  have hI := x_toH 1 hI
  refine x_aci hI (x_runV (rest := []) F hI (mX1_countHoused l X r1.2 1 (show 1 < 10 by decide) _ (r1.2 1)  r3 h4) g_X6_171 ⟨rfl, hd_X1_countHoused⟩ ⟨by decide, by decide⟩ ⟨rfl, rfl⟩ (x_inH (show 1 < 10 by decide) (by decide)) rfl rfl rfl rfl hl.1 rfl (Nat.le_of_ble_eq_true rfl) dX6_wouldHouse_12 ⟨Nat.zero_le _, Nat.zero_le _⟩) (fun H locs hI => ?_)
  rw [x_sh_self] at hI
  rw [x_some h]
  exact x_iret F hI dX6_wouldHouse_15
abbrev rm_X6_mixGuests : Room := { frames := 3, cells := 0, slots := 0, locals := 62 }
def fX6_mixGuests_b14 : Nat → x_S → Int64 → Int32 → Option Int64
  | 0, _, _, _ => none
  | n + 1, σ, y3, y6 => (if (12 : Int32) ≤ y6 then (Option.bind (fX1_countHoused (σ 0) ) fun r2 => (Option.bind (fX6_mix y3 r2.toInt64) fun r4 => some (r4))) else (if x_in y6 12 then (Option.bind (fX6_mix y3 ((σ 0 5 (Int32.toNatClampNeg y6))).toInt64) fun r7 => (Option.bind (fX6_mix r7 (((σ 0 6 (Int32.toNatClampNeg y6)) + (1 : Int32))).toInt64) fun r9 => (Option.bind (fX1_ticksUntilEnd (σ 0) y6 (σ 0 0 0)) fun r11 => (Option.bind (fX6_mix r9 r11.toInt64) fun r13 => (Option.bind (fX1_ticksUntilAsking (σ 0) y6 (σ 0 0 0)) fun r15 => (Option.bind (fX6_mix r13 r15.toInt64) fun r17 => (Option.bind (fX2_sleepsByGhost (σ 0) y6) fun r19 => (if r19 = 0 then (Option.bind (fX6_mix r17 (0 : Int64)) fun r22 => (Option.bind (fX6_mix r22 ((σ 0 11 (Int32.toNatClampNeg y6))).toInt64) fun r24 => (Option.bind (fX3_roomToOffer (σ 0) y6) fun r26 => (Option.bind (fX6_mix r24 ((r26 + (1 : Int32))).toInt64) fun r28 => x_let (y6 + (1 : Int32)) fun x30 => fX6_mixGuests_b14 n σ r28 x30)))) else (Option.bind (fX6_mix r17 (1 : Int64)) fun r32 => (Option.bind (fX6_mix r32 ((σ 0 11 (Int32.toNatClampNeg y6))).toInt64) fun r34 => (Option.bind (fX3_roomToOffer (σ 0) y6) fun r36 => (Option.bind (fX6_mix r34 ((r36 + (1 : Int32))).toInt64) fun r38 => x_let (y6 + (1 : Int32)) fun x40 => fX6_mixGuests_b14 n σ r38 x40)))))))))))) else none))
set_option maxHeartbeats 4000000 in
set_option maxRecDepth 100000 in
theorem wX6_mixGuests_b14 {p : Program} {l : Launch} {e : Env} {s : State} {m : MethodId} {args : Array Value} {below : List Frame} {meth : Method} {c : Code} {X : x_T} {r : Int64} (F : x_F p s m args meth c cX6_mixGuests 7 RX6 (some .long)) : ∀ (n : Nat) (σ : x_S) (y3 : Int64) (y6 : Int32) (H : Heap) (locs : List Loc) (ls : Array Slot), fX6_mixGuests_b14 n σ y3 y6 = some r → x_I X σ s H locs → lv_has ls 7 [(0, .ref (X.2.2 10 32)), (3, .long y3), (5, .ref (X.2.2 0 1)), (6, .int y6)] → W p l e rm_X6_mixGuests s m args below meth c H locs 0 0 (MQ below (x_Ql X r σ s.heap.size) args s 0 0 (x_A X s.heap.size)) (F0 m 14 ls []) := by
  have hx := F.1
  have hb := F.2.1
  have hml := F.2.2.1
  have hown := F.2.2.2.1
  have hts := F.2.2.2.2.1
  intro n
  induction n with
  | zero =>
    intro σ y3 y6 H locs ls h
    rw [fX6_mixGuests_b14] at h
    cases h
  | succ n ih =>
    intro σ y3 y6 H locs ls h hI hl
    rw [fX6_mixGuests_b14] at h
    refine lv_iload hx hb dX6_mixGuests_14 (lv_at hl 3 rfl) ?_
    refine lv_bipush (v := 12) hx hb dX6_mixGuests_16 (by decide) ?_
    refine lv_icmp_ge (tgt := 153) hx hb dX6_mixGuests_18 (by decide) (fun c1 => ?_) (fun c1 => ?_)
    · have h := x_ift h c1
      refine lv_lload_n hx hb dX6_mixGuests_153 rfl (lv_at hl 1 rfl) ?_
      refine lv_aload hx hb dX6_mixGuests_154 (lv_at hl 2 rfl) ?_
      obtain ⟨r2, h3, h⟩ := x_bnd h
      have hI := x_toH 0 hI
      refine x_aci hI (x_runV (rest := [.long y3]) F hI (mX1_countHoused l X σ 0 (show 0 < 10 by decide) _ (σ 0)  r2 h3) g_X6_171 ⟨rfl, hd_X1_countHoused⟩ ⟨by decide, by decide⟩ ⟨rfl, rfl⟩ (x_inH (show 0 < 10 by decide) (by decide)) rfl rfl rfl rfl hl.1 rfl (Nat.le_of_ble_eq_true rfl) dX6_mixGuests_156 ⟨Nat.zero_le _, Nat.zero_le _⟩) (fun H locs hI => ?_)
      rw [x_sh_self] at hI
      refine lv_i2l hx hb dX6_mixGuests_159 rfl ?_
      obtain ⟨r4, h5, h⟩ := x_bnd h
      refine x_acl hI (x_runS (rest := []) F hI (mX6_mix l X σ _ y3 r2.toInt64 r4 h5) g_X6_263 hd_X6_mix ⟨by decide, by decide⟩ ⟨rfl, rfl⟩ rfl hl.1 rfl (Nat.le_of_ble_eq_true rfl) dX6_mixGuests_160 ⟨Nat.zero_le _, Nat.zero_le _⟩) (fun H locs hI => ?_)
      rw [x_some h]
      exact x_lret F hI dX6_mixGuests_163
    · have h := x_iff h c1
      refine lv_lload_n hx hb dX6_mixGuests_21 rfl (lv_at hl 1 rfl) ?_
      refine lv_aload hx hb dX6_mixGuests_22 (lv_at hl 2 rfl) ?_
      refine xsg_1_0 F hI (x_inH (show 0 < 10 by decide) (by decide)) u_fl_X6_49 dX6_mixGuests_24 ?_
      refine lv_iload hx hb dX6_mixGuests_27 (lv_at hl 3 rfl) ?_
      obtain ⟨g6, h⟩ := x_chk h
      refine x_iald (n := 12) F hI (x_inH (show 0 < 10 by decide) (by decide)) (fun _ => rfl) g6 dX6_mixGuests_29 ?_
      refine lv_i2l hx hb dX6_mixGuests_30 rfl ?_
      obtain ⟨r7, h8, h⟩ := x_bnd h
      refine x_acl hI (x_runS (rest := []) F hI (mX6_mix l X σ _ y3 ((σ 0 5 (Int32.toNatClampNeg y6))).toInt64 r7 h8) g_X6_263 hd_X6_mix ⟨by decide, by decide⟩ ⟨rfl, rfl⟩ rfl hl.1 rfl (Nat.le_of_ble_eq_true rfl) dX6_mixGuests_31 ⟨Nat.zero_le _, Nat.zero_le _⟩) (fun H locs hI => ?_)
      refine lv_lstore_n (lv' := [(3, .long r7), (0, .ref (X.2.2 10 32)), (5, .ref (X.2.2 0 1)), (6, .int y6)]) hx hb dX6_mixGuests_34 rfl hl (by decide) rfl (fun ls hl => ?_)
      refine lv_lload_n hx hb dX6_mixGuests_35 rfl (lv_at hl 0 rfl) ?_
      refine lv_aload hx hb dX6_mixGuests_36 (lv_at hl 2 rfl) ?_
      refine xsg_1_1 F hI (x_inH (show 0 < 10 by decide) (by decide)) u_fl_X6_76 dX6_mixGuests_38 ?_
      refine lv_iload hx hb dX6_mixGuests_41 (lv_at hl 3 rfl) ?_
      refine x_iald (n := 12) F hI (x_inH (show 0 < 10 by decide) (by decide)) (fun _ => rfl) g6 dX6_mixGuests_43 ?_
      refine lv_iconst (v := 1) hx hb dX6_mixGuests_44 (by decide) ?_
      refine lv_iadd hx hb dX6_mixGuests_45 ?_
      refine lv_i2l hx hb dX6_mixGuests_46 rfl ?_
      obtain ⟨r9, h10, h⟩ := x_bnd h
      refine x_acl hI (x_runS (rest := []) F hI (mX6_mix l X σ _ r7 (((σ 0 6 (Int32.toNatClampNeg y6)) + (1 : Int32))).toInt64 r9 h10) g_X6_263 hd_X6_mix ⟨by decide, by decide⟩ ⟨rfl, rfl⟩ rfl hl.1 rfl (Nat.le_of_ble_eq_true rfl) dX6_mixGuests_47 ⟨Nat.zero_le _, Nat.zero_le _⟩) (fun H locs hI => ?_)
      refine lv_lstore_n (lv' := [(3, .long r9), (0, .ref (X.2.2 10 32)), (5, .ref (X.2.2 0 1)), (6, .int y6)]) hx hb dX6_mixGuests_50 rfl hl (by decide) rfl (fun ls hl => ?_)
      refine lv_lload_n hx hb dX6_mixGuests_51 rfl (lv_at hl 0 rfl) ?_
      refine lv_aload hx hb dX6_mixGuests_52 (lv_at hl 2 rfl) ?_
      refine lv_iload hx hb dX6_mixGuests_54 (lv_at hl 3 rfl) ?_
      refine lv_aload_n hx hb dX6_mixGuests_56 rfl (lv_at hl 1 rfl) ?_
      refine xsg_6_0 F hI (x_inO (by decide)) u_fl_X6_12 dX6_mixGuests_57 ?_
      refine xsg_2_4 F hI (x_inH (show 0 < 10 by decide) (by decide)) u_fl_X6_180 dX6_mixGuests_60 ?_
      obtain ⟨r11, h12, h⟩ := x_bnd h
      have hI := x_toH 0 hI
      refine x_aci hI (x_runV (rest := [.long r9]) F hI (mX1_ticksUntilEnd l X σ 0 (show 0 < 10 by decide) _ (σ 0) y6 (σ 0 0 0) r11 h12) g_X6_183 ⟨rfl, hd_X1_ticksUntilEnd⟩ ⟨by decide, by decide⟩ ⟨rfl, rfl⟩ (x_inH (show 0 < 10 by decide) (by decide)) rfl rfl rfl rfl hl.1 rfl (Nat.le_of_ble_eq_true rfl) dX6_mixGuests_63 ⟨Nat.zero_le _, Nat.zero_le _⟩) (fun H locs hI => ?_)
      rw [x_sh_self] at hI
      refine lv_i2l hx hb dX6_mixGuests_66 rfl ?_
      obtain ⟨r13, h14, h⟩ := x_bnd h
      refine x_acl hI (x_runS (rest := []) F hI (mX6_mix l X σ _ r9 r11.toInt64 r13 h14) g_X6_263 hd_X6_mix ⟨by decide, by decide⟩ ⟨rfl, rfl⟩ rfl hl.1 rfl (Nat.le_of_ble_eq_true rfl) dX6_mixGuests_67 ⟨Nat.zero_le _, Nat.zero_le _⟩) (fun H locs hI => ?_)
      refine lv_lstore_n (lv' := [(3, .long r13), (0, .ref (X.2.2 10 32)), (5, .ref (X.2.2 0 1)), (6, .int y6)]) hx hb dX6_mixGuests_70 rfl hl (by decide) rfl (fun ls hl => ?_)
      refine lv_lload_n hx hb dX6_mixGuests_71 rfl (lv_at hl 0 rfl) ?_
      refine lv_aload hx hb dX6_mixGuests_72 (lv_at hl 2 rfl) ?_
      refine lv_iload hx hb dX6_mixGuests_74 (lv_at hl 3 rfl) ?_
      refine lv_aload_n hx hb dX6_mixGuests_76 rfl (lv_at hl 1 rfl) ?_
      refine xsg_6_0 F hI (x_inO (by decide)) u_fl_X6_12 dX6_mixGuests_77 ?_
      refine xsg_2_4 F hI (x_inH (show 0 < 10 by decide) (by decide)) u_fl_X6_180 dX6_mixGuests_80 ?_
      obtain ⟨r15, h16, h⟩ := x_bnd h
      have hI := x_toH 0 hI
      refine x_aci hI (x_runV (rest := [.long r13]) F hI (mX1_ticksUntilAsking l X σ 0 (show 0 < 10 by decide) _ (σ 0) y6 (σ 0 0 0) r15 h16) g_X6_187 ⟨rfl, hd_X1_ticksUntilAsking⟩ ⟨by decide, by decide⟩ ⟨rfl, rfl⟩ (x_inH (show 0 < 10 by decide) (by decide)) rfl rfl rfl rfl hl.1 rfl (Nat.le_of_ble_eq_true rfl) dX6_mixGuests_83 ⟨Nat.zero_le _, Nat.zero_le _⟩) (fun H locs hI => ?_)
      rw [x_sh_self] at hI
      refine lv_i2l hx hb dX6_mixGuests_86 rfl ?_
      obtain ⟨r17, h18, h⟩ := x_bnd h
      refine x_acl hI (x_runS (rest := []) F hI (mX6_mix l X σ _ r13 r15.toInt64 r17 h18) g_X6_263 hd_X6_mix ⟨by decide, by decide⟩ ⟨rfl, rfl⟩ rfl hl.1 rfl (Nat.le_of_ble_eq_true rfl) dX6_mixGuests_87 ⟨Nat.zero_le _, Nat.zero_le _⟩) (fun H locs hI => ?_)
      refine lv_lstore_n (lv' := [(3, .long r17), (0, .ref (X.2.2 10 32)), (5, .ref (X.2.2 0 1)), (6, .int y6)]) hx hb dX6_mixGuests_90 rfl hl (by decide) rfl (fun ls hl => ?_)
      refine lv_lload_n hx hb dX6_mixGuests_91 rfl (lv_at hl 0 rfl) ?_
      refine lv_aload_n hx hb dX6_mixGuests_92 rfl (lv_at hl 1 rfl) ?_
      refine xsg_6_0 F hI (x_inO (by decide)) u_fl_X6_12 dX6_mixGuests_93 ?_
      refine lv_iload hx hb dX6_mixGuests_96 (lv_at hl 3 rfl) ?_
      obtain ⟨r19, h20, h⟩ := x_bnd h
      have hI := x_toH 0 hI
      refine x_aci hI (x_runV (rest := [.long r17]) F hI (mX2_sleepsByGhost l X σ 0 (show 0 < 10 by decide) _ (σ 0) y6 r19 h20) g_X6_190 ⟨rfl, hd_X2_sleepsByGhost⟩ ⟨by decide, by decide⟩ ⟨rfl, rfl⟩ (x_inH (show 0 < 10 by decide) (by decide)) rfl rfl rfl rfl hl.1 rfl (Nat.le_of_ble_eq_true rfl) dX6_mixGuests_98 ⟨Nat.zero_le _, Nat.zero_le _⟩) (fun H locs hI => ?_)
      rw [x_sh_self] at hI
      refine lv_if_eq (tgt := 108) hx hb dX6_mixGuests_101 (by decide) (fun c21 => ?_) (fun c21 => ?_)
      · have h := x_ift h c21
        refine lv_lconst (v := 0) hx hb dX6_mixGuests_108 (by decide) ?_
        obtain ⟨r22, h23, h⟩ := x_bnd h
        refine x_acl hI (x_runS (rest := []) F hI (mX6_mix l X σ _ r17 (0 : Int64) r22 h23) g_X6_263 hd_X6_mix ⟨by decide, by decide⟩ ⟨rfl, rfl⟩ rfl hl.1 rfl (Nat.le_of_ble_eq_true rfl) dX6_mixGuests_109 ⟨Nat.zero_le _, Nat.zero_le _⟩) (fun H locs hI => ?_)
        refine lv_lstore_n (lv' := [(3, .long r22), (0, .ref (X.2.2 10 32)), (5, .ref (X.2.2 0 1)), (6, .int y6)]) hx hb dX6_mixGuests_112 rfl hl (by decide) rfl (fun ls hl => ?_)
        refine lv_lload_n hx hb dX6_mixGuests_113 rfl (lv_at hl 0 rfl) ?_
        refine lv_aload hx hb dX6_mixGuests_114 (lv_at hl 2 rfl) ?_
        refine xsg_1_6 F hI (x_inH (show 0 < 10 by decide) (by decide)) u_fl_X6_193 dX6_mixGuests_116 ?_
        refine lv_iload hx hb dX6_mixGuests_119 (lv_at hl 3 rfl) ?_
        refine x_iald (n := 12) F hI (x_inH (show 0 < 10 by decide) (by decide)) (fun _ => rfl) g6 dX6_mixGuests_121 ?_
        refine lv_i2l hx hb dX6_mixGuests_122 rfl ?_
        obtain ⟨r24, h25, h⟩ := x_bnd h
        refine x_acl hI (x_runS (rest := []) F hI (mX6_mix l X σ _ r22 ((σ 0 11 (Int32.toNatClampNeg y6))).toInt64 r24 h25) g_X6_263 hd_X6_mix ⟨by decide, by decide⟩ ⟨rfl, rfl⟩ rfl hl.1 rfl (Nat.le_of_ble_eq_true rfl) dX6_mixGuests_123 ⟨Nat.zero_le _, Nat.zero_le _⟩) (fun H locs hI => ?_)
        refine lv_lstore_n (lv' := [(3, .long r24), (0, .ref (X.2.2 10 32)), (5, .ref (X.2.2 0 1)), (6, .int y6)]) hx hb dX6_mixGuests_126 rfl hl (by decide) rfl (fun ls hl => ?_)
        refine lv_lload_n hx hb dX6_mixGuests_127 rfl (lv_at hl 0 rfl) ?_
        refine lv_aload_n hx hb dX6_mixGuests_128 rfl (lv_at hl 1 rfl) ?_
        refine xsg_6_0 F hI (x_inO (by decide)) u_fl_X6_12 dX6_mixGuests_129 ?_
        refine xsg_2_1 F hI (x_inH (show 0 < 10 by decide) (by decide)) u_fl_X6_91 dX6_mixGuests_132 ?_
        refine lv_iload hx hb dX6_mixGuests_135 (lv_at hl 3 rfl) ?_
        obtain ⟨r26, h27, h⟩ := x_bnd h
        have hI := x_toH 0 hI
        refine x_aci hI (x_runV (rest := [.long r24]) F hI (mX3_roomToOffer l X σ 0 (show 0 < 10 by decide) _ (σ 0) y6 r26 h27) g_X6_205 ⟨rfl, hd_X3_roomToOffer⟩ ⟨by decide, by decide⟩ ⟨rfl, rfl⟩ (x_inH (show 0 < 10 by decide) (by decide)) rfl rfl rfl rfl hl.1 rfl (Nat.le_of_ble_eq_true rfl) dX6_mixGuests_137 ⟨Nat.zero_le _, Nat.zero_le _⟩) (fun H locs hI => ?_)
        rw [x_sh_self] at hI
        refine lv_iconst (v := 1) hx hb dX6_mixGuests_140 (by decide) ?_
        refine lv_iadd hx hb dX6_mixGuests_141 ?_
        refine lv_i2l hx hb dX6_mixGuests_142 rfl ?_
        obtain ⟨r28, h29, h⟩ := x_bnd h
        refine x_acl hI (x_runS (rest := []) F hI (mX6_mix l X σ _ r24 ((r26 + (1 : Int32))).toInt64 r28 h29) g_X6_263 hd_X6_mix ⟨by decide, by decide⟩ ⟨rfl, rfl⟩ rfl hl.1 rfl (Nat.le_of_ble_eq_true rfl) dX6_mixGuests_143 ⟨Nat.zero_le _, Nat.zero_le _⟩) (fun H locs hI => ?_)
        refine lv_lstore_n (lv' := [(3, .long r28), (0, .ref (X.2.2 10 32)), (5, .ref (X.2.2 0 1)), (6, .int y6)]) hx hb dX6_mixGuests_146 rfl hl (by decide) rfl (fun ls hl => ?_)
        obtain ⟨x30, e31⟩ : ∃ z : Int32, z = (y6 + (1 : Int32)) := ⟨_, rfl⟩
        have h := x_let_at h e31
        refine lv_iinc (v := x30) (lv' := [(6, .int x30), (3, .long r28), (0, .ref (X.2.2 10 32)), (5, .ref (X.2.2 0 1))]) hx hb dX6_mixGuests_147 hl (k := 3) rfl (by rw [e31]; rfl) (by decide) rfl (fun ls hl => ?_)
        refine lv_goto (tgt := 14) hx hb dX6_mixGuests_150 (by decide) ?_
        exact ih σ r28 x30 _ _ _ h hI (lv_sub hl [2, 1, 3, 0] rfl)
      · have h := x_iff h c21
        refine lv_lconst (v := 1) hx hb dX6_mixGuests_104 (by decide) ?_
        refine lv_goto (tgt := 109) hx hb dX6_mixGuests_105 (by decide) ?_
        obtain ⟨r32, h33, h⟩ := x_bnd h
        refine x_acl hI (x_runS (rest := []) F hI (mX6_mix l X σ _ r17 (1 : Int64) r32 h33) g_X6_263 hd_X6_mix ⟨by decide, by decide⟩ ⟨rfl, rfl⟩ rfl hl.1 rfl (Nat.le_of_ble_eq_true rfl) dX6_mixGuests_109 ⟨Nat.zero_le _, Nat.zero_le _⟩) (fun H locs hI => ?_)
        refine lv_lstore_n (lv' := [(3, .long r32), (0, .ref (X.2.2 10 32)), (5, .ref (X.2.2 0 1)), (6, .int y6)]) hx hb dX6_mixGuests_112 rfl hl (by decide) rfl (fun ls hl => ?_)
        refine lv_lload_n hx hb dX6_mixGuests_113 rfl (lv_at hl 0 rfl) ?_
        refine lv_aload hx hb dX6_mixGuests_114 (lv_at hl 2 rfl) ?_
        refine xsg_1_6 F hI (x_inH (show 0 < 10 by decide) (by decide)) u_fl_X6_193 dX6_mixGuests_116 ?_
        refine lv_iload hx hb dX6_mixGuests_119 (lv_at hl 3 rfl) ?_
        refine x_iald (n := 12) F hI (x_inH (show 0 < 10 by decide) (by decide)) (fun _ => rfl) g6 dX6_mixGuests_121 ?_
        refine lv_i2l hx hb dX6_mixGuests_122 rfl ?_
        obtain ⟨r34, h35, h⟩ := x_bnd h
        refine x_acl hI (x_runS (rest := []) F hI (mX6_mix l X σ _ r32 ((σ 0 11 (Int32.toNatClampNeg y6))).toInt64 r34 h35) g_X6_263 hd_X6_mix ⟨by decide, by decide⟩ ⟨rfl, rfl⟩ rfl hl.1 rfl (Nat.le_of_ble_eq_true rfl) dX6_mixGuests_123 ⟨Nat.zero_le _, Nat.zero_le _⟩) (fun H locs hI => ?_)
        refine lv_lstore_n (lv' := [(3, .long r34), (0, .ref (X.2.2 10 32)), (5, .ref (X.2.2 0 1)), (6, .int y6)]) hx hb dX6_mixGuests_126 rfl hl (by decide) rfl (fun ls hl => ?_)
        refine lv_lload_n hx hb dX6_mixGuests_127 rfl (lv_at hl 0 rfl) ?_
        refine lv_aload_n hx hb dX6_mixGuests_128 rfl (lv_at hl 1 rfl) ?_
        refine xsg_6_0 F hI (x_inO (by decide)) u_fl_X6_12 dX6_mixGuests_129 ?_
        refine xsg_2_1 F hI (x_inH (show 0 < 10 by decide) (by decide)) u_fl_X6_91 dX6_mixGuests_132 ?_
        refine lv_iload hx hb dX6_mixGuests_135 (lv_at hl 3 rfl) ?_
        obtain ⟨r36, h37, h⟩ := x_bnd h
        have hI := x_toH 0 hI
        refine x_aci hI (x_runV (rest := [.long r34]) F hI (mX3_roomToOffer l X σ 0 (show 0 < 10 by decide) _ (σ 0) y6 r36 h37) g_X6_205 ⟨rfl, hd_X3_roomToOffer⟩ ⟨by decide, by decide⟩ ⟨rfl, rfl⟩ (x_inH (show 0 < 10 by decide) (by decide)) rfl rfl rfl rfl hl.1 rfl (Nat.le_of_ble_eq_true rfl) dX6_mixGuests_137 ⟨Nat.zero_le _, Nat.zero_le _⟩) (fun H locs hI => ?_)
        rw [x_sh_self] at hI
        refine lv_iconst (v := 1) hx hb dX6_mixGuests_140 (by decide) ?_
        refine lv_iadd hx hb dX6_mixGuests_141 ?_
        refine lv_i2l hx hb dX6_mixGuests_142 rfl ?_
        obtain ⟨r38, h39, h⟩ := x_bnd h
        refine x_acl hI (x_runS (rest := []) F hI (mX6_mix l X σ _ r34 ((r36 + (1 : Int32))).toInt64 r38 h39) g_X6_263 hd_X6_mix ⟨by decide, by decide⟩ ⟨rfl, rfl⟩ rfl hl.1 rfl (Nat.le_of_ble_eq_true rfl) dX6_mixGuests_143 ⟨Nat.zero_le _, Nat.zero_le _⟩) (fun H locs hI => ?_)
        refine lv_lstore_n (lv' := [(3, .long r38), (0, .ref (X.2.2 10 32)), (5, .ref (X.2.2 0 1)), (6, .int y6)]) hx hb dX6_mixGuests_146 rfl hl (by decide) rfl (fun ls hl => ?_)
        obtain ⟨x40, e41⟩ : ∃ z : Int32, z = (y6 + (1 : Int32)) := ⟨_, rfl⟩
        have h := x_let_at h e41
        refine lv_iinc (v := x40) (lv' := [(6, .int x40), (3, .long r38), (0, .ref (X.2.2 10 32)), (5, .ref (X.2.2 0 1))]) hx hb dX6_mixGuests_147 hl (k := 3) rfl (by rw [e41]; rfl) (by decide) rfl (fun ls hl => ?_)
        refine lv_goto (tgt := 14) hx hb dX6_mixGuests_150 (by decide) ?_
        exact ih σ r38 x40 _ _ _ h hI (lv_sub hl [2, 1, 3, 0] rfl)
def fX6_mixGuests (σ : x_S) (a1 : Int64) : Option Int64 := fX6_mixGuests_b14 400 σ a1 (0 : Int32)
set_option maxHeartbeats 4000000 in
set_option maxRecDepth 100000 in
theorem mX6_mixGuests (l : Launch) (X : x_T) (sz : Nat) (σ : x_S) (a1 : Int64) (r : Int64) (h : fX6_mixGuests σ a1 = some r) : Met l yX6_mixGuests (x_ws yX6_mixGuests cX6_mixGuests 7 (some .long)) rm_X6_mixGuests (x_Pc X σ sz [.ref (X.2.2 10 32), .long a1]) (x_Ql X r σ sz) 0 0 (x_A X sz) := by
  refine Met.ofW (cc := cX6_mixGuests) (maxL := 7) (ret := (some .long)) (by decide) rfl ?_
  intro p e s m args below meth c s₁ B hml hv
  obtain ⟨F, hI, rfl, rfl⟩ := x_begin B hml hv
  replace F : x_F p s m _ meth c cX6_mixGuests 7 RX6 (some .long) := F
  have hx := F.1
  have hb := F.2.1
  have hml := F.2.2.1
  have hown := F.2.2.2.1
  have hts := F.2.2.2.2.1
  refine x_entry (vs := [.ref (X.2.2 10 32), .long a1]) (n := 7) (Nat.le_of_ble_eq_true rfl) (fun ls hl => ?_)
  replace hl : lv_has ls 7 [(0, .ref (X.2.2 10 32)), (1, .long a1)] := hl
  unfold fX6_mixGuests at h
  refine lv_lload_n hx hb dX6_mixGuests_0 rfl (lv_at hl 1 rfl) ?_
  refine lv_lstore_n (lv' := [(3, .long a1), (0, .ref (X.2.2 10 32)), (1, .long a1)]) hx hb dX6_mixGuests_1 rfl hl (by decide) rfl (fun ls hl => ?_)
  refine lv_aload_n hx hb dX6_mixGuests_2 rfl (lv_at hl 1 rfl) ?_
  refine xsg_6_0 F hI (x_inO (by decide)) u_fl_X6_12 dX6_mixGuests_3 ?_
  refine xsg_2_0 F hI (x_inH (show 0 < 10 by decide) (by decide)) u_fl_X6_45 dX6_mixGuests_6 ?_
  refine lv_astore (lv' := [(5, .ref (X.2.2 0 1)), (3, .long a1), (0, .ref (X.2.2 10 32)), (1, .long a1)]) hx hb dX6_mixGuests_9 hl (by decide) rfl (fun ls hl => ?_)
  refine lv_iconst (v := 0) hx hb dX6_mixGuests_11 (by decide) ?_
  refine lv_istore (lv' := [(6, .int (0)), (5, .ref (X.2.2 0 1)), (3, .long a1), (0, .ref (X.2.2 10 32)), (1, .long a1)]) hx hb dX6_mixGuests_12 hl (by decide) rfl (fun ls hl => ?_)
  exact wX6_mixGuests_b14 F 400 σ a1 (0 : Int32) _ _ _ h hI (lv_sub hl [3, 2, 1, 0] rfl)
abbrev rm_X6_tryTicksUntilFree : Room := { frames := 3, cells := 0, slots := 0, locals := 68 }
def fX6_tryTicksUntilFree_b19 : Nat → x_S → Int32 → Option (Int32 × x_S)
  | 0, _, _ => none
  | n + 1, σ, y1 => (if (200 : Int32) < y1 then some ((0 : Int32), σ) else (Option.bind (fX3_freeEnded (σ 1) ((σ 0 0 0) + y1)) fun r4 => x_let (x_sh σ 1 r4.2) fun τ6 => (if r4.1 ≤ 0 then x_let (y1 + (1 : Int32)) fun x9 => fX6_tryTicksUntilFree_b19 n τ6 x9 else some (y1, τ6))))
set_option maxHeartbeats 4000000 in
set_option maxRecDepth 100000 in
theorem wX6_tryTicksUntilFree_b19 {p : Program} {l : Launch} {e : Env} {s : State} {m : MethodId} {args : Array Value} {below : List Frame} {meth : Method} {c : Code} {X : x_T} {r : (Int32 × x_S)} (F : x_F p s m args meth c cX6_tryTicksUntilFree 2 RX6 (some .int)) : ∀ (n : Nat) (σ : x_S) (y1 : Int32) (H : Heap) (locs : List Loc) (ls : Array Slot), fX6_tryTicksUntilFree_b19 n σ y1 = some r → x_I X σ s H locs → lv_has ls 2 [(0, .ref (X.2.2 10 32)), (1, .int y1)] → W p l e rm_X6_tryTicksUntilFree s m args below meth c H locs 0 0 (MQ below (x_Qi X r.1 r.2 s.heap.size) args s 0 0 (x_A X s.heap.size)) (F0 m 19 ls []) := by
  have hx := F.1
  have hb := F.2.1
  have hml := F.2.2.1
  have hown := F.2.2.2.1
  have hts := F.2.2.2.2.1
  intro n
  induction n with
  | zero =>
    intro σ y1 H locs ls h
    rw [fX6_tryTicksUntilFree_b19] at h
    cases h
  | succ n ih =>
    intro σ y1 H locs ls h hI hl
    rw [fX6_tryTicksUntilFree_b19] at h
    refine lv_iload_n hx hb dX6_tryTicksUntilFree_19 rfl (lv_at hl 1 rfl) ?_
    refine lv_sipush (v := 200) hx hb dX6_tryTicksUntilFree_20 (by decide) ?_
    refine lv_icmp_gt (tgt := 56) hx hb dX6_tryTicksUntilFree_23 (by decide) (fun c3 => ?_) (fun c3 => ?_)
    · have h := x_ift h c3
      refine lv_iconst (v := 0) hx hb dX6_tryTicksUntilFree_56 (by decide) ?_
      rw [x_some h]
      exact x_iret F hI dX6_tryTicksUntilFree_57
    · have h := x_iff h c3
      refine lv_aload_n hx hb dX6_tryTicksUntilFree_26 rfl (lv_at hl 0 rfl) ?_
      refine xsg_6_1 F hI (x_inO (by decide)) u_fl_X6_16 dX6_tryTicksUntilFree_27 ?_
      refine xsg_2_1 F hI (x_inH (show 1 < 10 by decide) (by decide)) u_fl_X6_91 dX6_tryTicksUntilFree_30 ?_
      refine lv_aload_n hx hb dX6_tryTicksUntilFree_33 rfl (lv_at hl 0 rfl) ?_
      refine xsg_6_0 F hI (x_inO (by decide)) u_fl_X6_12 dX6_tryTicksUntilFree_34 ?_
      refine xsg_2_4 F hI (x_inH (show 0 < 10 by decide) (by decide)) u_fl_X6_180 dX6_tryTicksUntilFree_37 ?_
      refine lv_iload_n hx hb dX6_tryTicksUntilFree_40 rfl (lv_at hl 1 rfl) ?_
      refine lv_iadd hx hb dX6_tryTicksUntilFree_41 ?_
      obtain ⟨r4, h5, h⟩ := x_bnd h
      have hI := x_toH 1 hI
      refine x_aci hI (x_runV (rest := []) F hI (mX3_freeEnded l X σ 1 (show 1 < 10 by decide) _ (σ 1) ((σ 0 0 0) + y1) r4 h5) g_X6_302 ⟨rfl, hd_X3_freeEnded⟩ ⟨by decide, by decide⟩ ⟨rfl, rfl⟩ (x_inH (show 1 < 10 by decide) (by decide)) rfl rfl rfl rfl hl.1 rfl (Nat.le_of_ble_eq_true rfl) dX6_tryTicksUntilFree_42 ⟨Nat.zero_le _, Nat.zero_le _⟩) (fun H locs hI => ?_)
      obtain ⟨τ6, e7⟩ : ∃ z : x_S, z = (x_sh σ 1 r4.2) := ⟨_, rfl⟩
      rw [← e7] at hI
      have h := x_let_at h e7
      refine lv_if_le (tgt := 50) hx hb dX6_tryTicksUntilFree_45 (by decide) (fun c8 => ?_) (fun c8 => ?_)
      · have h := x_ift h c8
        obtain ⟨x9, e10⟩ : ∃ z : Int32, z = (y1 + (1 : Int32)) := ⟨_, rfl⟩
        have h := x_let_at h e10
        refine lv_iinc (v := x9) (lv' := [(1, .int x9), (0, .ref (X.2.2 10 32))]) hx hb dX6_tryTicksUntilFree_50 hl (k := 1) rfl (by rw [e10]; rfl) (by decide) rfl (fun ls hl => ?_)
        refine lv_goto (tgt := 19) hx hb dX6_tryTicksUntilFree_53 (by decide) ?_
        exact ih τ6 x9 _ _ _ h hI (lv_sub hl [1, 0] rfl)
      · have h := x_iff h c8
        refine lv_iload_n hx hb dX6_tryTicksUntilFree_48 rfl (lv_at hl 1 rfl) ?_
        rw [x_some h]
        exact x_iret F hI dX6_tryTicksUntilFree_49
def fX6_tryTicksUntilFree (σ : x_S) : Option (Int32 × x_S) := x_let (x_sh σ 1 (x_ic (σ 1) (σ 0))) fun τ1 => fX6_tryTicksUntilFree_b19 400 τ1 (1 : Int32)
set_option maxHeartbeats 4000000 in
set_option maxRecDepth 100000 in
theorem mX6_tryTicksUntilFree (l : Launch) (X : x_T) (sz : Nat) (σ : x_S) (r : (Int32 × x_S)) (h : fX6_tryTicksUntilFree σ  = some r) : Met l yX6_tryTicksUntilFree (x_ws yX6_tryTicksUntilFree cX6_tryTicksUntilFree 2 (some .int)) rm_X6_tryTicksUntilFree (x_Pc X σ sz [.ref (X.2.2 10 32)]) (x_Qi X r.1 r.2 sz) 0 0 (x_A X sz) := by
  refine Met.ofW (cc := cX6_tryTicksUntilFree) (maxL := 2) (ret := (some .int)) (by decide) rfl ?_
  intro p e s m args below meth c s₁ B hml hv
  obtain ⟨F, hI, rfl, rfl⟩ := x_begin B hml hv
  replace F : x_F p s m _ meth c cX6_tryTicksUntilFree 2 RX6 (some .int) := F
  have hx := F.1
  have hb := F.2.1
  have hml := F.2.2.1
  have hown := F.2.2.2.1
  have hts := F.2.2.2.2.1
  refine x_entry (vs := [.ref (X.2.2 10 32)]) (n := 2) (Nat.le_of_ble_eq_true rfl) (fun ls hl => ?_)
  replace hl : lv_has ls 2 [(0, .ref (X.2.2 10 32))] := hl
  unfold fX6_tryTicksUntilFree at h
  refine lv_aload_n hx hb dX6_tryTicksUntilFree_0 rfl (lv_at hl 0 rfl) ?_
  refine xsg_6_1 F hI (x_inO (by decide)) u_fl_X6_16 dX6_tryTicksUntilFree_1 ?_
  refine xsg_2_1 F hI (x_inH (show 1 < 10 by decide) (by decide)) u_fl_X6_91 dX6_tryTicksUntilFree_4 ?_
  refine lv_aload_n hx hb dX6_tryTicksUntilFree_7 rfl (lv_at hl 0 rfl) ?_
  refine xsg_6_0 F hI (x_inO (by decide)) u_fl_X6_12 dX6_tryTicksUntilFree_8 ?_
  refine xsg_2_1 F hI (x_inH (show 0 < 10 by decide) (by decide)) u_fl_X6_91 dX6_tryTicksUntilFree_11 ?_
  refine x_acv hI (x_runV (rest := []) F hI (mX3_copyFromN l X σ 0 1 (show 0 < 10 by decide) (show 1 < 10 by decide) (by decide) _) g_X6_299 ⟨rfl, hd_X3_copyFrom⟩ ⟨by decide, by decide⟩ ⟨rfl, rfl⟩ (x_inH (show 1 < 10 by decide) (by decide)) rfl rfl rfl rfl hl.1 rfl (Nat.le_of_ble_eq_true rfl) dX6_tryTicksUntilFree_14 ⟨Nat.zero_le _, Nat.zero_le _⟩) (fun H locs hI => ?_)
  obtain ⟨τ1, e2⟩ : ∃ z : x_S, z = (x_sh σ 1 (x_ic (σ 1) (σ 0))) := ⟨_, rfl⟩
  rw [← e2] at hI
  have h := x_let_at h e2
  refine lv_iconst (v := 1) hx hb dX6_tryTicksUntilFree_17 (by decide) ?_
  refine lv_istore_n (lv' := [(1, .int (1)), (0, .ref (X.2.2 10 32))]) hx hb dX6_tryTicksUntilFree_18 rfl hl (by decide) rfl (fun ls hl => ?_)
  exact wX6_tryTicksUntilFree_b19 F 400 τ1 (1 : Int32) _ _ _ h hI (lv_sub hl [1, 0] rfl)
abbrev rm_X6_mixRooms : Room := { frames := 4, cells := 0, slots := 0, locals := 89 }
def fX6_mixRooms_b14 : Nat → x_S → Int64 → Int32 → Option (Int64 × x_S)
  | 0, _, _, _ => none
  | n + 1, σ, y3, y6 => (if (16 : Int32) ≤ y6 then (Option.bind (fX3_countRooms (σ 0) (2 : Int32)) fun r2 => (Option.bind (fX6_mix y3 r2.toInt64) fun r4 => (Option.bind (fX3_countLeasesOfGuests (σ 0) ) fun r6 => (Option.bind (fX6_mix r4 r6.toInt64) fun r8 => (Option.bind (fX3_countRooms (σ 0) (0 : Int32)) fun r10 => (Option.bind (fX6_mix r8 r10.toInt64) fun r12 => (Option.bind (fX3_leastTicksUntilFree (σ 0) (σ 0 0 0)) fun r14 => (Option.bind (fX6_mix r12 r14.toInt64) fun r16 => (Option.bind (fX6_tryTicksUntilFree σ ) fun r18 => (Option.bind (fX6_mix r16 (r18.1).toInt64) fun r20 => (Option.bind (fX6_mix r20 ((r18.2 0 2 1)).toInt64) fun r22 => (Option.bind (fX6_mix r22 ((r18.2 0 2 2)).toInt64) fun r24 => (Option.bind (fX6_mix r24 ((r18.2 0 2 3)).toInt64) fun r26 => some (r26, r18.2)))))))))))))) else (if x_in y6 16 then (Option.bind (fX6_mix y3 ((σ 0 12 (Int32.toNatClampNeg y6))).toInt64) fun r29 => (Option.bind (fX6_mix r29 (((σ 0 13 (Int32.toNatClampNeg y6)) + (1 : Int32))).toInt64) fun r31 => (Option.bind (fX3_ticksUntilFree (σ 0) y6 (σ 0 0 0)) fun r33 => (Option.bind (fX6_mix r31 r33.toInt64) fun r35 => (Option.bind (fX6_mix r35 (((σ 0 16 (Int32.toNatClampNeg y6)) + (1 : Int32))).toInt64) fun r37 => (Option.bind (fX3_ghostIn (σ 0) y6) fun r39 => (if r39 = 0 then (Option.bind (fX6_mix r37 (0 : Int64)) fun r42 => x_let (y6 + (1 : Int32)) fun x44 => fX6_mixRooms_b14 n σ r42 x44) else (Option.bind (fX6_mix r37 (1 : Int64)) fun r46 => x_let (y6 + (1 : Int32)) fun x48 => fX6_mixRooms_b14 n σ r46 x48)))))))) else none))
set_option maxHeartbeats 4000000 in
set_option maxRecDepth 100000 in
theorem wX6_mixRooms_b14 {p : Program} {l : Launch} {e : Env} {s : State} {m : MethodId} {args : Array Value} {below : List Frame} {meth : Method} {c : Code} {X : x_T} {r : (Int64 × x_S)} (F : x_F p s m args meth c cX6_mixRooms 7 RX6 (some .long)) : ∀ (n : Nat) (σ : x_S) (y3 : Int64) (y6 : Int32) (H : Heap) (locs : List Loc) (ls : Array Slot), fX6_mixRooms_b14 n σ y3 y6 = some r → x_I X σ s H locs → lv_has ls 7 [(0, .ref (X.2.2 10 32)), (3, .long y3), (5, .ref (X.2.2 0 2)), (6, .int y6)] → W p l e rm_X6_mixRooms s m args below meth c H locs 0 0 (MQ below (x_Ql X r.1 r.2 s.heap.size) args s 0 0 (x_A X s.heap.size)) (F0 m 14 ls []) := by
  have hx := F.1
  have hb := F.2.1
  have hml := F.2.2.1
  have hown := F.2.2.2.1
  have hts := F.2.2.2.2.1
  intro n
  induction n with
  | zero =>
    intro σ y3 y6 H locs ls h
    rw [fX6_mixRooms_b14] at h
    cases h
  | succ n ih =>
    intro σ y3 y6 H locs ls h hI hl
    rw [fX6_mixRooms_b14] at h
    refine lv_iload hx hb dX6_mixRooms_14 (lv_at hl 3 rfl) ?_
    refine lv_bipush (v := 16) hx hb dX6_mixRooms_16 (by decide) ?_
    refine lv_icmp_ge (tgt := 113) hx hb dX6_mixRooms_18 (by decide) (fun c1 => ?_) (fun c1 => ?_)
    · have h := x_ift h c1
      refine lv_lload_n hx hb dX6_mixRooms_113 rfl (lv_at hl 1 rfl) ?_
      refine lv_aload hx hb dX6_mixRooms_114 (lv_at hl 2 rfl) ?_
      refine lv_iconst (v := 2) hx hb dX6_mixRooms_116 (by decide) ?_
      obtain ⟨r2, h3, h⟩ := x_bnd h
      have hI := x_toH 0 hI
      refine x_aci hI (x_runV (rest := [.long y3]) F hI (mX3_countRooms l X σ 0 (show 0 < 10 by decide) _ (σ 0) (2 : Int32) r2 h3) g_X6_208 ⟨rfl, hd_X3_countRooms⟩ ⟨by decide, by decide⟩ ⟨rfl, rfl⟩ (x_inH (show 0 < 10 by decide) (by decide)) rfl rfl rfl rfl hl.1 rfl (Nat.le_of_ble_eq_true rfl) dX6_mixRooms_117 ⟨Nat.zero_le _, Nat.zero_le _⟩) (fun H locs hI => ?_)
      rw [x_sh_self] at hI
      refine lv_i2l hx hb dX6_mixRooms_120 rfl ?_
      obtain ⟨r4, h5, h⟩ := x_bnd h
      refine x_acl hI (x_runS (rest := []) F hI (mX6_mix l X σ _ y3 r2.toInt64 r4 h5) g_X6_263 hd_X6_mix ⟨by decide, by decide⟩ ⟨rfl, rfl⟩ rfl hl.1 rfl (Nat.le_of_ble_eq_true rfl) dX6_mixRooms_121 ⟨Nat.zero_le _, Nat.zero_le _⟩) (fun H locs hI => ?_)
      refine lv_lstore_n (lv' := [(3, .long r4), (0, .ref (X.2.2 10 32)), (5, .ref (X.2.2 0 2)), (6, .int y6)]) hx hb dX6_mixRooms_124 rfl hl (by decide) rfl (fun ls hl => ?_)
      refine lv_lload_n hx hb dX6_mixRooms_125 rfl (lv_at hl 0 rfl) ?_
      refine lv_aload hx hb dX6_mixRooms_126 (lv_at hl 2 rfl) ?_
      obtain ⟨r6, h7, h⟩ := x_bnd h
      have hI := x_toH 0 hI
      refine x_aci hI (x_runV (rest := [.long r4]) F hI (mX3_countLeasesOfGuests l X σ 0 (show 0 < 10 by decide) _ (σ 0)  r6 h7) g_X6_211 ⟨rfl, hd_X3_countLeasesOfGuests⟩ ⟨by decide, by decide⟩ ⟨rfl, rfl⟩ (x_inH (show 0 < 10 by decide) (by decide)) rfl rfl rfl rfl hl.1 rfl (Nat.le_of_ble_eq_true rfl) dX6_mixRooms_128 ⟨Nat.zero_le _, Nat.zero_le _⟩) (fun H locs hI => ?_)
      rw [x_sh_self] at hI
      refine lv_i2l hx hb dX6_mixRooms_131 rfl ?_
      obtain ⟨r8, h9, h⟩ := x_bnd h
      refine x_acl hI (x_runS (rest := []) F hI (mX6_mix l X σ _ r4 r6.toInt64 r8 h9) g_X6_263 hd_X6_mix ⟨by decide, by decide⟩ ⟨rfl, rfl⟩ rfl hl.1 rfl (Nat.le_of_ble_eq_true rfl) dX6_mixRooms_132 ⟨Nat.zero_le _, Nat.zero_le _⟩) (fun H locs hI => ?_)
      refine lv_lstore_n (lv' := [(3, .long r8), (0, .ref (X.2.2 10 32)), (5, .ref (X.2.2 0 2)), (6, .int y6)]) hx hb dX6_mixRooms_135 rfl hl (by decide) rfl (fun ls hl => ?_)
      refine lv_lload_n hx hb dX6_mixRooms_136 rfl (lv_at hl 0 rfl) ?_
      refine lv_aload hx hb dX6_mixRooms_137 (lv_at hl 2 rfl) ?_
      refine lv_iconst (v := 0) hx hb dX6_mixRooms_139 (by decide) ?_
      obtain ⟨r10, h11, h⟩ := x_bnd h
      have hI := x_toH 0 hI
      refine x_aci hI (x_runV (rest := [.long r8]) F hI (mX3_countRooms l X σ 0 (show 0 < 10 by decide) _ (σ 0) (0 : Int32) r10 h11) g_X6_208 ⟨rfl, hd_X3_countRooms⟩ ⟨by decide, by decide⟩ ⟨rfl, rfl⟩ (x_inH (show 0 < 10 by decide) (by decide)) rfl rfl rfl rfl hl.1 rfl (Nat.le_of_ble_eq_true rfl) dX6_mixRooms_140 ⟨Nat.zero_le _, Nat.zero_le _⟩) (fun H locs hI => ?_)
      rw [x_sh_self] at hI
      refine lv_i2l hx hb dX6_mixRooms_143 rfl ?_
      obtain ⟨r12, h13, h⟩ := x_bnd h
      refine x_acl hI (x_runS (rest := []) F hI (mX6_mix l X σ _ r8 r10.toInt64 r12 h13) g_X6_263 hd_X6_mix ⟨by decide, by decide⟩ ⟨rfl, rfl⟩ rfl hl.1 rfl (Nat.le_of_ble_eq_true rfl) dX6_mixRooms_144 ⟨Nat.zero_le _, Nat.zero_le _⟩) (fun H locs hI => ?_)
      refine lv_lstore_n (lv' := [(3, .long r12), (0, .ref (X.2.2 10 32)), (5, .ref (X.2.2 0 2)), (6, .int y6)]) hx hb dX6_mixRooms_147 rfl hl (by decide) rfl (fun ls hl => ?_)
      refine lv_lload_n hx hb dX6_mixRooms_148 rfl (lv_at hl 0 rfl) ?_
      refine lv_aload hx hb dX6_mixRooms_149 (lv_at hl 2 rfl) ?_
      refine lv_aload_n hx hb dX6_mixRooms_151 rfl (lv_at hl 1 rfl) ?_
      refine xsg_6_0 F hI (x_inO (by decide)) u_fl_X6_12 dX6_mixRooms_152 ?_
      refine xsg_2_4 F hI (x_inH (show 0 < 10 by decide) (by decide)) u_fl_X6_180 dX6_mixRooms_155 ?_
      obtain ⟨r14, h15, h⟩ := x_bnd h
      have hI := x_toH 0 hI
      refine x_aci hI (x_runV (rest := [.long r12]) F hI (mX3_leastTicksUntilFree l X σ 0 (show 0 < 10 by decide) _ (σ 0) (σ 0 0 0) r14 h15) g_X6_214 ⟨rfl, hd_X3_leastTicksUntilFree⟩ ⟨by decide, by decide⟩ ⟨rfl, rfl⟩ (x_inH (show 0 < 10 by decide) (by decide)) rfl rfl rfl rfl hl.1 rfl (Nat.le_of_ble_eq_true rfl) dX6_mixRooms_158 ⟨Nat.zero_le _, Nat.zero_le _⟩) (fun H locs hI => ?_)
      rw [x_sh_self] at hI
      refine lv_i2l hx hb dX6_mixRooms_161 rfl ?_
      obtain ⟨r16, h17, h⟩ := x_bnd h
      refine x_acl hI (x_runS (rest := []) F hI (mX6_mix l X σ _ r12 r14.toInt64 r16 h17) g_X6_263 hd_X6_mix ⟨by decide, by decide⟩ ⟨rfl, rfl⟩ rfl hl.1 rfl (Nat.le_of_ble_eq_true rfl) dX6_mixRooms_162 ⟨Nat.zero_le _, Nat.zero_le _⟩) (fun H locs hI => ?_)
      refine lv_lstore_n (lv' := [(3, .long r16), (0, .ref (X.2.2 10 32)), (5, .ref (X.2.2 0 2)), (6, .int y6)]) hx hb dX6_mixRooms_165 rfl hl (by decide) rfl (fun ls hl => ?_)
      refine lv_lload_n hx hb dX6_mixRooms_166 rfl (lv_at hl 0 rfl) ?_
      refine lv_aload_n hx hb dX6_mixRooms_167 rfl (lv_at hl 1 rfl) ?_
      obtain ⟨r18, h19, h⟩ := x_bnd h
      refine x_aci hI (x_runV (rest := [.long r16]) F hI (mX6_tryTicksUntilFree l X _ σ  r18 h19) g_X6_217 ⟨rfl, hd_X6_tryTicksUntilFree⟩ ⟨by decide, by decide⟩ ⟨rfl, rfl⟩ (x_inO (by decide)) rfl rfl rfl rfl hl.1 rfl (Nat.le_of_ble_eq_true rfl) dX6_mixRooms_168 ⟨Nat.zero_le _, Nat.zero_le _⟩) (fun H locs hI => ?_)
      refine lv_i2l hx hb dX6_mixRooms_171 rfl ?_
      obtain ⟨r20, h21, h⟩ := x_bnd h
      refine x_acl hI (x_runS (rest := []) F hI (mX6_mix l X r18.2 _ r16 (r18.1).toInt64 r20 h21) g_X6_263 hd_X6_mix ⟨by decide, by decide⟩ ⟨rfl, rfl⟩ rfl hl.1 rfl (Nat.le_of_ble_eq_true rfl) dX6_mixRooms_172 ⟨Nat.zero_le _, Nat.zero_le _⟩) (fun H locs hI => ?_)
      refine lv_lstore_n (lv' := [(3, .long r20), (0, .ref (X.2.2 10 32)), (5, .ref (X.2.2 0 2)), (6, .int y6)]) hx hb dX6_mixRooms_175 rfl hl (by decide) rfl (fun ls hl => ?_)
      refine lv_lload_n hx hb dX6_mixRooms_176 rfl (lv_at hl 0 rfl) ?_
      refine lv_aload hx hb dX6_mixRooms_177 (lv_at hl 2 rfl) ?_
      refine xsg_3_8 F hI (x_inH (show 0 < 10 by decide) (by decide)) u_fl_X6_118 dX6_mixRooms_179 ?_
      refine lv_i2l hx hb dX6_mixRooms_182 rfl ?_
      obtain ⟨r22, h23, h⟩ := x_bnd h
      refine x_acl hI (x_runS (rest := []) F hI (mX6_mix l X r18.2 _ r20 ((r18.2 0 2 1)).toInt64 r22 h23) g_X6_263 hd_X6_mix ⟨by decide, by decide⟩ ⟨rfl, rfl⟩ rfl hl.1 rfl (Nat.le_of_ble_eq_true rfl) dX6_mixRooms_183 ⟨Nat.zero_le _, Nat.zero_le _⟩) (fun H locs hI => ?_)
      refine lv_lstore_n (lv' := [(3, .long r22), (0, .ref (X.2.2 10 32)), (5, .ref (X.2.2 0 2)), (6, .int y6)]) hx hb dX6_mixRooms_186 rfl hl (by decide) rfl (fun ls hl => ?_)
      refine lv_lload_n hx hb dX6_mixRooms_187 rfl (lv_at hl 0 rfl) ?_
      refine lv_aload hx hb dX6_mixRooms_188 (lv_at hl 2 rfl) ?_
      refine xsg_3_9 F hI (x_inH (show 0 < 10 by decide) (by decide)) u_fl_X6_121 dX6_mixRooms_190 ?_
      refine lv_i2l hx hb dX6_mixRooms_193 rfl ?_
      obtain ⟨r24, h25, h⟩ := x_bnd h
      refine x_acl hI (x_runS (rest := []) F hI (mX6_mix l X r18.2 _ r22 ((r18.2 0 2 2)).toInt64 r24 h25) g_X6_263 hd_X6_mix ⟨by decide, by decide⟩ ⟨rfl, rfl⟩ rfl hl.1 rfl (Nat.le_of_ble_eq_true rfl) dX6_mixRooms_194 ⟨Nat.zero_le _, Nat.zero_le _⟩) (fun H locs hI => ?_)
      refine lv_lstore_n (lv' := [(3, .long r24), (0, .ref (X.2.2 10 32)), (5, .ref (X.2.2 0 2)), (6, .int y6)]) hx hb dX6_mixRooms_197 rfl hl (by decide) rfl (fun ls hl => ?_)
      refine lv_lload_n hx hb dX6_mixRooms_198 rfl (lv_at hl 0 rfl) ?_
      refine lv_aload hx hb dX6_mixRooms_199 (lv_at hl 2 rfl) ?_
      refine xsg_3_10 F hI (x_inH (show 0 < 10 by decide) (by decide)) u_fl_X6_124 dX6_mixRooms_201 ?_
      refine lv_i2l hx hb dX6_mixRooms_204 rfl ?_
      obtain ⟨r26, h27, h⟩ := x_bnd h
      refine x_acl hI (x_runS (rest := []) F hI (mX6_mix l X r18.2 _ r24 ((r18.2 0 2 3)).toInt64 r26 h27) g_X6_263 hd_X6_mix ⟨by decide, by decide⟩ ⟨rfl, rfl⟩ rfl hl.1 rfl (Nat.le_of_ble_eq_true rfl) dX6_mixRooms_205 ⟨Nat.zero_le _, Nat.zero_le _⟩) (fun H locs hI => ?_)
      rw [x_some h]
      exact x_lret F hI dX6_mixRooms_208
    · have h := x_iff h c1
      refine lv_lload_n hx hb dX6_mixRooms_21 rfl (lv_at hl 1 rfl) ?_
      refine lv_aload hx hb dX6_mixRooms_22 (lv_at hl 2 rfl) ?_
      refine xsg_3_0 F hI (x_inH (show 0 < 10 by decide) (by decide)) u_fl_X6_196 dX6_mixRooms_24 ?_
      refine lv_iload hx hb dX6_mixRooms_27 (lv_at hl 3 rfl) ?_
      obtain ⟨g28, h⟩ := x_chk h
      refine x_iald (n := 16) F hI (x_inH (show 0 < 10 by decide) (by decide)) (fun _ => rfl) g28 dX6_mixRooms_29 ?_
      refine lv_i2l hx hb dX6_mixRooms_30 rfl ?_
      obtain ⟨r29, h30, h⟩ := x_bnd h
      refine x_acl hI (x_runS (rest := []) F hI (mX6_mix l X σ _ y3 ((σ 0 12 (Int32.toNatClampNeg y6))).toInt64 r29 h30) g_X6_263 hd_X6_mix ⟨by decide, by decide⟩ ⟨rfl, rfl⟩ rfl hl.1 rfl (Nat.le_of_ble_eq_true rfl) dX6_mixRooms_31 ⟨Nat.zero_le _, Nat.zero_le _⟩) (fun H locs hI => ?_)
      refine lv_lstore_n (lv' := [(3, .long r29), (0, .ref (X.2.2 10 32)), (5, .ref (X.2.2 0 2)), (6, .int y6)]) hx hb dX6_mixRooms_34 rfl hl (by decide) rfl (fun ls hl => ?_)
      refine lv_lload_n hx hb dX6_mixRooms_35 rfl (lv_at hl 0 rfl) ?_
      refine lv_aload hx hb dX6_mixRooms_36 (lv_at hl 2 rfl) ?_
      refine xsg_3_1 F hI (x_inH (show 0 < 10 by decide) (by decide)) u_fl_X6_199 dX6_mixRooms_38 ?_
      refine lv_iload hx hb dX6_mixRooms_41 (lv_at hl 3 rfl) ?_
      refine x_iald (n := 16) F hI (x_inH (show 0 < 10 by decide) (by decide)) (fun _ => rfl) g28 dX6_mixRooms_43 ?_
      refine lv_iconst (v := 1) hx hb dX6_mixRooms_44 (by decide) ?_
      refine lv_iadd hx hb dX6_mixRooms_45 ?_
      refine lv_i2l hx hb dX6_mixRooms_46 rfl ?_
      obtain ⟨r31, h32, h⟩ := x_bnd h
      refine x_acl hI (x_runS (rest := []) F hI (mX6_mix l X σ _ r29 (((σ 0 13 (Int32.toNatClampNeg y6)) + (1 : Int32))).toInt64 r31 h32) g_X6_263 hd_X6_mix ⟨by decide, by decide⟩ ⟨rfl, rfl⟩ rfl hl.1 rfl (Nat.le_of_ble_eq_true rfl) dX6_mixRooms_47 ⟨Nat.zero_le _, Nat.zero_le _⟩) (fun H locs hI => ?_)
      refine lv_lstore_n (lv' := [(3, .long r31), (0, .ref (X.2.2 10 32)), (5, .ref (X.2.2 0 2)), (6, .int y6)]) hx hb dX6_mixRooms_50 rfl hl (by decide) rfl (fun ls hl => ?_)
      refine lv_lload_n hx hb dX6_mixRooms_51 rfl (lv_at hl 0 rfl) ?_
      refine lv_aload hx hb dX6_mixRooms_52 (lv_at hl 2 rfl) ?_
      refine lv_iload hx hb dX6_mixRooms_54 (lv_at hl 3 rfl) ?_
      refine lv_aload_n hx hb dX6_mixRooms_56 rfl (lv_at hl 1 rfl) ?_
      refine xsg_6_0 F hI (x_inO (by decide)) u_fl_X6_12 dX6_mixRooms_57 ?_
      refine xsg_2_4 F hI (x_inH (show 0 < 10 by decide) (by decide)) u_fl_X6_180 dX6_mixRooms_60 ?_
      obtain ⟨r33, h34, h⟩ := x_bnd h
      have hI := x_toH 0 hI
      refine x_aci hI (x_runV (rest := [.long r31]) F hI (mX3_ticksUntilFree l X σ 0 (show 0 < 10 by decide) _ (σ 0) y6 (σ 0 0 0) r33 h34) g_X6_202 ⟨rfl, hd_X3_ticksUntilFree⟩ ⟨by decide, by decide⟩ ⟨rfl, rfl⟩ (x_inH (show 0 < 10 by decide) (by decide)) rfl rfl rfl rfl hl.1 rfl (Nat.le_of_ble_eq_true rfl) dX6_mixRooms_63 ⟨Nat.zero_le _, Nat.zero_le _⟩) (fun H locs hI => ?_)
      rw [x_sh_self] at hI
      refine lv_i2l hx hb dX6_mixRooms_66 rfl ?_
      obtain ⟨r35, h36, h⟩ := x_bnd h
      refine x_acl hI (x_runS (rest := []) F hI (mX6_mix l X σ _ r31 r33.toInt64 r35 h36) g_X6_263 hd_X6_mix ⟨by decide, by decide⟩ ⟨rfl, rfl⟩ rfl hl.1 rfl (Nat.le_of_ble_eq_true rfl) dX6_mixRooms_67 ⟨Nat.zero_le _, Nat.zero_le _⟩) (fun H locs hI => ?_)
      refine lv_lstore_n (lv' := [(3, .long r35), (0, .ref (X.2.2 10 32)), (5, .ref (X.2.2 0 2)), (6, .int y6)]) hx hb dX6_mixRooms_70 rfl hl (by decide) rfl (fun ls hl => ?_)
      refine lv_lload_n hx hb dX6_mixRooms_71 rfl (lv_at hl 0 rfl) ?_
      refine lv_aload hx hb dX6_mixRooms_72 (lv_at hl 2 rfl) ?_
      refine xsg_3_4 F hI (x_inH (show 0 < 10 by decide) (by decide)) u_fl_X6_95 dX6_mixRooms_74 ?_
      refine lv_iload hx hb dX6_mixRooms_77 (lv_at hl 3 rfl) ?_
      refine x_iald (n := 16) F hI (x_inH (show 0 < 10 by decide) (by decide)) (fun _ => rfl) g28 dX6_mixRooms_79 ?_
      refine lv_iconst (v := 1) hx hb dX6_mixRooms_80 (by decide) ?_
      refine lv_iadd hx hb dX6_mixRooms_81 ?_
      refine lv_i2l hx hb dX6_mixRooms_82 rfl ?_
      obtain ⟨r37, h38, h⟩ := x_bnd h
      refine x_acl hI (x_runS (rest := []) F hI (mX6_mix l X σ _ r35 (((σ 0 16 (Int32.toNatClampNeg y6)) + (1 : Int32))).toInt64 r37 h38) g_X6_263 hd_X6_mix ⟨by decide, by decide⟩ ⟨rfl, rfl⟩ rfl hl.1 rfl (Nat.le_of_ble_eq_true rfl) dX6_mixRooms_83 ⟨Nat.zero_le _, Nat.zero_le _⟩) (fun H locs hI => ?_)
      refine lv_lstore_n (lv' := [(3, .long r37), (0, .ref (X.2.2 10 32)), (5, .ref (X.2.2 0 2)), (6, .int y6)]) hx hb dX6_mixRooms_86 rfl hl (by decide) rfl (fun ls hl => ?_)
      refine lv_lload_n hx hb dX6_mixRooms_87 rfl (lv_at hl 0 rfl) ?_
      refine lv_aload hx hb dX6_mixRooms_88 (lv_at hl 2 rfl) ?_
      refine lv_iload hx hb dX6_mixRooms_90 (lv_at hl 3 rfl) ?_
      obtain ⟨r39, h40, h⟩ := x_bnd h
      have hI := x_toH 0 hI
      refine x_aci hI (x_runV (rest := [.long r37]) F hI (mX3_ghostIn l X σ 0 (show 0 < 10 by decide) _ (σ 0) y6 r39 h40) g_X6_110 ⟨rfl, hd_X3_ghostIn⟩ ⟨by decide, by decide⟩ ⟨rfl, rfl⟩ (x_inH (show 0 < 10 by decide) (by decide)) rfl rfl rfl rfl hl.1 rfl (Nat.le_of_ble_eq_true rfl) dX6_mixRooms_92 ⟨Nat.zero_le _, Nat.zero_le _⟩) (fun H locs hI => ?_)
      rw [x_sh_self] at hI
      refine lv_if_eq (tgt := 102) hx hb dX6_mixRooms_95 (by decide) (fun c41 => ?_) (fun c41 => ?_)
      · have h := x_ift h c41
        refine lv_lconst (v := 0) hx hb dX6_mixRooms_102 (by decide) ?_
        obtain ⟨r42, h43, h⟩ := x_bnd h
        refine x_acl hI (x_runS (rest := []) F hI (mX6_mix l X σ _ r37 (0 : Int64) r42 h43) g_X6_263 hd_X6_mix ⟨by decide, by decide⟩ ⟨rfl, rfl⟩ rfl hl.1 rfl (Nat.le_of_ble_eq_true rfl) dX6_mixRooms_103 ⟨Nat.zero_le _, Nat.zero_le _⟩) (fun H locs hI => ?_)
        refine lv_lstore_n (lv' := [(3, .long r42), (0, .ref (X.2.2 10 32)), (5, .ref (X.2.2 0 2)), (6, .int y6)]) hx hb dX6_mixRooms_106 rfl hl (by decide) rfl (fun ls hl => ?_)
        obtain ⟨x44, e45⟩ : ∃ z : Int32, z = (y6 + (1 : Int32)) := ⟨_, rfl⟩
        have h := x_let_at h e45
        refine lv_iinc (v := x44) (lv' := [(6, .int x44), (3, .long r42), (0, .ref (X.2.2 10 32)), (5, .ref (X.2.2 0 2))]) hx hb dX6_mixRooms_107 hl (k := 3) rfl (by rw [e45]; rfl) (by decide) rfl (fun ls hl => ?_)
        refine lv_goto (tgt := 14) hx hb dX6_mixRooms_110 (by decide) ?_
        exact ih σ r42 x44 _ _ _ h hI (lv_sub hl [2, 1, 3, 0] rfl)
      · have h := x_iff h c41
        refine lv_lconst (v := 1) hx hb dX6_mixRooms_98 (by decide) ?_
        refine lv_goto (tgt := 103) hx hb dX6_mixRooms_99 (by decide) ?_
        obtain ⟨r46, h47, h⟩ := x_bnd h
        refine x_acl hI (x_runS (rest := []) F hI (mX6_mix l X σ _ r37 (1 : Int64) r46 h47) g_X6_263 hd_X6_mix ⟨by decide, by decide⟩ ⟨rfl, rfl⟩ rfl hl.1 rfl (Nat.le_of_ble_eq_true rfl) dX6_mixRooms_103 ⟨Nat.zero_le _, Nat.zero_le _⟩) (fun H locs hI => ?_)
        refine lv_lstore_n (lv' := [(3, .long r46), (0, .ref (X.2.2 10 32)), (5, .ref (X.2.2 0 2)), (6, .int y6)]) hx hb dX6_mixRooms_106 rfl hl (by decide) rfl (fun ls hl => ?_)
        obtain ⟨x48, e49⟩ : ∃ z : Int32, z = (y6 + (1 : Int32)) := ⟨_, rfl⟩
        have h := x_let_at h e49
        refine lv_iinc (v := x48) (lv' := [(6, .int x48), (3, .long r46), (0, .ref (X.2.2 10 32)), (5, .ref (X.2.2 0 2))]) hx hb dX6_mixRooms_107 hl (k := 3) rfl (by rw [e49]; rfl) (by decide) rfl (fun ls hl => ?_)
        refine lv_goto (tgt := 14) hx hb dX6_mixRooms_110 (by decide) ?_
        exact ih σ r46 x48 _ _ _ h hI (lv_sub hl [2, 1, 3, 0] rfl)
def fX6_mixRooms (σ : x_S) (a1 : Int64) : Option (Int64 × x_S) := fX6_mixRooms_b14 400 σ a1 (0 : Int32)
set_option maxHeartbeats 4000000 in
set_option maxRecDepth 100000 in
theorem mX6_mixRooms (l : Launch) (X : x_T) (sz : Nat) (σ : x_S) (a1 : Int64) (r : (Int64 × x_S)) (h : fX6_mixRooms σ a1 = some r) : Met l yX6_mixRooms (x_ws yX6_mixRooms cX6_mixRooms 7 (some .long)) rm_X6_mixRooms (x_Pc X σ sz [.ref (X.2.2 10 32), .long a1]) (x_Ql X r.1 r.2 sz) 0 0 (x_A X sz) := by
  refine Met.ofW (cc := cX6_mixRooms) (maxL := 7) (ret := (some .long)) (by decide) rfl ?_
  intro p e s m args below meth c s₁ B hml hv
  obtain ⟨F, hI, rfl, rfl⟩ := x_begin B hml hv
  replace F : x_F p s m _ meth c cX6_mixRooms 7 RX6 (some .long) := F
  have hx := F.1
  have hb := F.2.1
  have hml := F.2.2.1
  have hown := F.2.2.2.1
  have hts := F.2.2.2.2.1
  refine x_entry (vs := [.ref (X.2.2 10 32), .long a1]) (n := 7) (Nat.le_of_ble_eq_true rfl) (fun ls hl => ?_)
  replace hl : lv_has ls 7 [(0, .ref (X.2.2 10 32)), (1, .long a1)] := hl
  unfold fX6_mixRooms at h
  refine lv_lload_n hx hb dX6_mixRooms_0 rfl (lv_at hl 1 rfl) ?_
  refine lv_lstore_n (lv' := [(3, .long a1), (0, .ref (X.2.2 10 32)), (1, .long a1)]) hx hb dX6_mixRooms_1 rfl hl (by decide) rfl (fun ls hl => ?_)
  refine lv_aload_n hx hb dX6_mixRooms_2 rfl (lv_at hl 1 rfl) ?_
  refine xsg_6_0 F hI (x_inO (by decide)) u_fl_X6_12 dX6_mixRooms_3 ?_
  refine xsg_2_1 F hI (x_inH (show 0 < 10 by decide) (by decide)) u_fl_X6_91 dX6_mixRooms_6 ?_
  refine lv_astore (lv' := [(5, .ref (X.2.2 0 2)), (3, .long a1), (0, .ref (X.2.2 10 32)), (1, .long a1)]) hx hb dX6_mixRooms_9 hl (by decide) rfl (fun ls hl => ?_)
  refine lv_iconst (v := 0) hx hb dX6_mixRooms_11 (by decide) ?_
  refine lv_istore (lv' := [(6, .int (0)), (5, .ref (X.2.2 0 2)), (3, .long a1), (0, .ref (X.2.2 10 32)), (1, .long a1)]) hx hb dX6_mixRooms_12 hl (by decide) rfl (fun ls hl => ?_)
  exact wX6_mixRooms_b14 F 400 σ a1 (0 : Int32) _ _ _ h hI (lv_sub hl [3, 2, 1, 0] rfl)
abbrev rm_X6_mixMessages : Room := { frames := 1, cells := 0, slots := 0, locals := 23 }
def fX6_mixMessages_b22 : Nat → x_S → Int64 → Int32 → Option Int64
  | 0, _, _, _ => none
  | n + 1, σ, y4, y6 => (if (σ 0 3 0) ≤ y6 then some (y4) else (if (60 : Int32) ≤ y6 then some (y4) else (if x_in y6 60 then (Option.bind (fX6_mix y4 ((σ 0 19 (Int32.toNatClampNeg y6))).toInt64) fun r6 => (Option.bind (fX6_mix r6 ((σ 0 20 (Int32.toNatClampNeg y6))).toInt64) fun r8 => (Option.bind (fX6_mix r8 (((σ 0 21 (Int32.toNatClampNeg y6)) + (1 : Int32))).toInt64) fun r10 => x_let (y6 + (1 : Int32)) fun x12 => fX6_mixMessages_b22 n σ r10 x12))) else none)))
set_option maxHeartbeats 4000000 in
set_option maxRecDepth 100000 in
theorem wX6_mixMessages_b22 {p : Program} {l : Launch} {e : Env} {s : State} {m : MethodId} {args : Array Value} {below : List Frame} {meth : Method} {c : Code} {X : x_T} {r : Int64} (F : x_F p s m args meth c cX6_mixMessages 7 RX6 (some .long)) : ∀ (n : Nat) (σ : x_S) (y4 : Int64) (y6 : Int32) (H : Heap) (locs : List Loc) (ls : Array Slot), fX6_mixMessages_b22 n σ y4 y6 = some r → x_I X σ s H locs → lv_has ls 7 [(3, .ref (X.2.2 0 3)), (4, .long y4), (6, .int y6)] → W p l e rm_X6_mixMessages s m args below meth c H locs 0 0 (MQ below (x_Ql X r σ s.heap.size) args s 0 0 (x_A X s.heap.size)) (F0 m 22 ls []) := by
  have hx := F.1
  have hb := F.2.1
  have hml := F.2.2.1
  have hown := F.2.2.2.1
  have hts := F.2.2.2.2.1
  intro n
  induction n with
  | zero =>
    intro σ y4 y6 H locs ls h
    rw [fX6_mixMessages_b22] at h
    cases h
  | succ n ih =>
    intro σ y4 y6 H locs ls h hI hl
    rw [fX6_mixMessages_b22] at h
    refine lv_iload hx hb dX6_mixMessages_22 (lv_at hl 2 rfl) ?_
    refine lv_aload_n hx hb dX6_mixMessages_24 rfl (lv_at hl 0 rfl) ?_
    refine xsg_4_6 F hI (x_inH (show 0 < 10 by decide) (by decide)) u_fl_X6_70 dX6_mixMessages_25 ?_
    refine lv_icmp_ge (tgt := 91) hx hb dX6_mixMessages_28 (by decide) (fun c3 => ?_) (fun c3 => ?_)
    · have h := x_ift h c3
      refine lv_lload hx hb dX6_mixMessages_91 (lv_at hl 1 rfl) ?_
      rw [x_some h]
      exact x_lret F hI dX6_mixMessages_93
    · have h := x_iff h c3
      refine lv_iload hx hb dX6_mixMessages_31 (lv_at hl 2 rfl) ?_
      refine lv_bipush (v := 60) hx hb dX6_mixMessages_33 (by decide) ?_
      refine lv_icmp_ge (tgt := 91) hx hb dX6_mixMessages_35 (by decide) (fun c4 => ?_) (fun c4 => ?_)
      · have h := x_ift h c4
        refine lv_lload hx hb dX6_mixMessages_91 (lv_at hl 1 rfl) ?_
        rw [x_some h]
        exact x_lret F hI dX6_mixMessages_93
      · have h := x_iff h c4
        refine lv_lload hx hb dX6_mixMessages_38 (lv_at hl 1 rfl) ?_
        refine lv_aload_n hx hb dX6_mixMessages_40 rfl (lv_at hl 0 rfl) ?_
        refine xsg_4_0 F hI (x_inH (show 0 < 10 by decide) (by decide)) u_fl_X6_220 dX6_mixMessages_41 ?_
        refine lv_iload hx hb dX6_mixMessages_44 (lv_at hl 2 rfl) ?_
        obtain ⟨g5, h⟩ := x_chk h
        refine x_iald (n := 60) F hI (x_inH (show 0 < 10 by decide) (by decide)) (fun _ => rfl) g5 dX6_mixMessages_46 ?_
        refine lv_i2l hx hb dX6_mixMessages_47 rfl ?_
        obtain ⟨r6, h7, h⟩ := x_bnd h
        refine x_acl hI (x_runS (rest := []) F hI (mX6_mix l X σ _ y4 ((σ 0 19 (Int32.toNatClampNeg y6))).toInt64 r6 h7) g_X6_263 hd_X6_mix ⟨by decide, by decide⟩ ⟨rfl, rfl⟩ rfl hl.1 rfl (Nat.le_of_ble_eq_true rfl) dX6_mixMessages_48 ⟨Nat.zero_le _, Nat.zero_le _⟩) (fun H locs hI => ?_)
        refine lv_lstore (lv' := [(4, .long r6), (3, .ref (X.2.2 0 3)), (6, .int y6)]) hx hb dX6_mixMessages_51 hl (by decide) rfl (fun ls hl => ?_)
        refine lv_lload hx hb dX6_mixMessages_53 (lv_at hl 0 rfl) ?_
        refine lv_aload_n hx hb dX6_mixMessages_55 rfl (lv_at hl 1 rfl) ?_
        refine xsg_4_1 F hI (x_inH (show 0 < 10 by decide) (by decide)) u_fl_X6_223 dX6_mixMessages_56 ?_
        refine lv_iload hx hb dX6_mixMessages_59 (lv_at hl 2 rfl) ?_
        refine x_iald (n := 60) F hI (x_inH (show 0 < 10 by decide) (by decide)) (fun _ => rfl) g5 dX6_mixMessages_61 ?_
        refine lv_i2l hx hb dX6_mixMessages_62 rfl ?_
        obtain ⟨r8, h9, h⟩ := x_bnd h
        refine x_acl hI (x_runS (rest := []) F hI (mX6_mix l X σ _ r6 ((σ 0 20 (Int32.toNatClampNeg y6))).toInt64 r8 h9) g_X6_263 hd_X6_mix ⟨by decide, by decide⟩ ⟨rfl, rfl⟩ rfl hl.1 rfl (Nat.le_of_ble_eq_true rfl) dX6_mixMessages_63 ⟨Nat.zero_le _, Nat.zero_le _⟩) (fun H locs hI => ?_)
        refine lv_lstore (lv' := [(4, .long r8), (3, .ref (X.2.2 0 3)), (6, .int y6)]) hx hb dX6_mixMessages_66 hl (by decide) rfl (fun ls hl => ?_)
        refine lv_lload hx hb dX6_mixMessages_68 (lv_at hl 0 rfl) ?_
        refine lv_aload_n hx hb dX6_mixMessages_70 rfl (lv_at hl 1 rfl) ?_
        refine xsg_4_2 F hI (x_inH (show 0 < 10 by decide) (by decide)) u_fl_X6_224 dX6_mixMessages_71 ?_
        refine lv_iload hx hb dX6_mixMessages_74 (lv_at hl 2 rfl) ?_
        refine x_iald (n := 60) F hI (x_inH (show 0 < 10 by decide) (by decide)) (fun _ => rfl) g5 dX6_mixMessages_76 ?_
        refine lv_iconst (v := 1) hx hb dX6_mixMessages_77 (by decide) ?_
        refine lv_iadd hx hb dX6_mixMessages_78 ?_
        refine lv_i2l hx hb dX6_mixMessages_79 rfl ?_
        obtain ⟨r10, h11, h⟩ := x_bnd h
        refine x_acl hI (x_runS (rest := []) F hI (mX6_mix l X σ _ r8 (((σ 0 21 (Int32.toNatClampNeg y6)) + (1 : Int32))).toInt64 r10 h11) g_X6_263 hd_X6_mix ⟨by decide, by decide⟩ ⟨rfl, rfl⟩ rfl hl.1 rfl (Nat.le_of_ble_eq_true rfl) dX6_mixMessages_80 ⟨Nat.zero_le _, Nat.zero_le _⟩) (fun H locs hI => ?_)
        refine lv_lstore (lv' := [(4, .long r10), (3, .ref (X.2.2 0 3)), (6, .int y6)]) hx hb dX6_mixMessages_83 hl (by decide) rfl (fun ls hl => ?_)
        obtain ⟨x12, e13⟩ : ∃ z : Int32, z = (y6 + (1 : Int32)) := ⟨_, rfl⟩
        have h := x_let_at h e13
        refine lv_iinc (v := x12) (lv' := [(6, .int x12), (4, .long r10), (3, .ref (X.2.2 0 3))]) hx hb dX6_mixMessages_85 hl (k := 2) rfl (by rw [e13]; rfl) (by decide) rfl (fun ls hl => ?_)
        refine lv_goto (tgt := 22) hx hb dX6_mixMessages_88 (by decide) ?_
        exact ih σ r10 x12 _ _ _ h hI (lv_sub hl [2, 1, 0] rfl)
def fX6_mixMessages (σ : x_S) (a1 : Int64) : Option Int64 := (Option.bind (fX6_mix a1 ((σ 0 3 0)).toInt64) fun r1 => fX6_mixMessages_b22 400 σ r1 (0 : Int32))
set_option maxHeartbeats 4000000 in
set_option maxRecDepth 100000 in
theorem mX6_mixMessages (l : Launch) (X : x_T) (sz : Nat) (σ : x_S) (a1 : Int64) (r : Int64) (h : fX6_mixMessages σ a1 = some r) : Met l yX6_mixMessages (x_ws yX6_mixMessages cX6_mixMessages 7 (some .long)) rm_X6_mixMessages (x_Pc X σ sz [.ref (X.2.2 10 32), .long a1]) (x_Ql X r σ sz) 0 0 (x_A X sz) := by
  refine Met.ofW (cc := cX6_mixMessages) (maxL := 7) (ret := (some .long)) (by decide) rfl ?_
  intro p e s m args below meth c s₁ B hml hv
  obtain ⟨F, hI, rfl, rfl⟩ := x_begin B hml hv
  replace F : x_F p s m _ meth c cX6_mixMessages 7 RX6 (some .long) := F
  have hx := F.1
  have hb := F.2.1
  have hml := F.2.2.1
  have hown := F.2.2.2.1
  have hts := F.2.2.2.2.1
  refine x_entry (vs := [.ref (X.2.2 10 32), .long a1]) (n := 7) (Nat.le_of_ble_eq_true rfl) (fun ls hl => ?_)
  replace hl : lv_has ls 7 [(0, .ref (X.2.2 10 32)), (1, .long a1)] := hl
  unfold fX6_mixMessages at h
  refine lv_aload_n hx hb dX6_mixMessages_0 rfl (lv_at hl 0 rfl) ?_
  refine xsg_6_0 F hI (x_inO (by decide)) u_fl_X6_12 dX6_mixMessages_1 ?_
  refine xsg_2_2 F hI (x_inH (show 0 < 10 by decide) (by decide)) u_fl_X6_66 dX6_mixMessages_4 ?_
  refine lv_astore_n (lv' := [(3, .ref (X.2.2 0 3)), (0, .ref (X.2.2 10 32)), (1, .long a1)]) hx hb dX6_mixMessages_7 rfl hl (by decide) rfl (fun ls hl => ?_)
  refine lv_lload_n hx hb dX6_mixMessages_8 rfl (lv_at hl 2 rfl) ?_
  refine lv_aload_n hx hb dX6_mixMessages_9 rfl (lv_at hl 0 rfl) ?_
  refine xsg_4_6 F hI (x_inH (show 0 < 10 by decide) (by decide)) u_fl_X6_70 dX6_mixMessages_10 ?_
  refine lv_i2l hx hb dX6_mixMessages_13 rfl ?_
  obtain ⟨r1, h2, h⟩ := x_bnd h
  refine x_acl hI (x_runS (rest := []) F hI (mX6_mix l X σ _ a1 ((σ 0 3 0)).toInt64 r1 h2) g_X6_263 hd_X6_mix ⟨by decide, by decide⟩ ⟨rfl, rfl⟩ rfl hl.1 rfl (Nat.le_of_ble_eq_true rfl) dX6_mixMessages_14 ⟨Nat.zero_le _, Nat.zero_le _⟩) (fun H locs hI => ?_)
  refine lv_lstore (lv' := [(4, .long r1), (3, .ref (X.2.2 0 3)), (0, .ref (X.2.2 10 32)), (1, .long a1)]) hx hb dX6_mixMessages_17 hl (by decide) rfl (fun ls hl => ?_)
  refine lv_iconst (v := 0) hx hb dX6_mixMessages_19 (by decide) ?_
  refine lv_istore (lv' := [(6, .int (0)), (4, .long r1), (3, .ref (X.2.2 0 3)), (0, .ref (X.2.2 10 32)), (1, .long a1)]) hx hb dX6_mixMessages_20 hl (by decide) rfl (fun ls hl => ?_)
  exact wX6_mixMessages_b22 F 400 σ r1 (0 : Int32) _ _ _ h hI (lv_sub hl [2, 1, 0] rfl)
abbrev rm_X6_mixAccounts : Room := { frames := 1, cells := 0, slots := 0, locals := 23 }
def fX6_mixAccounts_b16 : Nat → x_S → Int64 → Int32 → Option Int64
  | 0, _, _, _ => none
  | n + 1, σ, y3, y5 => (if (7 : Int32) ≤ y5 then (Option.bind (fX6_mix y3 ((σ 0 0 2)).toInt64) fun r4 => (Option.bind (fX6_mix r4 ((σ 0 0 3)).toInt64) fun r6 => (Option.bind (fX6_mix r6 ((σ 0 0 4)).toInt64) fun r8 => (Option.bind (fX6_mix r8 ((σ 0 0 5)).toInt64) fun r10 => (Option.bind (fX6_mix r10 ((σ 0 0 6)).toInt64) fun r12 => some (r12)))))) else (if x_in y5 7 then (Option.bind (fX6_mix y3 ((σ 0 4 (Int32.toNatClampNeg y5))).toInt64) fun r15 => x_let (y5 + (1 : Int32)) fun x17 => fX6_mixAccounts_b16 n σ r15 x17) else none))
set_option maxHeartbeats 4000000 in
set_option maxRecDepth 100000 in
theorem wX6_mixAccounts_b16 {p : Program} {l : Launch} {e : Env} {s : State} {m : MethodId} {args : Array Value} {below : List Frame} {meth : Method} {c : Code} {X : x_T} {r : Int64} (F : x_F p s m args meth c cX6_mixAccounts 6 RX6 (some .long)) : ∀ (n : Nat) (σ : x_S) (y3 : Int64) (y5 : Int32) (H : Heap) (locs : List Loc) (ls : Array Slot), fX6_mixAccounts_b16 n σ y3 y5 = some r → x_I X σ s H locs → lv_has ls 6 [(0, .ref (X.2.2 10 32)), (3, .long y3), (5, .int y5)] → W p l e rm_X6_mixAccounts s m args below meth c H locs 0 0 (MQ below (x_Ql X r σ s.heap.size) args s 0 0 (x_A X s.heap.size)) (F0 m 16 ls []) := by
  have hx := F.1
  have hb := F.2.1
  have hml := F.2.2.1
  have hown := F.2.2.2.1
  have hts := F.2.2.2.2.1
  intro n
  induction n with
  | zero =>
    intro σ y3 y5 H locs ls h
    rw [fX6_mixAccounts_b16] at h
    cases h
  | succ n ih =>
    intro σ y3 y5 H locs ls h hI hl
    rw [fX6_mixAccounts_b16] at h
    refine lv_iload hx hb dX6_mixAccounts_16 (lv_at hl 2 rfl) ?_
    refine lv_bipush (v := 7) hx hb dX6_mixAccounts_18 (by decide) ?_
    refine lv_icmp_ge (tgt := 45) hx hb dX6_mixAccounts_20 (by decide) (fun c3 => ?_) (fun c3 => ?_)
    · have h := x_ift h c3
      refine lv_lload_n hx hb dX6_mixAccounts_45 rfl (lv_at hl 1 rfl) ?_
      refine lv_aload_n hx hb dX6_mixAccounts_46 rfl (lv_at hl 0 rfl) ?_
      refine xsg_6_0 F hI (x_inO (by decide)) u_fl_X6_12 dX6_mixAccounts_47 ?_
      refine xsg_2_6 F hI (x_inH (show 0 < 10 by decide) (by decide)) u_fl_X6_228 dX6_mixAccounts_50 ?_
      refine lv_i2l hx hb dX6_mixAccounts_53 rfl ?_
      obtain ⟨r4, h5, h⟩ := x_bnd h
      refine x_acl hI (x_runS (rest := []) F hI (mX6_mix l X σ _ y3 ((σ 0 0 2)).toInt64 r4 h5) g_X6_263 hd_X6_mix ⟨by decide, by decide⟩ ⟨rfl, rfl⟩ rfl hl.1 rfl (Nat.le_of_ble_eq_true rfl) dX6_mixAccounts_54 ⟨Nat.zero_le _, Nat.zero_le _⟩) (fun H locs hI => ?_)
      refine lv_lstore_n (lv' := [(3, .long r4), (0, .ref (X.2.2 10 32)), (5, .int y5)]) hx hb dX6_mixAccounts_57 rfl hl (by decide) rfl (fun ls hl => ?_)
      refine lv_lload_n hx hb dX6_mixAccounts_58 rfl (lv_at hl 0 rfl) ?_
      refine lv_aload_n hx hb dX6_mixAccounts_59 rfl (lv_at hl 1 rfl) ?_
      refine xsg_6_0 F hI (x_inO (by decide)) u_fl_X6_12 dX6_mixAccounts_60 ?_
      refine xsg_2_7 F hI (x_inH (show 0 < 10 by decide) (by decide)) u_fl_X6_231 dX6_mixAccounts_63 ?_
      refine lv_i2l hx hb dX6_mixAccounts_66 rfl ?_
      obtain ⟨r6, h7, h⟩ := x_bnd h
      refine x_acl hI (x_runS (rest := []) F hI (mX6_mix l X σ _ r4 ((σ 0 0 3)).toInt64 r6 h7) g_X6_263 hd_X6_mix ⟨by decide, by decide⟩ ⟨rfl, rfl⟩ rfl hl.1 rfl (Nat.le_of_ble_eq_true rfl) dX6_mixAccounts_67 ⟨Nat.zero_le _, Nat.zero_le _⟩) (fun H locs hI => ?_)
      refine lv_lstore_n (lv' := [(3, .long r6), (0, .ref (X.2.2 10 32)), (5, .int y5)]) hx hb dX6_mixAccounts_70 rfl hl (by decide) rfl (fun ls hl => ?_)
      refine lv_lload_n hx hb dX6_mixAccounts_71 rfl (lv_at hl 0 rfl) ?_
      refine lv_aload_n hx hb dX6_mixAccounts_72 rfl (lv_at hl 1 rfl) ?_
      refine xsg_6_0 F hI (x_inO (by decide)) u_fl_X6_12 dX6_mixAccounts_73 ?_
      refine xsg_2_8 F hI (x_inH (show 0 < 10 by decide) (by decide)) u_fl_X6_234 dX6_mixAccounts_76 ?_
      refine lv_i2l hx hb dX6_mixAccounts_79 rfl ?_
      obtain ⟨r8, h9, h⟩ := x_bnd h
      refine x_acl hI (x_runS (rest := []) F hI (mX6_mix l X σ _ r6 ((σ 0 0 4)).toInt64 r8 h9) g_X6_263 hd_X6_mix ⟨by decide, by decide⟩ ⟨rfl, rfl⟩ rfl hl.1 rfl (Nat.le_of_ble_eq_true rfl) dX6_mixAccounts_80 ⟨Nat.zero_le _, Nat.zero_le _⟩) (fun H locs hI => ?_)
      refine lv_lstore_n (lv' := [(3, .long r8), (0, .ref (X.2.2 10 32)), (5, .int y5)]) hx hb dX6_mixAccounts_83 rfl hl (by decide) rfl (fun ls hl => ?_)
      refine lv_lload_n hx hb dX6_mixAccounts_84 rfl (lv_at hl 0 rfl) ?_
      refine lv_aload_n hx hb dX6_mixAccounts_85 rfl (lv_at hl 1 rfl) ?_
      refine xsg_6_0 F hI (x_inO (by decide)) u_fl_X6_12 dX6_mixAccounts_86 ?_
      refine xsg_2_9 F hI (x_inH (show 0 < 10 by decide) (by decide)) u_fl_X6_237 dX6_mixAccounts_89 ?_
      refine lv_i2l hx hb dX6_mixAccounts_92 rfl ?_
      obtain ⟨r10, h11, h⟩ := x_bnd h
      refine x_acl hI (x_runS (rest := []) F hI (mX6_mix l X σ _ r8 ((σ 0 0 5)).toInt64 r10 h11) g_X6_263 hd_X6_mix ⟨by decide, by decide⟩ ⟨rfl, rfl⟩ rfl hl.1 rfl (Nat.le_of_ble_eq_true rfl) dX6_mixAccounts_93 ⟨Nat.zero_le _, Nat.zero_le _⟩) (fun H locs hI => ?_)
      refine lv_lstore_n (lv' := [(3, .long r10), (0, .ref (X.2.2 10 32)), (5, .int y5)]) hx hb dX6_mixAccounts_96 rfl hl (by decide) rfl (fun ls hl => ?_)
      refine lv_lload_n hx hb dX6_mixAccounts_97 rfl (lv_at hl 0 rfl) ?_
      refine lv_aload_n hx hb dX6_mixAccounts_98 rfl (lv_at hl 1 rfl) ?_
      refine xsg_6_0 F hI (x_inO (by decide)) u_fl_X6_12 dX6_mixAccounts_99 ?_
      refine xsg_2_10 F hI (x_inH (show 0 < 10 by decide) (by decide)) u_fl_X6_240 dX6_mixAccounts_102 ?_
      refine lv_i2l hx hb dX6_mixAccounts_105 rfl ?_
      obtain ⟨r12, h13, h⟩ := x_bnd h
      refine x_acl hI (x_runS (rest := []) F hI (mX6_mix l X σ _ r10 ((σ 0 0 6)).toInt64 r12 h13) g_X6_263 hd_X6_mix ⟨by decide, by decide⟩ ⟨rfl, rfl⟩ rfl hl.1 rfl (Nat.le_of_ble_eq_true rfl) dX6_mixAccounts_106 ⟨Nat.zero_le _, Nat.zero_le _⟩) (fun H locs hI => ?_)
      rw [x_some h]
      exact x_lret F hI dX6_mixAccounts_109
    · have h := x_iff h c3
      refine lv_lload_n hx hb dX6_mixAccounts_23 rfl (lv_at hl 1 rfl) ?_
      refine lv_aload_n hx hb dX6_mixAccounts_24 rfl (lv_at hl 0 rfl) ?_
      refine xsg_6_0 F hI (x_inO (by decide)) u_fl_X6_12 dX6_mixAccounts_25 ?_
      refine xsg_2_3 F hI (x_inH (show 0 < 10 by decide) (by decide)) u_fl_X6_225 dX6_mixAccounts_28 ?_
      refine lv_iload hx hb dX6_mixAccounts_31 (lv_at hl 2 rfl) ?_
      obtain ⟨g14, h⟩ := x_chk h
      refine x_iald (n := 7) F hI (x_inH (show 0 < 10 by decide) (by decide)) (fun _ => rfl) g14 dX6_mixAccounts_33 ?_
      refine lv_i2l hx hb dX6_mixAccounts_34 rfl ?_
      obtain ⟨r15, h16, h⟩ := x_bnd h
      refine x_acl hI (x_runS (rest := []) F hI (mX6_mix l X σ _ y3 ((σ 0 4 (Int32.toNatClampNeg y5))).toInt64 r15 h16) g_X6_263 hd_X6_mix ⟨by decide, by decide⟩ ⟨rfl, rfl⟩ rfl hl.1 rfl (Nat.le_of_ble_eq_true rfl) dX6_mixAccounts_35 ⟨Nat.zero_le _, Nat.zero_le _⟩) (fun H locs hI => ?_)
      refine lv_lstore_n (lv' := [(3, .long r15), (0, .ref (X.2.2 10 32)), (5, .int y5)]) hx hb dX6_mixAccounts_38 rfl hl (by decide) rfl (fun ls hl => ?_)
      obtain ⟨x17, e18⟩ : ∃ z : Int32, z = (y5 + (1 : Int32)) := ⟨_, rfl⟩
      have h := x_let_at h e18
      refine lv_iinc (v := x17) (lv' := [(5, .int x17), (3, .long r15), (0, .ref (X.2.2 10 32))]) hx hb dX6_mixAccounts_39 hl (k := 2) rfl (by rw [e18]; rfl) (by decide) rfl (fun ls hl => ?_)
      refine lv_goto (tgt := 16) hx hb dX6_mixAccounts_42 (by decide) ?_
      exact ih σ r15 x17 _ _ _ h hI (lv_sub hl [2, 1, 0] rfl)
def fX6_mixAccounts (σ : x_S) (a1 : Int64) : Option Int64 := (Option.bind (fX6_mix a1 ((σ 0 0 0)).toInt64) fun r1 => fX6_mixAccounts_b16 400 σ r1 (0 : Int32))
set_option maxHeartbeats 4000000 in
set_option maxRecDepth 100000 in
theorem mX6_mixAccounts (l : Launch) (X : x_T) (sz : Nat) (σ : x_S) (a1 : Int64) (r : Int64) (h : fX6_mixAccounts σ a1 = some r) : Met l yX6_mixAccounts (x_ws yX6_mixAccounts cX6_mixAccounts 6 (some .long)) rm_X6_mixAccounts (x_Pc X σ sz [.ref (X.2.2 10 32), .long a1]) (x_Ql X r σ sz) 0 0 (x_A X sz) := by
  refine Met.ofW (cc := cX6_mixAccounts) (maxL := 6) (ret := (some .long)) (by decide) rfl ?_
  intro p e s m args below meth c s₁ B hml hv
  obtain ⟨F, hI, rfl, rfl⟩ := x_begin B hml hv
  replace F : x_F p s m _ meth c cX6_mixAccounts 6 RX6 (some .long) := F
  have hx := F.1
  have hb := F.2.1
  have hml := F.2.2.1
  have hown := F.2.2.2.1
  have hts := F.2.2.2.2.1
  refine x_entry (vs := [.ref (X.2.2 10 32), .long a1]) (n := 6) (Nat.le_of_ble_eq_true rfl) (fun ls hl => ?_)
  replace hl : lv_has ls 6 [(0, .ref (X.2.2 10 32)), (1, .long a1)] := hl
  unfold fX6_mixAccounts at h
  refine lv_lload_n hx hb dX6_mixAccounts_0 rfl (lv_at hl 1 rfl) ?_
  refine lv_aload_n hx hb dX6_mixAccounts_1 rfl (lv_at hl 0 rfl) ?_
  refine xsg_6_0 F hI (x_inO (by decide)) u_fl_X6_12 dX6_mixAccounts_2 ?_
  refine xsg_2_4 F hI (x_inH (show 0 < 10 by decide) (by decide)) u_fl_X6_180 dX6_mixAccounts_5 ?_
  refine lv_i2l hx hb dX6_mixAccounts_8 rfl ?_
  obtain ⟨r1, h2, h⟩ := x_bnd h
  refine x_acl hI (x_runS (rest := []) F hI (mX6_mix l X σ _ a1 ((σ 0 0 0)).toInt64 r1 h2) g_X6_263 hd_X6_mix ⟨by decide, by decide⟩ ⟨rfl, rfl⟩ rfl hl.1 rfl (Nat.le_of_ble_eq_true rfl) dX6_mixAccounts_9 ⟨Nat.zero_le _, Nat.zero_le _⟩) (fun H locs hI => ?_)
  refine lv_lstore_n (lv' := [(3, .long r1), (0, .ref (X.2.2 10 32)), (1, .long a1)]) hx hb dX6_mixAccounts_12 rfl hl (by decide) rfl (fun ls hl => ?_)
  refine lv_iconst (v := 0) hx hb dX6_mixAccounts_13 (by decide) ?_
  refine lv_istore (lv' := [(5, .int (0)), (3, .long r1), (0, .ref (X.2.2 10 32)), (1, .long a1)]) hx hb dX6_mixAccounts_14 hl (by decide) rfl (fun ls hl => ?_)
  exact wX6_mixAccounts_b16 F 400 σ r1 (0 : Int32) _ _ _ h hI (lv_sub hl [2, 1, 0] rfl)
abbrev rm_X6_mixSlotsAndText : Room := { frames := 1, cells := 0, slots := 0, locals := 23 }
def fX6_mixSlotsAndText_b53 : Nat → x_S → Int64 → Int32 → Option Int64
  | 0, _, _, _ => none
  | n + 1, σ, y3, y5 => (if (σ 10 37 0) ≤ y5 then some (y3) else (if (60 : Int32) ≤ y5 then some (y3) else (if x_in y5 60 then (Option.bind (fX6_mix y3 ((σ 10 38 (Int32.toNatClampNeg y5))).toInt64) fun r17 => x_let (y5 + (1 : Int32)) fun x19 => fX6_mixSlotsAndText_b53 n σ r17 x19) else none)))
set_option maxHeartbeats 4000000 in
set_option maxRecDepth 100000 in
theorem wX6_mixSlotsAndText_b53 {p : Program} {l : Launch} {e : Env} {s : State} {m : MethodId} {args : Array Value} {below : List Frame} {meth : Method} {c : Code} {X : x_T} {r : Int64} (F : x_F p s m args meth c cX6_mixSlotsAndText 6 RX6 (some .long)) : ∀ (n : Nat) (σ : x_S) (y3 : Int64) (y5 : Int32) (H : Heap) (locs : List Loc) (ls : Array Slot), fX6_mixSlotsAndText_b53 n σ y3 y5 = some r → x_I X σ s H locs → lv_has ls 6 [(0, .ref (X.2.2 10 32)), (3, .long y3), (5, .int y5)] → W p l e rm_X6_mixSlotsAndText s m args below meth c H locs 0 0 (MQ below (x_Ql X r σ s.heap.size) args s 0 0 (x_A X s.heap.size)) (F0 m 53 ls []) := by
  have hx := F.1
  have hb := F.2.1
  have hml := F.2.2.1
  have hown := F.2.2.2.1
  have hts := F.2.2.2.2.1
  intro n
  induction n with
  | zero =>
    intro σ y3 y5 H locs ls h
    rw [fX6_mixSlotsAndText_b53] at h
    cases h
  | succ n ih =>
    intro σ y3 y5 H locs ls h hI hl
    rw [fX6_mixSlotsAndText_b53] at h
    refine lv_iload hx hb dX6_mixSlotsAndText_53 (lv_at hl 2 rfl) ?_
    refine lv_aload_n hx hb dX6_mixSlotsAndText_55 rfl (lv_at hl 0 rfl) ?_
    refine xsg_6_5 F hI (x_inO (by decide)) u_fl_X6_37 dX6_mixSlotsAndText_56 ?_
    refine xsg_0_1 F hI (x_inO (by decide)) u_fl_X6_143 dX6_mixSlotsAndText_59 ?_
    refine lv_icmp_ge (tgt := 94) hx hb dX6_mixSlotsAndText_62 (by decide) (fun c14 => ?_) (fun c14 => ?_)
    · have h := x_ift h c14
      refine lv_lload_n hx hb dX6_mixSlotsAndText_94 rfl (lv_at hl 1 rfl) ?_
      rw [x_some h]
      exact x_lret F hI dX6_mixSlotsAndText_95
    · have h := x_iff h c14
      refine lv_iload hx hb dX6_mixSlotsAndText_65 (lv_at hl 2 rfl) ?_
      refine lv_bipush (v := 60) hx hb dX6_mixSlotsAndText_67 (by decide) ?_
      refine lv_icmp_ge (tgt := 94) hx hb dX6_mixSlotsAndText_69 (by decide) (fun c15 => ?_) (fun c15 => ?_)
      · have h := x_ift h c15
        refine lv_lload_n hx hb dX6_mixSlotsAndText_94 rfl (lv_at hl 1 rfl) ?_
        rw [x_some h]
        exact x_lret F hI dX6_mixSlotsAndText_95
      · have h := x_iff h c15
        refine lv_lload_n hx hb dX6_mixSlotsAndText_72 rfl (lv_at hl 1 rfl) ?_
        refine lv_aload_n hx hb dX6_mixSlotsAndText_73 rfl (lv_at hl 0 rfl) ?_
        refine xsg_6_5 F hI (x_inO (by decide)) u_fl_X6_37 dX6_mixSlotsAndText_74 ?_
        refine xsg_0_0 F hI (x_inO (by decide)) u_fl_X6_307 dX6_mixSlotsAndText_77 ?_
        refine lv_iload hx hb dX6_mixSlotsAndText_80 (lv_at hl 2 rfl) ?_
        obtain ⟨g16, h⟩ := x_chk h
        refine x_cald (n := 60) F hI (x_inO (by decide)) (fun _ => rfl) g16 dX6_mixSlotsAndText_82 ?_
        refine lv_i2l hx hb dX6_mixSlotsAndText_83 rfl ?_
        obtain ⟨r17, h18, h⟩ := x_bnd h
        refine x_acl hI (x_runS (rest := []) F hI (mX6_mix l X σ _ y3 ((σ 10 38 (Int32.toNatClampNeg y5))).toInt64 r17 h18) g_X6_263 hd_X6_mix ⟨by decide, by decide⟩ ⟨rfl, rfl⟩ rfl hl.1 rfl (Nat.le_of_ble_eq_true rfl) dX6_mixSlotsAndText_84 ⟨Nat.zero_le _, Nat.zero_le _⟩) (fun H locs hI => ?_)
        refine lv_lstore_n (lv' := [(3, .long r17), (0, .ref (X.2.2 10 32)), (5, .int y5)]) hx hb dX6_mixSlotsAndText_87 rfl hl (by decide) rfl (fun ls hl => ?_)
        obtain ⟨x19, e20⟩ : ∃ z : Int32, z = (y5 + (1 : Int32)) := ⟨_, rfl⟩
        have h := x_let_at h e20
        refine lv_iinc (v := x19) (lv' := [(5, .int x19), (3, .long r17), (0, .ref (X.2.2 10 32))]) hx hb dX6_mixSlotsAndText_88 hl (k := 2) rfl (by rw [e20]; rfl) (by decide) rfl (fun ls hl => ?_)
        refine lv_goto (tgt := 53) hx hb dX6_mixSlotsAndText_91 (by decide) ?_
        exact ih σ r17 x19 _ _ _ h hI (lv_sub hl [2, 1, 0] rfl)
def fX6_mixSlotsAndText_b5 : Nat → x_S → Int64 → Int32 → Option Int64
  | 0, _, _, _ => none
  | n + 1, σ, y3, y5 => (if (2 : Int32) ≤ y5 then (Option.bind (fX6_mix y3 ((σ 10 37 0)).toInt64) fun r2 => fX6_mixSlotsAndText_b53 400 σ r2 (0 : Int32)) else (if x_in y5 2 then (if (σ 10 36 (Int32.toNatClampNeg y5)) = 0 then (Option.bind (fX6_mix y3 (0 : Int64)) fun r6 => x_let (y5 + (1 : Int32)) fun x8 => fX6_mixSlotsAndText_b5 n σ r6 x8) else (Option.bind (fX6_mix y3 (1 : Int64)) fun r10 => x_let (y5 + (1 : Int32)) fun x12 => fX6_mixSlotsAndText_b5 n σ r10 x12)) else none))
set_option maxHeartbeats 4000000 in
set_option maxRecDepth 100000 in
theorem wX6_mixSlotsAndText_b5 {p : Program} {l : Launch} {e : Env} {s : State} {m : MethodId} {args : Array Value} {below : List Frame} {meth : Method} {c : Code} {X : x_T} {r : Int64} (F : x_F p s m args meth c cX6_mixSlotsAndText 6 RX6 (some .long)) : ∀ (n : Nat) (σ : x_S) (y3 : Int64) (y5 : Int32) (H : Heap) (locs : List Loc) (ls : Array Slot), fX6_mixSlotsAndText_b5 n σ y3 y5 = some r → x_I X σ s H locs → lv_has ls 6 [(0, .ref (X.2.2 10 32)), (3, .long y3), (5, .int y5)] → W p l e rm_X6_mixSlotsAndText s m args below meth c H locs 0 0 (MQ below (x_Ql X r σ s.heap.size) args s 0 0 (x_A X s.heap.size)) (F0 m 5 ls []) := by
  have hx := F.1
  have hb := F.2.1
  have hml := F.2.2.1
  have hown := F.2.2.2.1
  have hts := F.2.2.2.2.1
  intro n
  induction n with
  | zero =>
    intro σ y3 y5 H locs ls h
    rw [fX6_mixSlotsAndText_b5] at h
    cases h
  | succ n ih =>
    intro σ y3 y5 H locs ls h hI hl
    rw [fX6_mixSlotsAndText_b5] at h
    refine lv_iload hx hb dX6_mixSlotsAndText_5 (lv_at hl 2 rfl) ?_
    refine lv_iconst (v := 2) hx hb dX6_mixSlotsAndText_7 (by decide) ?_
    refine lv_icmp_ge (tgt := 37) hx hb dX6_mixSlotsAndText_8 (by decide) (fun c1 => ?_) (fun c1 => ?_)
    · have h := x_ift h c1
      refine lv_lload_n hx hb dX6_mixSlotsAndText_37 rfl (lv_at hl 1 rfl) ?_
      refine lv_aload_n hx hb dX6_mixSlotsAndText_38 rfl (lv_at hl 0 rfl) ?_
      refine xsg_6_5 F hI (x_inO (by decide)) u_fl_X6_37 dX6_mixSlotsAndText_39 ?_
      refine xsg_0_1 F hI (x_inO (by decide)) u_fl_X6_143 dX6_mixSlotsAndText_42 ?_
      refine lv_i2l hx hb dX6_mixSlotsAndText_45 rfl ?_
      obtain ⟨r2, h3, h⟩ := x_bnd h
      refine x_acl hI (x_runS (rest := []) F hI (mX6_mix l X σ _ y3 ((σ 10 37 0)).toInt64 r2 h3) g_X6_263 hd_X6_mix ⟨by decide, by decide⟩ ⟨rfl, rfl⟩ rfl hl.1 rfl (Nat.le_of_ble_eq_true rfl) dX6_mixSlotsAndText_46 ⟨Nat.zero_le _, Nat.zero_le _⟩) (fun H locs hI => ?_)
      refine lv_lstore_n (lv' := [(3, .long r2), (0, .ref (X.2.2 10 32)), (5, .int y5)]) hx hb dX6_mixSlotsAndText_49 rfl hl (by decide) rfl (fun ls hl => ?_)
      refine lv_iconst (v := 0) hx hb dX6_mixSlotsAndText_50 (by decide) ?_
      refine lv_istore (lv' := [(5, .int (0)), (3, .long r2), (0, .ref (X.2.2 10 32))]) hx hb dX6_mixSlotsAndText_51 hl (by decide) rfl (fun ls hl => ?_)
      exact wX6_mixSlotsAndText_b53 F 400 σ r2 (0 : Int32) _ _ _ h hI (lv_sub hl [2, 1, 0] rfl)
    · have h := x_iff h c1
      refine lv_lload_n hx hb dX6_mixSlotsAndText_11 rfl (lv_at hl 1 rfl) ?_
      refine lv_aload_n hx hb dX6_mixSlotsAndText_12 rfl (lv_at hl 0 rfl) ?_
      refine xsg_6_4 F hI (x_inO (by decide)) u_fl_X6_30 dX6_mixSlotsAndText_13 ?_
      refine lv_iload hx hb dX6_mixSlotsAndText_16 (lv_at hl 2 rfl) ?_
      obtain ⟨g4, h⟩ := x_chk h
      refine x_zald (n := 2) F hI (x_inO (by decide)) (fun _ => rfl) g4 dX6_mixSlotsAndText_18 ?_
      refine lv_if_eq (tgt := 26) hx hb dX6_mixSlotsAndText_19 (by decide) (fun c5 => ?_) (fun c5 => ?_)
      · have h := x_ift h c5
        refine lv_lconst (v := 0) hx hb dX6_mixSlotsAndText_26 (by decide) ?_
        obtain ⟨r6, h7, h⟩ := x_bnd h
        refine x_acl hI (x_runS (rest := []) F hI (mX6_mix l X σ _ y3 (0 : Int64) r6 h7) g_X6_263 hd_X6_mix ⟨by decide, by decide⟩ ⟨rfl, rfl⟩ rfl hl.1 rfl (Nat.le_of_ble_eq_true rfl) dX6_mixSlotsAndText_27 ⟨Nat.zero_le _, Nat.zero_le _⟩) (fun H locs hI => ?_)
        refine lv_lstore_n (lv' := [(3, .long r6), (0, .ref (X.2.2 10 32)), (5, .int y5)]) hx hb dX6_mixSlotsAndText_30 rfl hl (by decide) rfl (fun ls hl => ?_)
        obtain ⟨x8, e9⟩ : ∃ z : Int32, z = (y5 + (1 : Int32)) := ⟨_, rfl⟩
        have h := x_let_at h e9
        refine lv_iinc (v := x8) (lv' := [(5, .int x8), (3, .long r6), (0, .ref (X.2.2 10 32))]) hx hb dX6_mixSlotsAndText_31 hl (k := 2) rfl (by rw [e9]; rfl) (by decide) rfl (fun ls hl => ?_)
        refine lv_goto (tgt := 5) hx hb dX6_mixSlotsAndText_34 (by decide) ?_
        exact ih σ r6 x8 _ _ _ h hI (lv_sub hl [2, 1, 0] rfl)
      · have h := x_iff h c5
        refine lv_lconst (v := 1) hx hb dX6_mixSlotsAndText_22 (by decide) ?_
        refine lv_goto (tgt := 27) hx hb dX6_mixSlotsAndText_23 (by decide) ?_
        obtain ⟨r10, h11, h⟩ := x_bnd h
        refine x_acl hI (x_runS (rest := []) F hI (mX6_mix l X σ _ y3 (1 : Int64) r10 h11) g_X6_263 hd_X6_mix ⟨by decide, by decide⟩ ⟨rfl, rfl⟩ rfl hl.1 rfl (Nat.le_of_ble_eq_true rfl) dX6_mixSlotsAndText_27 ⟨Nat.zero_le _, Nat.zero_le _⟩) (fun H locs hI => ?_)
        refine lv_lstore_n (lv' := [(3, .long r10), (0, .ref (X.2.2 10 32)), (5, .int y5)]) hx hb dX6_mixSlotsAndText_30 rfl hl (by decide) rfl (fun ls hl => ?_)
        obtain ⟨x12, e13⟩ : ∃ z : Int32, z = (y5 + (1 : Int32)) := ⟨_, rfl⟩
        have h := x_let_at h e13
        refine lv_iinc (v := x12) (lv' := [(5, .int x12), (3, .long r10), (0, .ref (X.2.2 10 32))]) hx hb dX6_mixSlotsAndText_31 hl (k := 2) rfl (by rw [e13]; rfl) (by decide) rfl (fun ls hl => ?_)
        refine lv_goto (tgt := 5) hx hb dX6_mixSlotsAndText_34 (by decide) ?_
        exact ih σ r10 x12 _ _ _ h hI (lv_sub hl [2, 1, 0] rfl)
def fX6_mixSlotsAndText (σ : x_S) (a1 : Int64) : Option Int64 := fX6_mixSlotsAndText_b5 400 σ a1 (0 : Int32)
set_option maxHeartbeats 4000000 in
set_option maxRecDepth 100000 in
theorem mX6_mixSlotsAndText (l : Launch) (X : x_T) (sz : Nat) (σ : x_S) (a1 : Int64) (r : Int64) (h : fX6_mixSlotsAndText σ a1 = some r) : Met l yX6_mixSlotsAndText (x_ws yX6_mixSlotsAndText cX6_mixSlotsAndText 6 (some .long)) rm_X6_mixSlotsAndText (x_Pc X σ sz [.ref (X.2.2 10 32), .long a1]) (x_Ql X r σ sz) 0 0 (x_A X sz) := by
  refine Met.ofW (cc := cX6_mixSlotsAndText) (maxL := 6) (ret := (some .long)) (by decide) rfl ?_
  intro p e s m args below meth c s₁ B hml hv
  obtain ⟨F, hI, rfl, rfl⟩ := x_begin B hml hv
  replace F : x_F p s m _ meth c cX6_mixSlotsAndText 6 RX6 (some .long) := F
  have hx := F.1
  have hb := F.2.1
  have hml := F.2.2.1
  have hown := F.2.2.2.1
  have hts := F.2.2.2.2.1
  refine x_entry (vs := [.ref (X.2.2 10 32), .long a1]) (n := 6) (Nat.le_of_ble_eq_true rfl) (fun ls hl => ?_)
  replace hl : lv_has ls 6 [(0, .ref (X.2.2 10 32)), (1, .long a1)] := hl
  unfold fX6_mixSlotsAndText at h
  refine lv_lload_n hx hb dX6_mixSlotsAndText_0 rfl (lv_at hl 1 rfl) ?_
  refine lv_lstore_n (lv' := [(3, .long a1), (0, .ref (X.2.2 10 32)), (1, .long a1)]) hx hb dX6_mixSlotsAndText_1 rfl hl (by decide) rfl (fun ls hl => ?_)
  refine lv_iconst (v := 0) hx hb dX6_mixSlotsAndText_2 (by decide) ?_
  refine lv_istore (lv' := [(5, .int (0)), (3, .long a1), (0, .ref (X.2.2 10 32)), (1, .long a1)]) hx hb dX6_mixSlotsAndText_3 hl (by decide) rfl (fun ls hl => ?_)
  exact wX6_mixSlotsAndText_b5 F 400 σ a1 (0 : Int32) _ _ _ h hI (lv_sub hl [2, 1, 0] rfl)
abbrev rm_X6_digest : Room := { frames := 6, cells := 0, slots := 0, locals := 139 }
def fX6_digest (σ : x_S) : Option (Int64 × x_S) := (Option.bind (fX6_mixGuests σ (4409 : Int64)) fun r1 => (Option.bind (fX6_mixRooms σ r1) fun r3 => (Option.bind (fX6_mixMessages r3.2 r3.1) fun r5 => (Option.bind (fX6_mixAccounts r3.2 r5) fun r7 => (Option.bind (fX6_tryDeliveringAll r3.2 ) fun r9 => (Option.bind (fX6_mix r7 (r9.1).toInt64) fun r11 => (Option.bind (fX1_countHoused (r9.2 1) ) fun r13 => (Option.bind (fX6_mix r11 r13.toInt64) fun r15 => (Option.bind (fX6_mix r15 ((r9.2 10 33 0)).toInt64) fun r17 => (Option.bind (fX3_countRooms (r9.2 0) (2 : Int32)) fun r19 => (Option.bind (fX6_bitsOfShare r19) fun r21 => (Option.bind (fX6_mix r17 r21) fun r23 => (Option.bind (fX6_mixSlotsAndText r9.2 r23) fun r25 => some (r25, r9.2))))))))))))))
set_option maxHeartbeats 4000000 in
set_option maxRecDepth 100000 in
theorem mX6_digest (l : Launch) (X : x_T) (sz : Nat) (σ : x_S) (r : (Int64 × x_S)) (h : fX6_digest σ  = some r) : Met l yX6_digest (x_ws yX6_digest cX6_digest 3 (some .long)) rm_X6_digest (x_Pc X σ sz [.ref (X.2.2 10 32)]) (x_Ql X r.1 r.2 sz) 0 0 (x_A X sz) := by
  refine Met.ofW (cc := cX6_digest) (maxL := 3) (ret := (some .long)) (by decide) rfl ?_
  intro p e s m args below meth c s₁ B hml hv
  obtain ⟨F, hI, rfl, rfl⟩ := x_begin B hml hv
  replace F : x_F p s m _ meth c cX6_digest 3 RX6 (some .long) := F
  have hx := F.1
  have hb := F.2.1
  have hml := F.2.2.1
  have hown := F.2.2.2.1
  have hts := F.2.2.2.2.1
  refine x_entry (vs := [.ref (X.2.2 10 32)]) (n := 3) (Nat.le_of_ble_eq_true rfl) (fun ls hl => ?_)
  replace hl : lv_has ls 3 [(0, .ref (X.2.2 10 32))] := hl
  unfold fX6_digest at h
  refine lv_aload_n hx hb dX6_digest_0 rfl (lv_at hl 0 rfl) ?_
  refine lv_ldc2 (v := 4409) hx hb hown (hts _ u_cl_X6_248) dX6_digest_1 ?_
  obtain ⟨r1, h2, h⟩ := x_bnd h
  refine x_acl hI (x_runV (rest := []) F hI (mX6_mixGuests l X _ σ (4409 : Int64) r1 h2) g_X6_250 ⟨rfl, hd_X6_mixGuests⟩ ⟨by decide, by decide⟩ ⟨rfl, rfl⟩ (x_inO (by decide)) rfl rfl rfl rfl hl.1 rfl (Nat.le_of_ble_eq_true rfl) dX6_digest_4 ⟨Nat.zero_le _, Nat.zero_le _⟩) (fun H locs hI => ?_)
  refine lv_lstore_n (lv' := [(1, .long r1), (0, .ref (X.2.2 10 32))]) hx hb dX6_digest_7 rfl hl (by decide) rfl (fun ls hl => ?_)
  refine lv_aload_n hx hb dX6_digest_8 rfl (lv_at hl 1 rfl) ?_
  refine lv_lload_n hx hb dX6_digest_9 rfl (lv_at hl 0 rfl) ?_
  obtain ⟨r3, h4, h⟩ := x_bnd h
  refine x_acl hI (x_runV (rest := []) F hI (mX6_mixRooms l X _ σ r1 r3 h4) g_X6_254 ⟨rfl, hd_X6_mixRooms⟩ ⟨by decide, by decide⟩ ⟨rfl, rfl⟩ (x_inO (by decide)) rfl rfl rfl rfl hl.1 rfl (Nat.le_of_ble_eq_true rfl) dX6_digest_10 ⟨Nat.zero_le _, Nat.zero_le _⟩) (fun H locs hI => ?_)
  refine lv_lstore_n (lv' := [(1, .long r3.1), (0, .ref (X.2.2 10 32))]) hx hb dX6_digest_13 rfl hl (by decide) rfl (fun ls hl => ?_)
  refine lv_aload_n hx hb dX6_digest_14 rfl (lv_at hl 1 rfl) ?_
  refine lv_lload_n hx hb dX6_digest_15 rfl (lv_at hl 0 rfl) ?_
  obtain ⟨r5, h6, h⟩ := x_bnd h
  refine x_acl hI (x_runV (rest := []) F hI (mX6_mixMessages l X _ r3.2 r3.1 r5 h6) g_X6_257 ⟨rfl, hd_X6_mixMessages⟩ ⟨by decide, by decide⟩ ⟨rfl, rfl⟩ (x_inO (by decide)) rfl rfl rfl rfl hl.1 rfl (Nat.le_of_ble_eq_true rfl) dX6_digest_16 ⟨Nat.zero_le _, Nat.zero_le _⟩) (fun H locs hI => ?_)
  refine lv_lstore_n (lv' := [(1, .long r5), (0, .ref (X.2.2 10 32))]) hx hb dX6_digest_19 rfl hl (by decide) rfl (fun ls hl => ?_)
  refine lv_aload_n hx hb dX6_digest_20 rfl (lv_at hl 1 rfl) ?_
  refine lv_lload_n hx hb dX6_digest_21 rfl (lv_at hl 0 rfl) ?_
  obtain ⟨r7, h8, h⟩ := x_bnd h
  refine x_acl hI (x_runV (rest := []) F hI (mX6_mixAccounts l X _ r3.2 r5 r7 h8) g_X6_260 ⟨rfl, hd_X6_mixAccounts⟩ ⟨by decide, by decide⟩ ⟨rfl, rfl⟩ (x_inO (by decide)) rfl rfl rfl rfl hl.1 rfl (Nat.le_of_ble_eq_true rfl) dX6_digest_22 ⟨Nat.zero_le _, Nat.zero_le _⟩) (fun H locs hI => ?_)
  refine lv_lstore_n (lv' := [(1, .long r7), (0, .ref (X.2.2 10 32))]) hx hb dX6_digest_25 rfl hl (by decide) rfl (fun ls hl => ?_)
  refine lv_lload_n hx hb dX6_digest_26 rfl (lv_at hl 0 rfl) ?_
  refine lv_aload_n hx hb dX6_digest_27 rfl (lv_at hl 1 rfl) ?_
  obtain ⟨r9, h10, h⟩ := x_bnd h
  refine x_aci hI (x_runV (rest := [.long r7]) F hI (mX6_tryDeliveringAll l X _ r3.2  r9 h10) g_X6_243 ⟨rfl, hd_X6_tryDeliveringAll⟩ ⟨by decide, by decide⟩ ⟨rfl, rfl⟩ (x_inO (by decide)) rfl rfl rfl rfl hl.1 rfl (Nat.le_of_ble_eq_true rfl) dX6_digest_28 ⟨Nat.zero_le _, Nat.zero_le _⟩) (fun H locs hI => ?_)
  refine lv_i2l hx hb dX6_digest_31 rfl ?_
  obtain ⟨r11, h12, h⟩ := x_bnd h
  refine x_acl hI (x_runS (rest := []) F hI (mX6_mix l X r9.2 _ r7 (r9.1).toInt64 r11 h12) g_X6_263 hd_X6_mix ⟨by decide, by decide⟩ ⟨rfl, rfl⟩ rfl hl.1 rfl (Nat.le_of_ble_eq_true rfl) dX6_digest_32 ⟨Nat.zero_le _, Nat.zero_le _⟩) (fun H locs hI => ?_)
  refine lv_lstore_n (lv' := [(1, .long r11), (0, .ref (X.2.2 10 32))]) hx hb dX6_digest_35 rfl hl (by decide) rfl (fun ls hl => ?_)
  refine lv_lload_n hx hb dX6_digest_36 rfl (lv_at hl 0 rfl) ?_
  refine lv_aload_n hx hb dX6_digest_37 rfl (lv_at hl 1 rfl) ?_
  refine xsg_6_1 F hI (x_inO (by decide)) u_fl_X6_16 dX6_digest_38 ?_
  refine xsg_2_0 F hI (x_inH (show 1 < 10 by decide) (by decide)) u_fl_X6_45 dX6_digest_41 ?_
  obtain ⟨r13, h14, h⟩ := x_bnd h
  have hI := x_toH 1 hI
  refine x_aci hI (x_runV (rest := [.long r11]) F hI (mX1_countHoused l X r9.2 1 (show 1 < 10 by decide) _ (r9.2 1)  r13 h14) g_X6_171 ⟨rfl, hd_X1_countHoused⟩ ⟨by decide, by decide⟩ ⟨rfl, rfl⟩ (x_inH (show 1 < 10 by decide) (by decide)) rfl rfl rfl rfl hl.1 rfl (Nat.le_of_ble_eq_true rfl) dX6_digest_44 ⟨Nat.zero_le _, Nat.zero_le _⟩) (fun H locs hI => ?_)
  rw [x_sh_self] at hI
  refine lv_i2l hx hb dX6_digest_47 rfl ?_
  obtain ⟨r15, h16, h⟩ := x_bnd h
  refine x_acl hI (x_runS (rest := []) F hI (mX6_mix l X r9.2 _ r11 r13.toInt64 r15 h16) g_X6_263 hd_X6_mix ⟨by decide, by decide⟩ ⟨rfl, rfl⟩ rfl hl.1 rfl (Nat.le_of_ble_eq_true rfl) dX6_digest_48 ⟨Nat.zero_le _, Nat.zero_le _⟩) (fun H locs hI => ?_)
  refine lv_lstore_n (lv' := [(1, .long r15), (0, .ref (X.2.2 10 32))]) hx hb dX6_digest_51 rfl hl (by decide) rfl (fun ls hl => ?_)
  refine lv_lload_n hx hb dX6_digest_52 rfl (lv_at hl 0 rfl) ?_
  refine lv_aload_n hx hb dX6_digest_53 rfl (lv_at hl 1 rfl) ?_
  refine xsg_6_2 F hI (x_inO (by decide)) u_fl_X6_22 dX6_digest_54 ?_
  refine xsg_5_1 F hI (x_inO (by decide)) u_fl_X6_174 dX6_digest_57 ?_
  refine lv_i2l hx hb dX6_digest_60 rfl ?_
  obtain ⟨r17, h18, h⟩ := x_bnd h
  refine x_acl hI (x_runS (rest := []) F hI (mX6_mix l X r9.2 _ r15 ((r9.2 10 33 0)).toInt64 r17 h18) g_X6_263 hd_X6_mix ⟨by decide, by decide⟩ ⟨rfl, rfl⟩ rfl hl.1 rfl (Nat.le_of_ble_eq_true rfl) dX6_digest_61 ⟨Nat.zero_le _, Nat.zero_le _⟩) (fun H locs hI => ?_)
  refine lv_lstore_n (lv' := [(1, .long r17), (0, .ref (X.2.2 10 32))]) hx hb dX6_digest_64 rfl hl (by decide) rfl (fun ls hl => ?_)
  refine lv_lload_n hx hb dX6_digest_65 rfl (lv_at hl 0 rfl) ?_
  refine lv_aload_n hx hb dX6_digest_66 rfl (lv_at hl 1 rfl) ?_
  refine xsg_6_0 F hI (x_inO (by decide)) u_fl_X6_12 dX6_digest_67 ?_
  refine xsg_2_1 F hI (x_inH (show 0 < 10 by decide) (by decide)) u_fl_X6_91 dX6_digest_70 ?_
  refine lv_iconst (v := 2) hx hb dX6_digest_73 (by decide) ?_
  obtain ⟨r19, h20, h⟩ := x_bnd h
  have hI := x_toH 0 hI
  refine x_aci hI (x_runV (rest := [.long r17]) F hI (mX3_countRooms l X r9.2 0 (show 0 < 10 by decide) _ (r9.2 0) (2 : Int32) r19 h20) g_X6_208 ⟨rfl, hd_X3_countRooms⟩ ⟨by decide, by decide⟩ ⟨rfl, rfl⟩ (x_inH (show 0 < 10 by decide) (by decide)) rfl rfl rfl rfl hl.1 rfl (Nat.le_of_ble_eq_true rfl) dX6_digest_74 ⟨Nat.zero_le _, Nat.zero_le _⟩) (fun H locs hI => ?_)
  rw [x_sh_self] at hI
  obtain ⟨r21, h22, h⟩ := x_bnd h
  refine x_acl hI (x_runS (rest := [.long r17]) F hI (mX6_bitsOfShare l X r9.2 _ r19 r21 h22) g_X6_267 hd_X6_bitsOfShare ⟨by decide, by decide⟩ ⟨rfl, rfl⟩ rfl hl.1 rfl (Nat.le_of_ble_eq_true rfl) dX6_digest_77 ⟨Nat.zero_le _, Nat.zero_le _⟩) (fun H locs hI => ?_)
  obtain ⟨r23, h24, h⟩ := x_bnd h
  refine x_acl hI (x_runS (rest := []) F hI (mX6_mix l X r9.2 _ r17 r21 r23 h24) g_X6_263 hd_X6_mix ⟨by decide, by decide⟩ ⟨rfl, rfl⟩ rfl hl.1 rfl (Nat.le_of_ble_eq_true rfl) dX6_digest_80 ⟨Nat.zero_le _, Nat.zero_le _⟩) (fun H locs hI => ?_)
  refine lv_lstore_n (lv' := [(1, .long r23), (0, .ref (X.2.2 10 32))]) hx hb dX6_digest_83 rfl hl (by decide) rfl (fun ls hl => ?_)
  refine lv_aload_n hx hb dX6_digest_84 rfl (lv_at hl 1 rfl) ?_
  refine lv_lload_n hx hb dX6_digest_85 rfl (lv_at hl 0 rfl) ?_
  obtain ⟨r25, h26, h⟩ := x_bnd h
  refine x_acl hI (x_runV (rest := []) F hI (mX6_mixSlotsAndText l X _ r9.2 r23 r25 h26) g_X6_271 ⟨rfl, hd_X6_mixSlotsAndText⟩ ⟨by decide, by decide⟩ ⟨rfl, rfl⟩ (x_inO (by decide)) rfl rfl rfl rfl hl.1 rfl (Nat.le_of_ble_eq_true rfl) dX6_digest_86 ⟨Nat.zero_le _, Nat.zero_le _⟩) (fun H locs hI => ?_)
  rw [x_some h]
  exact x_lret F hI dX6_digest_89
