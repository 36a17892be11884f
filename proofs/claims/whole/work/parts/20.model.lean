abbrev rm_X7_in : Room := { frames := 0, cells := 0, slots := 0, locals := 0 }
def fX7_in (a1 : Int64) (a2 : Int64) (a3 : Int64) : Option Int32 := (if (lg_cmp a1 a2) < 0 then some (0 : Int32) else (if 0 < (lg_cmp a1 a3) then some (0 : Int32) else some (1 : Int32)))
set_option maxHeartbeats 4000000 in
set_option maxRecDepth 100000 in
theorem mX7_in (l : Launch) (X : x_T) (σ : x_S) (sz : Nat) (a1 : Int64) (a2 : Int64) (a3 : Int64) (r : Int32) (h : fX7_in a1 a2 a3 = some r) : Met l yX7_in (x_ws yX7_in cX7_in 6 (some .boolean)) rm_X7_in (x_Pc X σ sz [.long a1, .long a2, .long a3]) (x_Qi X r σ sz) 0 0 (x_A X sz) := by
  refine Met.ofW (cc := cX7_in) (maxL := 6) (ret := (some .boolean)) (by decide) rfl ?_
  intro p e s m args below meth c s₁ B hml hv
  obtain ⟨F, hI, rfl, rfl⟩ := x_begin B hml hv
  replace F : x_F p s m _ meth c cX7_in 6 RX7 (some .boolean) := F
  have hx := F.1
  have hb := F.2.1
  have hml := F.2.2.1
  have hown := F.2.2.2.1
  have hts := F.2.2.2.2.1
  refine x_entry (vs := [.long a1, .long a2, .long a3]) (n := 6) (Nat.le_of_ble_eq_true rfl) (fun ls hl => ?_)
  replace hl : lv_has ls 6 [(0, .long a1), (2, .long a2), (4, .long a3)] := hl
  unfold fX7_in at h
  refine lv_lload_n hx hb dX7_in_0 rfl (lv_at hl 0 rfl) ?_
  refine lv_lload_n hx hb dX7_in_1 rfl (lv_at hl 1 rfl) ?_
  refine W.lcmp hx hb dX7_in_2 ?_
  refine lv_if_lt (tgt := 17) hx hb dX7_in_3 (by decide) (fun c1 => ?_) (fun c1 => ?_)
  · have h := x_ift h c1
    refine lv_iconst (v := 0) hx hb dX7_in_17 (by decide) ?_
    rw [x_some h]
    exact x_zret (v := 0) F hI (by decide) dX7_in_18
  · have h := x_iff h c1
    refine lv_lload_n hx hb dX7_in_6 rfl (lv_at hl 0 rfl) ?_
    refine lv_lload hx hb dX7_in_7 (lv_at hl 2 rfl) ?_
    refine W.lcmp hx hb dX7_in_9 ?_
    refine lv_if_gt (tgt := 17) hx hb dX7_in_10 (by decide) (fun c2 => ?_) (fun c2 => ?_)
    · have h := x_ift h c2
      refine lv_iconst (v := 0) hx hb dX7_in_17 (by decide) ?_
      rw [x_some h]
      exact x_zret (v := 0) F hI (by decide) dX7_in_18
    · have h := x_iff h c2
      refine lv_iconst (v := 1) hx hb dX7_in_13 (by decide) ?_
      refine lv_goto (tgt := 18) hx hb dX7_in_14 (by decide) ?_
      rw [x_some h]
      exact x_zret (v := 1) F hI (by decide) dX7_in_18
abbrev rm_X7_isGuest : Room := { frames := 1, cells := 0, slots := 0, locals := 25 }
def fX7_isGuest (a1 : Int32) : Option Int32 := (Option.bind (fX7_in a1.toInt64 (0 : Int64) (11 : Int64)) fun r1 => if vp_nar .boolean r1 = r1 then some (r1) else none)
set_option maxHeartbeats 4000000 in
set_option maxRecDepth 100000 in
theorem mX7_isGuest (l : Launch) (X : x_T) (σ : x_S) (sz : Nat) (a1 : Int32) (r : Int32) (h : fX7_isGuest a1 = some r) : Met l yX7_isGuest (x_ws yX7_isGuest cX7_isGuest 1 (some .boolean)) rm_X7_isGuest (x_Pc X σ sz [.int a1]) (x_Qi X r σ sz) 0 0 (x_A X sz) := by
  refine Met.ofW (cc := cX7_isGuest) (maxL := 1) (ret := (some .boolean)) (by decide) rfl ?_
  intro p e s m args below meth c s₁ B hml hv
  obtain ⟨F, hI, rfl, rfl⟩ := x_begin B hml hv
  replace F : x_F p s m _ meth c cX7_isGuest 1 RX7 (some .boolean) := F
  have hx := F.1
  have hb := F.2.1
  have hml := F.2.2.1
  have hown := F.2.2.2.1
  have hts := F.2.2.2.2.1
  refine x_entry (vs := [.int a1]) (n := 1) (Nat.le_of_ble_eq_true rfl) (fun ls hl => ?_)
  replace hl : lv_has ls 1 [(0, .int a1)] := hl
  unfold fX7_isGuest at h
  refine lv_iload_n hx hb dX7_isGuest_0 rfl (lv_at hl 0 rfl) ?_
  refine lv_i2l hx hb dX7_isGuest_1 rfl ?_
  refine lv_lconst (v := 0) hx hb dX7_isGuest_2 (by decide) ?_
  refine lv_ldc2 (v := 11) hx hb hown (hts _ u_cl_X7_33) dX7_isGuest_3 ?_
  obtain ⟨r1, h2, h⟩ := x_bnd h
  refine x_aci hI (x_runS (rest := []) F hI (mX7_in l X σ _ a1.toInt64 (0 : Int64) (11 : Int64) r1 h2) g_X7_35 hd_X7_in ⟨by decide, by decide⟩ ⟨rfl, rfl⟩ rfl hl.1 rfl (Nat.le_of_ble_eq_true rfl) dX7_isGuest_6 ⟨Nat.zero_le _, Nat.zero_le _⟩) (fun H locs hI => ?_)
  obtain ⟨g, h⟩ := x_chk h
  rw [x_some h]
  exact x_zret (v := r1) F hI g dX7_isGuest_9
abbrev rm_X7_isRoom : Room := { frames := 1, cells := 0, slots := 0, locals := 25 }
def fX7_isRoom (a1 : Int32) : Option Int32 := (Option.bind (fX7_in a1.toInt64 (0 : Int64) (15 : Int64)) fun r1 => if vp_nar .boolean r1 = r1 then some (r1) else none)
set_option maxHeartbeats 4000000 in
set_option maxRecDepth 100000 in
theorem mX7_isRoom (l : Launch) (X : x_T) (σ : x_S) (sz : Nat) (a1 : Int32) (r : Int32) (h : fX7_isRoom a1 = some r) : Met l yX7_isRoom (x_ws yX7_isRoom cX7_isRoom 1 (some .boolean)) rm_X7_isRoom (x_Pc X σ sz [.int a1]) (x_Qi X r σ sz) 0 0 (x_A X sz) := by
  refine Met.ofW (cc := cX7_isRoom) (maxL := 1) (ret := (some .boolean)) (by decide) rfl ?_
  intro p e s m args below meth c s₁ B hml hv
  obtain ⟨F, hI, rfl, rfl⟩ := x_begin B hml hv
  replace F : x_F p s m _ meth c cX7_isRoom 1 RX7 (some .boolean) := F
  have hx := F.1
  have hb := F.2.1
  have hml := F.2.2.1
  have hown := F.2.2.2.1
  have hts := F.2.2.2.2.1
  refine x_entry (vs := [.int a1]) (n := 1) (Nat.le_of_ble_eq_true rfl) (fun ls hl => ?_)
  replace hl : lv_has ls 1 [(0, .int a1)] := hl
  unfold fX7_isRoom at h
  refine lv_iload_n hx hb dX7_isRoom_0 rfl (lv_at hl 0 rfl) ?_
  refine lv_i2l hx hb dX7_isRoom_1 rfl ?_
  refine lv_lconst (v := 0) hx hb dX7_isRoom_2 (by decide) ?_
  refine lv_ldc2 (v := 15) hx hb hown (hts _ u_cl_X7_39) dX7_isRoom_3 ?_
  obtain ⟨r1, h2, h⟩ := x_bnd h
  refine x_aci hI (x_runS (rest := []) F hI (mX7_in l X σ _ a1.toInt64 (0 : Int64) (15 : Int64) r1 h2) g_X7_35 hd_X7_in ⟨by decide, by decide⟩ ⟨rfl, rfl⟩ rfl hl.1 rfl (Nat.le_of_ble_eq_true rfl) dX7_isRoom_6 ⟨Nat.zero_le _, Nat.zero_le _⟩) (fun H locs hI => ?_)
  obtain ⟨g, h⟩ := x_chk h
  rw [x_some h]
  exact x_zret (v := r1) F hI g dX7_isRoom_9
abbrev rm_X7_isSlot : Room := { frames := 1, cells := 0, slots := 0, locals := 25 }
def fX7_isSlot (a1 : Int32) : Option Int32 := (Option.bind (fX7_in a1.toInt64 (0 : Int64) (1 : Int64)) fun r1 => if vp_nar .boolean r1 = r1 then some (r1) else none)
set_option maxHeartbeats 4000000 in
set_option maxRecDepth 100000 in
theorem mX7_isSlot (l : Launch) (X : x_T) (σ : x_S) (sz : Nat) (a1 : Int32) (r : Int32) (h : fX7_isSlot a1 = some r) : Met l yX7_isSlot (x_ws yX7_isSlot cX7_isSlot 1 (some .boolean)) rm_X7_isSlot (x_Pc X σ sz [.int a1]) (x_Qi X r σ sz) 0 0 (x_A X sz) := by
  refine Met.ofW (cc := cX7_isSlot) (maxL := 1) (ret := (some .boolean)) (by decide) rfl ?_
  intro p e s m args below meth c s₁ B hml hv
  obtain ⟨F, hI, rfl, rfl⟩ := x_begin B hml hv
  replace F : x_F p s m _ meth c cX7_isSlot 1 RX7 (some .boolean) := F
  have hx := F.1
  have hb := F.2.1
  have hml := F.2.2.1
  have hown := F.2.2.2.1
  have hts := F.2.2.2.2.1
  refine x_entry (vs := [.int a1]) (n := 1) (Nat.le_of_ble_eq_true rfl) (fun ls hl => ?_)
  replace hl : lv_has ls 1 [(0, .int a1)] := hl
  unfold fX7_isSlot at h
  refine lv_iload_n hx hb dX7_isSlot_0 rfl (lv_at hl 0 rfl) ?_
  refine lv_i2l hx hb dX7_isSlot_1 rfl ?_
  refine lv_lconst (v := 0) hx hb dX7_isSlot_2 (by decide) ?_
  refine lv_lconst (v := 1) hx hb dX7_isSlot_3 (by decide) ?_
  obtain ⟨r1, h2, h⟩ := x_bnd h
  refine x_aci hI (x_runS (rest := []) F hI (mX7_in l X σ _ a1.toInt64 (0 : Int64) (1 : Int64) r1 h2) g_X7_35 hd_X7_in ⟨by decide, by decide⟩ ⟨rfl, rfl⟩ rfl hl.1 rfl (Nat.le_of_ble_eq_true rfl) dX7_isSlot_4 ⟨Nat.zero_le _, Nat.zero_le _⟩) (fun H locs hI => ?_)
  obtain ⟨g, h⟩ := x_chk h
  rw [x_some h]
  exact x_zret (v := r1) F hI g dX7_isSlot_7
abbrev rm_X7_mix : Room := { frames := 0, cells := 0, slots := 0, locals := 0 }
def fX7_mix (a1 : Int64) (a2 : Int64) : Option Int64 := some (((31 : Int64) * a1) + a2)
set_option maxHeartbeats 4000000 in
set_option maxRecDepth 100000 in
theorem mX7_mix (l : Launch) (X : x_T) (σ : x_S) (sz : Nat) (a1 : Int64) (a2 : Int64) (r : Int64) (h : fX7_mix a1 a2 = some r) : Met l yX7_mix (x_ws yX7_mix cX7_mix 4 (some .long)) rm_X7_mix (x_Pc X σ sz [.long a1, .long a2]) (x_Ql X r σ sz) 0 0 (x_A X sz) := by
  refine Met.ofW (cc := cX7_mix) (maxL := 4) (ret := (some .long)) (by decide) rfl ?_
  intro p e s m args below meth c s₁ B hml hv
  obtain ⟨F, hI, rfl, rfl⟩ := x_begin B hml hv
  replace F : x_F p s m _ meth c cX7_mix 4 RX7 (some .long) := F
  have hx := F.1
  have hb := F.2.1
  have hml := F.2.2.1
  have hown := F.2.2.2.1
  have hts := F.2.2.2.2.1
  refine x_entry (vs := [.long a1, .long a2]) (n := 4) (Nat.le_of_ble_eq_true rfl) (fun ls hl => ?_)
  replace hl : lv_has ls 4 [(0, .long a1), (2, .long a2)] := hl
  unfold fX7_mix at h
  refine lv_ldc2 (v := 31) hx hb hown (hts _ u_cl_X7_229) dX7_mix_0 ?_
  refine lv_lload_n hx hb dX7_mix_3 rfl (lv_at hl 0 rfl) ?_
  refine lv_lmul hx hb dX7_mix_4 ?_
  refine lv_lload_n hx hb dX7_mix_5 rfl (lv_at hl 1 rfl) ?_
  refine lv_ladd hx hb dX7_mix_6 ?_
  rw [x_some h]
  exact x_lret F hI dX7_mix_7
abbrev rm_X7_doing : Room := { frames := 0, cells := 0, slots := 0, locals := 0 }
def fX7_doing (v : x_V) (a1 : Int32) : Option Int32 := (if x_in ((8 : Int32) * a1) 570 then some (v (Int32.toNatClampNeg ((8 : Int32) * a1))) else none)
set_option maxHeartbeats 4000000 in
set_option maxRecDepth 100000 in
theorem mX7_doing (l : Launch) (X : x_T) (σ : x_S) (u : x_H) (kr : Nat) (hkm : (11, kr) ∈ x_ids) (hkc : ∀ v : x_V, x_cell X 11 kr v = .inl (X.2.1 0, 570, .inl v)) (sz : Nat) (v : x_V) (a1 : Int32) (r : Int32) (h : fX7_doing v a1 = some r) : Met l yX7_doing (x_ws yX7_doing cX7_doing 2 (some .int)) rm_X7_doing (x_Pc X (x_sh σ 11 (x_hs u kr v)) sz [.ref (X.2.2 11 kr), .int a1]) (x_Qi X r (x_sh σ 11 (x_hs u kr v)) sz) 0 0 (x_A X sz) := by
  refine Met.ofW (cc := cX7_doing) (maxL := 2) (ret := (some .int)) (by decide) rfl ?_
  intro p e s m args below meth c s₁ B hml hv
  obtain ⟨F, hI, rfl, rfl⟩ := x_begin B hml hv
  replace F : x_F p s m _ meth c cX7_doing 2 RX7 (some .int) := F
  have hx := F.1
  have hb := F.2.1
  have hml := F.2.2.1
  have hown := F.2.2.2.1
  have hts := F.2.2.2.2.1
  refine x_entry (vs := [.ref (X.2.2 11 kr), .int a1]) (n := 2) (Nat.le_of_ble_eq_true rfl) (fun ls hl => ?_)
  replace hl : lv_has ls 2 [(0, .ref (X.2.2 11 kr)), (1, .int a1)] := hl
  unfold fX7_doing at h
  refine lv_aload_n hx hb dX7_doing_0 rfl (lv_at hl 0 rfl) ?_
  refine lv_bipush (v := 8) hx hb dX7_doing_1 (by decide) ?_
  refine lv_iload_n hx hb dX7_doing_3 rfl (lv_at hl 1 rfl) ?_
  refine lv_imul hx hb dX7_doing_4 ?_
  obtain ⟨g1, h⟩ := x_chk h
  refine xv_iald F hI hkm hkc g1 dX7_doing_5 ?_
  rw [x_some h]
  exact x_iret F hI dX7_doing_6
abbrev rm_X7_state : Room := { frames := 0, cells := 0, slots := 0, locals := 0 }
def fX7_state (v : x_V) (a1 : Int32) : Option Int32 := (if x_in ((96 : Int32) + ((6 : Int32) * a1)) 570 then some (v (Int32.toNatClampNeg ((96 : Int32) + ((6 : Int32) * a1)))) else none)
set_option maxHeartbeats 4000000 in
set_option maxRecDepth 100000 in
theorem mX7_state (l : Launch) (X : x_T) (σ : x_S) (u : x_H) (kr : Nat) (hkm : (11, kr) ∈ x_ids) (hkc : ∀ v : x_V, x_cell X 11 kr v = .inl (X.2.1 0, 570, .inl v)) (sz : Nat) (v : x_V) (a1 : Int32) (r : Int32) (h : fX7_state v a1 = some r) : Met l yX7_state (x_ws yX7_state cX7_state 2 (some .int)) rm_X7_state (x_Pc X (x_sh σ 11 (x_hs u kr v)) sz [.ref (X.2.2 11 kr), .int a1]) (x_Qi X r (x_sh σ 11 (x_hs u kr v)) sz) 0 0 (x_A X sz) := by
  refine Met.ofW (cc := cX7_state) (maxL := 2) (ret := (some .int)) (by decide) rfl ?_
  intro p e s m args below meth c s₁ B hml hv
  obtain ⟨F, hI, rfl, rfl⟩ := x_begin B hml hv
  replace F : x_F p s m _ meth c cX7_state 2 RX7 (some .int) := F
  have hx := F.1
  have hb := F.2.1
  have hml := F.2.2.1
  have hown := F.2.2.2.1
  have hts := F.2.2.2.2.1
  refine x_entry (vs := [.ref (X.2.2 11 kr), .int a1]) (n := 2) (Nat.le_of_ble_eq_true rfl) (fun ls hl => ?_)
  replace hl : lv_has ls 2 [(0, .ref (X.2.2 11 kr)), (1, .int a1)] := hl
  unfold fX7_state at h
  refine lv_aload_n hx hb dX7_state_0 rfl (lv_at hl 0 rfl) ?_
  refine lv_bipush (v := 96) hx hb dX7_state_1 (by decide) ?_
  refine lv_bipush (v := 6) hx hb dX7_state_3 (by decide) ?_
  refine lv_iload_n hx hb dX7_state_5 rfl (lv_at hl 1 rfl) ?_
  refine lv_imul hx hb dX7_state_6 ?_
  refine lv_iadd hx hb dX7_state_7 ?_
  obtain ⟨g1, h⟩ := x_chk h
  refine xv_iald F hI hkm hkc g1 dX7_state_8 ?_
  rw [x_some h]
  exact x_iret F hI dX7_state_9
abbrev rm_X7_belongs : Room := { frames := 1, cells := 0, slots := 0, locals := 21 }
def fX7_belongs (v : x_V) (a1 : Int32) (a2 : Int32) (a3 : Int32) : Option Int32 := (Option.bind (fX7_state v a1) fun r1 => (if r1 = a2 then (if x_in (((96 : Int32) + ((6 : Int32) * a1)) + (2 : Int32)) 570 then (if (v (Int32.toNatClampNeg (((96 : Int32) + ((6 : Int32) * a1)) + (2 : Int32)))) = a3 then some (1 : Int32) else some (0 : Int32)) else none) else some (0 : Int32)))
set_option maxHeartbeats 4000000 in
set_option maxRecDepth 100000 in
theorem mX7_belongs (l : Launch) (X : x_T) (σ : x_S) (u : x_H) (kr : Nat) (hkm : (11, kr) ∈ x_ids) (hkc : ∀ v : x_V, x_cell X 11 kr v = .inl (X.2.1 0, 570, .inl v)) (sz : Nat) (v : x_V) (a1 : Int32) (a2 : Int32) (a3 : Int32) (r : Int32) (h : fX7_belongs v a1 a2 a3 = some r) : Met l yX7_belongs (x_ws yX7_belongs cX7_belongs 4 (some .boolean)) rm_X7_belongs (x_Pc X (x_sh σ 11 (x_hs u kr v)) sz [.ref (X.2.2 11 kr), .int a1, .int a2, .int a3]) (x_Qi X r (x_sh σ 11 (x_hs u kr v)) sz) 0 0 (x_A X sz) := by
  refine Met.ofW (cc := cX7_belongs) (maxL := 4) (ret := (some .boolean)) (by decide) rfl ?_
  intro p e s m args below meth c s₁ B hml hv
  obtain ⟨F, hI, rfl, rfl⟩ := x_begin B hml hv
  replace F : x_F p s m _ meth c cX7_belongs 4 RX7 (some .boolean) := F
  have hx := F.1
  have hb := F.2.1
  have hml := F.2.2.1
  have hown := F.2.2.2.1
  have hts := F.2.2.2.2.1
  refine x_entry (vs := [.ref (X.2.2 11 kr), .int a1, .int a2, .int a3]) (n := 4) (Nat.le_of_ble_eq_true rfl) (fun ls hl => ?_)
  replace hl : lv_has ls 4 [(0, .ref (X.2.2 11 kr)), (1, .int a1), (2, .int a2), (3, .int a3)] := hl
  unfold fX7_belongs at h
  refine lv_aload_n hx hb dX7_belongs_0 rfl (lv_at hl 0 rfl) ?_
  refine lv_iload_n hx hb dX7_belongs_1 rfl (lv_at hl 1 rfl) ?_
  obtain ⟨r1, h2, h⟩ := x_bnd h
  refine x_aci hI (x_runS (rest := []) F hI (mX7_state l X σ u kr hkm hkc _ v a1 r1 h2) g_X7_41 hd_X7_state ⟨by decide, by decide⟩ ⟨rfl, rfl⟩ rfl hl.1 rfl (Nat.le_of_ble_eq_true rfl) dX7_belongs_2 ⟨Nat.zero_le _, Nat.zero_le _⟩) (fun H locs hI => ?_)
  refine lv_iload_n hx hb dX7_belongs_5 rfl (lv_at hl 2 rfl) ?_
  refine lv_icmp_ne (tgt := 28) hx hb dX7_belongs_6 (by decide) (fun c3 => ?_) (fun c3 => ?_)
  · have h := x_iff h c3
    refine lv_iconst (v := 0) hx hb dX7_belongs_28 (by decide) ?_
    rw [x_some h]
    exact x_zret (v := 0) F hI (by decide) dX7_belongs_29
  · have h := x_ift h c3
    refine lv_aload_n hx hb dX7_belongs_9 rfl (lv_at hl 0 rfl) ?_
    refine lv_bipush (v := 96) hx hb dX7_belongs_10 (by decide) ?_
    refine lv_bipush (v := 6) hx hb dX7_belongs_12 (by decide) ?_
    refine lv_iload_n hx hb dX7_belongs_14 rfl (lv_at hl 1 rfl) ?_
    refine lv_imul hx hb dX7_belongs_15 ?_
    refine lv_iadd hx hb dX7_belongs_16 ?_
    refine lv_iconst (v := 2) hx hb dX7_belongs_17 (by decide) ?_
    refine lv_iadd hx hb dX7_belongs_18 ?_
    obtain ⟨g4, h⟩ := x_chk h
    refine xv_iald F hI hkm hkc g4 dX7_belongs_19 ?_
    refine lv_iload_n hx hb dX7_belongs_20 rfl (lv_at hl 3 rfl) ?_
    refine lv_icmp_ne (tgt := 28) hx hb dX7_belongs_21 (by decide) (fun c5 => ?_) (fun c5 => ?_)
    · have h := x_iff h c5
      refine lv_iconst (v := 0) hx hb dX7_belongs_28 (by decide) ?_
      rw [x_some h]
      exact x_zret (v := 0) F hI (by decide) dX7_belongs_29
    · have h := x_ift h c5
      refine lv_iconst (v := 1) hx hb dX7_belongs_24 (by decide) ?_
      refine lv_goto (tgt := 29) hx hb dX7_belongs_25 (by decide) ?_
      rw [x_some h]
      exact x_zret (v := 1) F hI (by decide) dX7_belongs_29
abbrev rm_X7_post : Room := { frames := 0, cells := 0, slots := 0, locals := 0 }
def fX7_post (v : x_V) (a1 : Int32) (a2 : Int32) (a3 : Int32) (a4 : Int32) (a5 : Int32) : Option (Int32 × x_V) := x_let (upd v (Int32.toNatClampNeg (553 : Int32)) ((v (Int32.toNatClampNeg (553 : Int32))) + (1 : Int32))) fun u1 => (if x_in ((563 : Int32) + a1) 570 then x_let (upd u1 (Int32.toNatClampNeg ((563 : Int32) + a1)) ((u1 (Int32.toNatClampNeg ((563 : Int32) + a1))) + (1 : Int32))) fun u4 => (if (u4 (Int32.toNatClampNeg (552 : Int32))) = (60 : Int32) then x_let (upd u4 (Int32.toNatClampNeg (558 : Int32)) ((u4 (Int32.toNatClampNeg (558 : Int32))) + (1 : Int32))) fun u7 => some ((u7 (Int32.toNatClampNeg (553 : Int32))), u7) else x_let ((192 : Int32) + ((6 : Int32) * (u4 (Int32.toNatClampNeg (552 : Int32))))) fun x9 => (if x_in x9 570 then x_let (upd u4 (Int32.toNatClampNeg x9) a1) fun u11 => (if x_in (x9 + (1 : Int32)) 570 then x_let (upd u11 (Int32.toNatClampNeg (x9 + (1 : Int32))) a2) fun u14 => (if x_in (x9 + (2 : Int32)) 570 then x_let (upd u14 (Int32.toNatClampNeg (x9 + (2 : Int32))) a3) fun u17 => (if x_in (x9 + (3 : Int32)) 570 then x_let (upd u17 (Int32.toNatClampNeg (x9 + (3 : Int32))) (u17 (Int32.toNatClampNeg (553 : Int32)))) fun u20 => (if x_in (x9 + (4 : Int32)) 570 then x_let (upd u20 (Int32.toNatClampNeg (x9 + (4 : Int32))) a4) fun u23 => (if x_in (x9 + (5 : Int32)) 570 then x_let (upd u23 (Int32.toNatClampNeg (x9 + (5 : Int32))) a5) fun u26 => x_let (upd u26 (Int32.toNatClampNeg (552 : Int32)) ((u26 (Int32.toNatClampNeg (552 : Int32))) + (1 : Int32))) fun u29 => some ((u29 (Int32.toNatClampNeg (553 : Int32))), u29) else none) else none) else none) else none) else none) else none)) else none)
set_option maxHeartbeats 4000000 in
set_option maxRecDepth 100000 in
theorem mX7_post (l : Launch) (X : x_T) (σ : x_S) (u : x_H) (kr : Nat) (hkm : (11, kr) ∈ x_ids) (hkc : ∀ v : x_V, x_cell X 11 kr v = .inl (X.2.1 0, 570, .inl v)) (sz : Nat) (v : x_V) (a1 : Int32) (a2 : Int32) (a3 : Int32) (a4 : Int32) (a5 : Int32) (r : (Int32 × x_V)) (h : fX7_post v a1 a2 a3 a4 a5 = some r) : Met l yX7_post (x_ws yX7_post cX7_post 7 (some .int)) rm_X7_post (x_Pc X (x_sh σ 11 (x_hs u kr v)) sz [.ref (X.2.2 11 kr), .int a1, .int a2, .int a3, .int a4, .int a5]) (x_Qi X r.1 (x_sh σ 11 (x_hs u kr r.2)) sz) 0 0 (x_A X sz) := by
  refine Met.ofW (cc := cX7_post) (maxL := 7) (ret := (some .int)) (by decide) rfl ?_
  intro p e s m args below meth c s₁ B hml hv
  obtain ⟨F, hI, rfl, rfl⟩ := x_begin B hml hv
  replace F : x_F p s m _ meth c cX7_post 7 RX7 (some .int) := F
  have hx := F.1
  have hb := F.2.1
  have hml := F.2.2.1
  have hown := F.2.2.2.1
  have hts := F.2.2.2.2.1
  refine x_entry (vs := [.ref (X.2.2 11 kr), .int a1, .int a2, .int a3, .int a4, .int a5]) (n := 7) (Nat.le_of_ble_eq_true rfl) (fun ls hl => ?_)
  replace hl : lv_has ls 7 [(0, .ref (X.2.2 11 kr)), (1, .int a1), (2, .int a2), (3, .int a3), (4, .int a4), (5, .int a5)] := hl
  unfold fX7_post at h
  refine lv_aload_n hx hb dX7_post_0 rfl (lv_at hl 0 rfl) ?_
  refine lv_sipush (v := 553) hx hb dX7_post_1 (by decide) ?_
  refine lv_dup2_11 hx hb dX7_post_4 rfl rfl ?_
  refine xv_iald F hI hkm hkc (by decide) dX7_post_5 ?_
  refine lv_iconst (v := 1) hx hb dX7_post_6 (by decide) ?_
  refine lv_iadd hx hb dX7_post_7 ?_
  refine xv_iast F hI hkm hkc (by decide) dX7_post_8 (fun H locs u1 e2 hI => ?_)
  have h := x_let_at h e2
  refine lv_aload_n hx hb dX7_post_9 rfl (lv_at hl 0 rfl) ?_
  refine lv_sipush (v := 563) hx hb dX7_post_10 (by decide) ?_
  refine lv_iload_n hx hb dX7_post_13 rfl (lv_at hl 1 rfl) ?_
  refine lv_iadd hx hb dX7_post_14 ?_
  refine lv_dup2_11 hx hb dX7_post_15 rfl rfl ?_
  obtain ⟨g3, h⟩ := x_chk h
  refine xv_iald F hI hkm hkc g3 dX7_post_16 ?_
  refine lv_iconst (v := 1) hx hb dX7_post_17 (by decide) ?_
  refine lv_iadd hx hb dX7_post_18 ?_
  refine xv_iast F hI hkm hkc g3 dX7_post_19 (fun H locs u4 e5 hI => ?_)
  have h := x_let_at h e5
  refine lv_aload_n hx hb dX7_post_20 rfl (lv_at hl 0 rfl) ?_
  refine lv_sipush (v := 552) hx hb dX7_post_21 (by decide) ?_
  refine xv_iald F hI hkm hkc (by decide) dX7_post_24 ?_
  refine lv_bipush (v := 60) hx hb dX7_post_25 (by decide) ?_
  refine lv_icmp_ne (tgt := 45) hx hb dX7_post_27 (by decide) (fun c6 => ?_) (fun c6 => ?_)
  · have h := x_iff h c6
    refine lv_sipush (v := 192) hx hb dX7_post_45 (by decide) ?_
    refine lv_bipush (v := 6) hx hb dX7_post_48 (by decide) ?_
    refine lv_aload_n hx hb dX7_post_50 rfl (lv_at hl 0 rfl) ?_
    refine lv_sipush (v := 552) hx hb dX7_post_51 (by decide) ?_
    refine xv_iald F hI hkm hkc (by decide) dX7_post_54 ?_
    refine lv_imul hx hb dX7_post_55 ?_
    refine lv_iadd hx hb dX7_post_56 ?_
    refine lv_topi (fun x9 e10 => ?_)
    have h := x_let_at h e10
    refine lv_istore (lv' := [(6, .int x9), (0, .ref (X.2.2 11 kr)), (1, .int a1), (2, .int a2), (3, .int a3), (4, .int a4), (5, .int a5)]) hx hb dX7_post_57 hl (by decide) rfl (fun ls hl => ?_)
    refine lv_aload_n hx hb dX7_post_59 rfl (lv_at hl 1 rfl) ?_
    refine lv_iload hx hb dX7_post_60 (lv_at hl 0 rfl) ?_
    refine lv_iload_n hx hb dX7_post_62 rfl (lv_at hl 2 rfl) ?_
    obtain ⟨g13, h⟩ := x_chk h
    refine xv_iast F hI hkm hkc g13 dX7_post_63 (fun H locs u11 e12 hI => ?_)
    have h := x_let_at h e12
    refine lv_aload_n hx hb dX7_post_64 rfl (lv_at hl 1 rfl) ?_
    refine lv_iload hx hb dX7_post_65 (lv_at hl 0 rfl) ?_
    refine lv_iconst (v := 1) hx hb dX7_post_67 (by decide) ?_
    refine lv_iadd hx hb dX7_post_68 ?_
    refine lv_iload_n hx hb dX7_post_69 rfl (lv_at hl 3 rfl) ?_
    obtain ⟨g16, h⟩ := x_chk h
    refine xv_iast F hI hkm hkc g16 dX7_post_70 (fun H locs u14 e15 hI => ?_)
    have h := x_let_at h e15
    refine lv_aload_n hx hb dX7_post_71 rfl (lv_at hl 1 rfl) ?_
    refine lv_iload hx hb dX7_post_72 (lv_at hl 0 rfl) ?_
    refine lv_iconst (v := 2) hx hb dX7_post_74 (by decide) ?_
    refine lv_iadd hx hb dX7_post_75 ?_
    refine lv_iload_n hx hb dX7_post_76 rfl (lv_at hl 4 rfl) ?_
    obtain ⟨g19, h⟩ := x_chk h
    refine xv_iast F hI hkm hkc g19 dX7_post_77 (fun H locs u17 e18 hI => ?_)
    have h := x_let_at h e18
    refine lv_aload_n hx hb dX7_post_78 rfl (lv_at hl 1 rfl) ?_
    refine lv_iload hx hb dX7_post_79 (lv_at hl 0 rfl) ?_
    refine lv_iconst (v := 3) hx hb dX7_post_81 (by decide) ?_
    refine lv_iadd hx hb dX7_post_82 ?_
    refine lv_aload_n hx hb dX7_post_83 rfl (lv_at hl 1 rfl) ?_
    refine lv_sipush (v := 553) hx hb dX7_post_84 (by decide) ?_
    refine xv_iald F hI hkm hkc (by decide) dX7_post_87 ?_
    obtain ⟨g22, h⟩ := x_chk h
    refine xv_iast F hI hkm hkc g22 dX7_post_88 (fun H locs u20 e21 hI => ?_)
    have h := x_let_at h e21
    refine lv_aload_n hx hb dX7_post_89 rfl (lv_at hl 1 rfl) ?_
    refine lv_iload hx hb dX7_post_90 (lv_at hl 0 rfl) ?_
    refine lv_iconst (v := 4) hx hb dX7_post_92 (by decide) ?_
    refine lv_iadd hx hb dX7_post_93 ?_
    refine lv_iload hx hb dX7_post_94 (lv_at hl 5 rfl) ?_
    obtain ⟨g25, h⟩ := x_chk h
    refine xv_iast F hI hkm hkc g25 dX7_post_96 (fun H locs u23 e24 hI => ?_)
    have h := x_let_at h e24
    refine lv_aload_n hx hb dX7_post_97 rfl (lv_at hl 1 rfl) ?_
    refine lv_iload hx hb dX7_post_98 (lv_at hl 0 rfl) ?_
    refine lv_iconst (v := 5) hx hb dX7_post_100 (by decide) ?_
    refine lv_iadd hx hb dX7_post_101 ?_
    refine lv_iload hx hb dX7_post_102 (lv_at hl 6 rfl) ?_
    obtain ⟨g28, h⟩ := x_chk h
    refine xv_iast F hI hkm hkc g28 dX7_post_104 (fun H locs u26 e27 hI => ?_)
    have h := x_let_at h e27
    refine lv_aload_n hx hb dX7_post_105 rfl (lv_at hl 1 rfl) ?_
    refine lv_sipush (v := 552) hx hb dX7_post_106 (by decide) ?_
    refine lv_dup2_11 hx hb dX7_post_109 rfl rfl ?_
    refine xv_iald F hI hkm hkc (by decide) dX7_post_110 ?_
    refine lv_iconst (v := 1) hx hb dX7_post_111 (by decide) ?_
    refine lv_iadd hx hb dX7_post_112 ?_
    refine xv_iast F hI hkm hkc (by decide) dX7_post_113 (fun H locs u29 e30 hI => ?_)
    have h := x_let_at h e30
    refine lv_aload_n hx hb dX7_post_114 rfl (lv_at hl 1 rfl) ?_
    refine lv_sipush (v := 553) hx hb dX7_post_115 (by decide) ?_
    refine xv_iald F hI hkm hkc (by decide) dX7_post_118 ?_
    rw [x_some h]
    exact x_iret F hI dX7_post_119
  · have h := x_ift h c6
    refine lv_aload_n hx hb dX7_post_30 rfl (lv_at hl 0 rfl) ?_
    refine lv_sipush (v := 558) hx hb dX7_post_31 (by decide) ?_
    refine lv_dup2_11 hx hb dX7_post_34 rfl rfl ?_
    refine xv_iald F hI hkm hkc (by decide) dX7_post_35 ?_
    refine lv_iconst (v := 1) hx hb dX7_post_36 (by decide) ?_
    refine lv_iadd hx hb dX7_post_37 ?_
    refine xv_iast F hI hkm hkc (by decide) dX7_post_38 (fun H locs u7 e8 hI => ?_)
    have h := x_let_at h e8
    refine lv_aload_n hx hb dX7_post_39 rfl (lv_at hl 0 rfl) ?_
    refine lv_sipush (v := 553) hx hb dX7_post_40 (by decide) ?_
    refine xv_iald F hI hkm hkc (by decide) dX7_post_43 ?_
    rw [x_some h]
    exact x_iret F hI dX7_post_44
abbrev rm_X7_want : Room := { frames := 1, cells := 0, slots := 0, locals := 26 }
def fX7_want (v : x_V) (a1 : Int32) : Option x_V := (if x_in (((8 : Int32) * a1) + (1 : Int32)) 570 then (Option.bind (fX7_post v (2 : Int32) a1 (v (Int32.toNatClampNeg (((8 : Int32) * a1) + (1 : Int32)))) (0 : Int32) (0 : Int32)) fun r2 => (if x_in (((8 : Int32) * a1) + (4 : Int32)) 570 then x_let (upd r2.2 (Int32.toNatClampNeg (((8 : Int32) * a1) + (4 : Int32))) r2.1) fun u4 => (if x_in (((8 : Int32) * a1) + (5 : Int32)) 570 then x_let (upd u4 (Int32.toNatClampNeg (((8 : Int32) * a1) + (5 : Int32))) (u4 (Int32.toNatClampNeg (554 : Int32)))) fun u7 => some (u7) else none) else none)) else none)
set_option maxHeartbeats 4000000 in
set_option maxRecDepth 100000 in
theorem mX7_want (l : Launch) (X : x_T) (σ : x_S) (u : x_H) (kr : Nat) (hkm : (11, kr) ∈ x_ids) (hkc : ∀ v : x_V, x_cell X 11 kr v = .inl (X.2.1 0, 570, .inl v)) (sz : Nat) (v : x_V) (a1 : Int32) (r : x_V) (h : fX7_want v a1 = some r) : Met l yX7_want (x_ws yX7_want cX7_want 2 none) rm_X7_want (x_Pc X (x_sh σ 11 (x_hs u kr v)) sz [.ref (X.2.2 11 kr), .int a1]) (x_Qv X (x_sh σ 11 (x_hs u kr r)) sz) 0 0 (x_A X sz) := by
  refine Met.ofW (cc := cX7_want) (maxL := 2) (ret := none) (by decide) rfl ?_
  intro p e s m args below meth c s₁ B hml hv
  obtain ⟨F, hI, rfl, rfl⟩ := x_begin B hml hv
  replace F : x_F p s m _ meth c cX7_want 2 RX7 none := F
  have hx := F.1
  have hb := F.2.1
  have hml := F.2.2.1
  have hown := F.2.2.2.1
  have hts := F.2.2.2.2.1
  refine x_entry (vs := [.ref (X.2.2 11 kr), .int a1]) (n := 2) (Nat.le_of_ble_eq_true rfl) (fun ls hl => ?_)
  replace hl : lv_has ls 2 [(0, .ref (X.2.2 11 kr)), (1, .int a1)] := hl
  unfold fX7_want at h
  refine lv_aload_n hx hb dX7_want_0 rfl (lv_at hl 0 rfl) ?_
  refine lv_bipush (v := 8) hx hb dX7_want_1 (by decide) ?_
  refine lv_iload_n hx hb dX7_want_3 rfl (lv_at hl 1 rfl) ?_
  refine lv_imul hx hb dX7_want_4 ?_
  refine lv_iconst (v := 4) hx hb dX7_want_5 (by decide) ?_
  refine lv_iadd hx hb dX7_want_6 ?_
  refine lv_aload_n hx hb dX7_want_7 rfl (lv_at hl 0 rfl) ?_
  refine lv_iconst (v := 2) hx hb dX7_want_8 (by decide) ?_
  refine lv_iload_n hx hb dX7_want_9 rfl (lv_at hl 1 rfl) ?_
  refine lv_aload_n hx hb dX7_want_10 rfl (lv_at hl 0 rfl) ?_
  refine lv_bipush (v := 8) hx hb dX7_want_11 (by decide) ?_
  refine lv_iload_n hx hb dX7_want_13 rfl (lv_at hl 1 rfl) ?_
  refine lv_imul hx hb dX7_want_14 ?_
  refine lv_iconst (v := 1) hx hb dX7_want_15 (by decide) ?_
  refine lv_iadd hx hb dX7_want_16 ?_
  obtain ⟨g1, h⟩ := x_chk h
  refine xv_iald F hI hkm hkc g1 dX7_want_17 ?_
  refine lv_iconst (v := 0) hx hb dX7_want_18 (by decide) ?_
  refine lv_iconst (v := 0) hx hb dX7_want_19 (by decide) ?_
  obtain ⟨r2, h3, h⟩ := x_bnd h
  refine x_aci hI (x_runS (rest := [.int (((8 : Int32) * a1) + (4 : Int32)), .ref (X.2.2 11 kr)]) F hI (mX7_post l X σ u kr hkm hkc _ v (2 : Int32) a1 (v (Int32.toNatClampNeg (((8 : Int32) * a1) + (1 : Int32)))) (0 : Int32) (0 : Int32) r2 h3) g_X7_45 hd_X7_post ⟨by decide, by decide⟩ ⟨rfl, rfl⟩ rfl hl.1 rfl (Nat.le_of_ble_eq_true rfl) dX7_want_20 ⟨Nat.zero_le _, Nat.zero_le _⟩) (fun H locs hI => ?_)
  obtain ⟨g6, h⟩ := x_chk h
  refine xv_iast F hI hkm hkc g6 dX7_want_23 (fun H locs u4 e5 hI => ?_)
  have h := x_let_at h e5
  refine lv_aload_n hx hb dX7_want_24 rfl (lv_at hl 0 rfl) ?_
  refine lv_bipush (v := 8) hx hb dX7_want_25 (by decide) ?_
  refine lv_iload_n hx hb dX7_want_27 rfl (lv_at hl 1 rfl) ?_
  refine lv_imul hx hb dX7_want_28 ?_
  refine lv_iconst (v := 5) hx hb dX7_want_29 (by decide) ?_
  refine lv_iadd hx hb dX7_want_30 ?_
  refine lv_aload_n hx hb dX7_want_31 rfl (lv_at hl 0 rfl) ?_
  refine lv_sipush (v := 554) hx hb dX7_want_32 (by decide) ?_
  refine xv_iald F hI hkm hkc (by decide) dX7_want_35 ?_
  obtain ⟨g9, h⟩ := x_chk h
  refine xv_iast F hI hkm hkc g9 dX7_want_36 (fun H locs u7 e8 hI => ?_)
  have h := x_let_at h e8
  rw [x_some h]
  exact x_vret F hI dX7_want_37
abbrev rm_X7_choice : Room := { frames := 2, cells := 0, slots := 0, locals := 44 }
def fX7_choice_j173 (v : x_V) (y2 : Int32) (y3 : Int32) (y4 : Int32) : Option Int32 := (if y3 = (-1 : Int32) then some (y2) else some (y3))
set_option maxHeartbeats 4000000 in
set_option maxRecDepth 100000 in
theorem wX7_choice_j173 {p : Program} {l : Launch} {e : Env} {s : State} {m : MethodId} {args : Array Value} {below : List Frame} {meth : Method} {c : Code} {X : x_T} {σ : x_S} {r : Int32} {u : x_H} {kr : Nat} (hkm : (11, kr) ∈ x_ids) (hkc : ∀ v : x_V, x_cell X 11 kr v = .inl (X.2.1 0, 570, .inl v)) (F : x_F p s m args meth c cX7_choice 7 RX7 (some .int)) (v : x_V) (y2 : Int32) (y3 : Int32) (y4 : Int32) (H : Heap) (locs : List Loc) (ls : Array Slot) (h : fX7_choice_j173 v y2 y3 y4 = some r) (hI : x_I X (x_sh σ 11 (x_hs u kr v)) s H locs) (hl : lv_has ls 7 [(2, .int y2), (3, .int y3), (4, .int y4)]) : W p l e rm_X7_choice s m args below meth c H locs 0 0 (MQ below (x_Qi X r (x_sh σ 11 (x_hs u kr v)) s.heap.size) args s 0 0 (x_A X s.heap.size)) (F0 m 173 ls []) := by
  have hx := F.1
  have hb := F.2.1
  have hml := F.2.2.1
  have hown := F.2.2.2.1
  have hts := F.2.2.2.2.1
  unfold fX7_choice_j173 at h
  refine lv_iconst (v := 0) hx hb dX7_choice_173 (by decide) ?_
  refine lv_istore (lv' := [(5, .int (0)), (2, .int y2), (3, .int y3), (4, .int y4)]) hx hb dX7_choice_174 hl (by decide) rfl (fun ls hl => ?_)
  refine lv_iload_n hx hb dX7_choice_176 rfl (lv_at hl 2 rfl) ?_
  refine lv_iconst (v := (-1)) hx hb dX7_choice_177 (by decide) ?_
  refine lv_icmp_eq (tgt := 185) hx hb dX7_choice_178 (by decide) (fun c34 => ?_) (fun c34 => ?_)
  · have h := x_ift h c34
    refine lv_iload hx hb dX7_choice_185 (lv_at hl 0 rfl) ?_
    refine lv_if_eq (tgt := 195) hx hb dX7_choice_187 (by decide) (fun _ => ?_) (fun c9 => absurd (by decide) c9)
    refine lv_iload_n hx hb dX7_choice_195 rfl (lv_at hl 1 rfl) ?_
    rw [x_some h]
    exact x_iret F hI dX7_choice_196
  · have h := x_iff h c34
    refine lv_iload_n hx hb dX7_choice_181 rfl (lv_at hl 2 rfl) ?_
    refine lv_goto (tgt := 196) hx hb dX7_choice_182 (by decide) ?_
    rw [x_some h]
    exact x_iret F hI dX7_choice_196
def fX7_choice_j169 (v : x_V) (y2 : Int32) (y3 : Int32) (y4 : Int32) : Option Int32 := (if y3 = (-1 : Int32) then some (y4) else some (y3))
set_option maxHeartbeats 4000000 in
set_option maxRecDepth 100000 in
theorem wX7_choice_j169 {p : Program} {l : Launch} {e : Env} {s : State} {m : MethodId} {args : Array Value} {below : List Frame} {meth : Method} {c : Code} {X : x_T} {σ : x_S} {r : Int32} {u : x_H} {kr : Nat} (hkm : (11, kr) ∈ x_ids) (hkc : ∀ v : x_V, x_cell X 11 kr v = .inl (X.2.1 0, 570, .inl v)) (F : x_F p s m args meth c cX7_choice 7 RX7 (some .int)) (v : x_V) (y2 : Int32) (y3 : Int32) (y4 : Int32) (H : Heap) (locs : List Loc) (ls : Array Slot) (h : fX7_choice_j169 v y2 y3 y4 = some r) (hI : x_I X (x_sh σ 11 (x_hs u kr v)) s H locs) (hl : lv_has ls 7 [(2, .int y2), (3, .int y3), (4, .int y4)]) : W p l e rm_X7_choice s m args below meth c H locs 0 0 (MQ below (x_Qi X r (x_sh σ 11 (x_hs u kr v)) s.heap.size) args s 0 0 (x_A X s.heap.size)) (F0 m 169 ls []) := by
  have hx := F.1
  have hb := F.2.1
  have hml := F.2.2.1
  have hown := F.2.2.2.1
  have hts := F.2.2.2.2.1
  unfold fX7_choice_j169 at h
  refine lv_iconst (v := 1) hx hb dX7_choice_169 (by decide) ?_
  refine lv_goto (tgt := 174) hx hb dX7_choice_170 (by decide) ?_
  refine lv_istore (lv' := [(5, .int (1)), (2, .int y2), (3, .int y3), (4, .int y4)]) hx hb dX7_choice_174 hl (by decide) rfl (fun ls hl => ?_)
  refine lv_iload_n hx hb dX7_choice_176 rfl (lv_at hl 2 rfl) ?_
  refine lv_iconst (v := (-1)) hx hb dX7_choice_177 (by decide) ?_
  refine lv_icmp_eq (tgt := 185) hx hb dX7_choice_178 (by decide) (fun c35 => ?_) (fun c35 => ?_)
  · have h := x_ift h c35
    refine lv_iload hx hb dX7_choice_185 (lv_at hl 0 rfl) ?_
    refine lv_if_eq (tgt := 195) hx hb dX7_choice_187 (by decide) (fun c9 => absurd c9 (by decide)) (fun _ => ?_)
    refine lv_iload hx hb dX7_choice_190 (lv_at hl 3 rfl) ?_
    refine lv_goto (tgt := 196) hx hb dX7_choice_192 (by decide) ?_
    rw [x_some h]
    exact x_iret F hI dX7_choice_196
  · have h := x_iff h c35
    refine lv_iload_n hx hb dX7_choice_181 rfl (lv_at hl 2 rfl) ?_
    refine lv_goto (tgt := 196) hx hb dX7_choice_182 (by decide) ?_
    rw [x_some h]
    exact x_iret F hI dX7_choice_196
def fX7_choice_b8 : Nat → x_V → Int32 → Int32 → Int32 → Int32 → Option Int32
  | 0, _, _, _, _, _ => none
  | n + 1, v, y1, y2, y3, y4 => (if y4 < 0 then (if x_in (((8 : Int32) * y1) + (7 : Int32)) 570 then x_let ((v (Int32.toNatClampNeg (((8 : Int32) * y1) + (7 : Int32)))) - (1 : Int32)) fun x3 => (if x3 = (-1 : Int32) then fX7_choice_j173 v y2 y3 x3 else (Option.bind (fX7_state v x3) fun r6 => (if r6 = 0 then (if x_in (((96 : Int32) + ((6 : Int32) * x3)) + (4 : Int32)) 570 then (if (v (Int32.toNatClampNeg (((96 : Int32) + ((6 : Int32) * x3)) + (4 : Int32)))) = 0 then fX7_choice_j169 v y2 y3 x3 else (if (v (Int32.toNatClampNeg (((96 : Int32) + ((6 : Int32) * x3)) + (4 : Int32)))) = (y1 + (1 : Int32)) then fX7_choice_j169 v y2 y3 x3 else fX7_choice_j173 v y2 y3 x3)) else none) else fX7_choice_j173 v y2 y3 x3))) else none) else (Option.bind (fX7_belongs v y4 (1 : Int32) y1) fun r12 => (if r12 = 0 then (if x_in (((96 : Int32) + ((6 : Int32) * y4)) + (4 : Int32)) 570 then x_let (v (Int32.toNatClampNeg (((96 : Int32) + ((6 : Int32) * y4)) + (4 : Int32)))) fun x16 => (Option.bind (fX7_state v y4) fun r18 => (if r18 = 0 then (if x16 = 0 then (if x16 = (y1 + (1 : Int32)) then x_let (y4 + (-1 : Int32)) fun x23 => fX7_choice_b8 n v y1 y4 y4 x23 else x_let (y4 + (-1 : Int32)) fun x25 => fX7_choice_b8 n v y1 y4 y3 x25) else (if x16 = (y1 + (1 : Int32)) then x_let (y4 + (-1 : Int32)) fun x28 => fX7_choice_b8 n v y1 y4 y4 x28 else x_let (y4 + (-1 : Int32)) fun x30 => fX7_choice_b8 n v y1 y2 y3 x30)) else x_let (y4 + (-1 : Int32)) fun x32 => fX7_choice_b8 n v y1 y2 y3 x32)) else none) else some (y4))))
set_option maxHeartbeats 4000000 in
set_option maxRecDepth 100000 in
theorem wX7_choice_b8 {p : Program} {l : Launch} {e : Env} {s : State} {m : MethodId} {args : Array Value} {below : List Frame} {meth : Method} {c : Code} {X : x_T} {σ : x_S} {r : Int32} {u : x_H} {kr : Nat} (hkm : (11, kr) ∈ x_ids) (hkc : ∀ v : x_V, x_cell X 11 kr v = .inl (X.2.1 0, 570, .inl v)) (F : x_F p s m args meth c cX7_choice 7 RX7 (some .int)) : ∀ (n : Nat) (v : x_V) (y1 : Int32) (y2 : Int32) (y3 : Int32) (y4 : Int32) (H : Heap) (locs : List Loc) (ls : Array Slot), fX7_choice_b8 n v y1 y2 y3 y4 = some r → x_I X (x_sh σ 11 (x_hs u kr v)) s H locs → lv_has ls 7 [(0, .ref (X.2.2 11 kr)), (1, .int y1), (2, .int y2), (3, .int y3), (4, .int y4)] → W p l e rm_X7_choice s m args below meth c H locs 0 0 (MQ below (x_Qi X r (x_sh σ 11 (x_hs u kr v)) s.heap.size) args s 0 0 (x_A X s.heap.size)) (F0 m 8 ls []) := by
  have hx := F.1
  have hb := F.2.1
  have hml := F.2.2.1
  have hown := F.2.2.2.1
  have hts := F.2.2.2.2.1
  intro n
  induction n with
  | zero =>
    intro v y1 y2 y3 y4 H locs ls h
    rw [fX7_choice_b8] at h
    cases h
  | succ n ih =>
    intro v y1 y2 y3 y4 H locs ls h hI hl
    rw [fX7_choice_b8] at h
    refine lv_iload hx hb dX7_choice_8 (lv_at hl 4 rfl) ?_
    refine lv_if_lt (tgt := 108) hx hb dX7_choice_10 (by decide) (fun c1 => ?_) (fun c1 => ?_)
    · have h := x_ift h c1
      refine lv_aload_n hx hb dX7_choice_108 rfl (lv_at hl 0 rfl) ?_
      refine lv_bipush (v := 8) hx hb dX7_choice_109 (by decide) ?_
      refine lv_iload_n hx hb dX7_choice_111 rfl (lv_at hl 1 rfl) ?_
      refine lv_imul hx hb dX7_choice_112 ?_
      refine lv_bipush (v := 7) hx hb dX7_choice_113 (by decide) ?_
      refine lv_iadd hx hb dX7_choice_115 ?_
      obtain ⟨g2, h⟩ := x_chk h
      refine xv_iald F hI hkm hkc g2 dX7_choice_116 ?_
      refine lv_iconst (v := 1) hx hb dX7_choice_117 (by decide) ?_
      refine lv_isub hx hb dX7_choice_118 ?_
      refine lv_topi (fun x3 e4 => ?_)
      have h := x_let_at h e4
      refine lv_istore (lv' := [(4, .int x3), (0, .ref (X.2.2 11 kr)), (1, .int y1), (2, .int y2), (3, .int y3)]) hx hb dX7_choice_119 hl (by decide) rfl (fun ls hl => ?_)
      refine lv_iload hx hb dX7_choice_121 (lv_at hl 0 rfl) ?_
      refine lv_iconst (v := (-1)) hx hb dX7_choice_123 (by decide) ?_
      refine lv_icmp_eq (tgt := 173) hx hb dX7_choice_124 (by decide) (fun c5 => ?_) (fun c5 => ?_)
      · have h := x_ift h c5
        exact wX7_choice_j173 hkm hkc F v y2 y3 x3 _ _ _ h hI (lv_sub hl [3, 4, 0] rfl)
      · have h := x_iff h c5
        refine lv_aload_n hx hb dX7_choice_127 rfl (lv_at hl 1 rfl) ?_
        refine lv_iload hx hb dX7_choice_128 (lv_at hl 0 rfl) ?_
        obtain ⟨r6, h7, h⟩ := x_bnd h
        refine x_aci hI (x_runS (rest := []) F hI (mX7_state l X σ u kr hkm hkc _ v x3 r6 h7) g_X7_41 hd_X7_state ⟨by decide, by decide⟩ ⟨rfl, rfl⟩ rfl hl.1 rfl (Nat.le_of_ble_eq_true rfl) dX7_choice_130 ⟨Nat.zero_le _, Nat.zero_le _⟩) (fun H locs hI => ?_)
        refine lv_if_ne (tgt := 173) hx hb dX7_choice_133 (by decide) (fun c8 => ?_) (fun c8 => ?_)
        · have h := x_iff h c8
          exact wX7_choice_j173 hkm hkc F v y2 y3 x3 _ _ _ h hI (lv_sub hl [3, 4, 0] rfl)
        · have h := x_ift h c8
          refine lv_aload_n hx hb dX7_choice_136 rfl (lv_at hl 1 rfl) ?_
          refine lv_bipush (v := 96) hx hb dX7_choice_137 (by decide) ?_
          refine lv_bipush (v := 6) hx hb dX7_choice_139 (by decide) ?_
          refine lv_iload hx hb dX7_choice_141 (lv_at hl 0 rfl) ?_
          refine lv_imul hx hb dX7_choice_143 ?_
          refine lv_iadd hx hb dX7_choice_144 ?_
          refine lv_iconst (v := 4) hx hb dX7_choice_145 (by decide) ?_
          refine lv_iadd hx hb dX7_choice_146 ?_
          obtain ⟨g9, h⟩ := x_chk h
          refine xv_iald F hI hkm hkc g9 dX7_choice_147 ?_
          refine lv_if_eq (tgt := 169) hx hb dX7_choice_148 (by decide) (fun c10 => ?_) (fun c10 => ?_)
          · have h := x_ift h c10
            exact wX7_choice_j169 hkm hkc F v y2 y3 x3 _ _ _ h hI (lv_sub hl [3, 4, 0] rfl)
          · have h := x_iff h c10
            refine lv_aload_n hx hb dX7_choice_151 rfl (lv_at hl 1 rfl) ?_
            refine lv_bipush (v := 96) hx hb dX7_choice_152 (by decide) ?_
            refine lv_bipush (v := 6) hx hb dX7_choice_154 (by decide) ?_
            refine lv_iload hx hb dX7_choice_156 (lv_at hl 0 rfl) ?_
            refine lv_imul hx hb dX7_choice_158 ?_
            refine lv_iadd hx hb dX7_choice_159 ?_
            refine lv_iconst (v := 4) hx hb dX7_choice_160 (by decide) ?_
            refine lv_iadd hx hb dX7_choice_161 ?_
            refine xv_iald F hI hkm hkc g9 dX7_choice_162 ?_
            refine lv_iload_n hx hb dX7_choice_163 rfl (lv_at hl 2 rfl) ?_
            refine lv_iconst (v := 1) hx hb dX7_choice_164 (by decide) ?_
            refine lv_iadd hx hb dX7_choice_165 ?_
            refine lv_icmp_ne (tgt := 173) hx hb dX7_choice_166 (by decide) (fun c11 => ?_) (fun c11 => ?_)
            · have h := x_iff h c11
              exact wX7_choice_j173 hkm hkc F v y2 y3 x3 _ _ _ h hI (lv_sub hl [3, 4, 0] rfl)
            · have h := x_ift h c11
              exact wX7_choice_j169 hkm hkc F v y2 y3 x3 _ _ _ h hI (lv_sub hl [3, 4, 0] rfl)
    · have h := x_iff h c1
      refine lv_aload_n hx hb dX7_choice_13 rfl (lv_at hl 0 rfl) ?_
      refine lv_iload hx hb dX7_choice_14 (lv_at hl 4 rfl) ?_
      refine lv_iconst (v := 1) hx hb dX7_choice_16 (by decide) ?_
      refine lv_iload_n hx hb dX7_choice_17 rfl (lv_at hl 1 rfl) ?_
      obtain ⟨r12, h13, h⟩ := x_bnd h
      refine x_aci hI (x_runS (rest := []) F hI (mX7_belongs l X σ u kr hkm hkc _ v y4 (1 : Int32) y1 r12 h13) g_X7_49 hd_X7_belongs ⟨by decide, by decide⟩ ⟨rfl, rfl⟩ rfl hl.1 rfl (Nat.le_of_ble_eq_true rfl) dX7_choice_18 ⟨Nat.zero_le _, Nat.zero_le _⟩) (fun H locs hI => ?_)
      refine lv_if_eq (tgt := 27) hx hb dX7_choice_21 (by decide) (fun c14 => ?_) (fun c14 => ?_)
      · have h := x_ift h c14
        refine lv_aload_n hx hb dX7_choice_27 rfl (lv_at hl 0 rfl) ?_
        refine lv_bipush (v := 96) hx hb dX7_choice_28 (by decide) ?_
        refine lv_bipush (v := 6) hx hb dX7_choice_30 (by decide) ?_
        refine lv_iload hx hb dX7_choice_32 (lv_at hl 4 rfl) ?_
        refine lv_imul hx hb dX7_choice_34 ?_
        refine lv_iadd hx hb dX7_choice_35 ?_
        refine lv_iconst (v := 4) hx hb dX7_choice_36 (by decide) ?_
        refine lv_iadd hx hb dX7_choice_37 ?_
        obtain ⟨g15, h⟩ := x_chk h
        refine xv_iald F hI hkm hkc g15 dX7_choice_38 ?_
        refine lv_topi (fun x16 e17 => ?_)
        have h := x_let_at h e17
        refine lv_istore (lv' := [(5, .int x16), (0, .ref (X.2.2 11 kr)), (1, .int y1), (2, .int y2), (3, .int y3), (4, .int y4)]) hx hb dX7_choice_39 hl (by decide) rfl (fun ls hl => ?_)
        refine lv_aload_n hx hb dX7_choice_41 rfl (lv_at hl 1 rfl) ?_
        refine lv_iload hx hb dX7_choice_42 (lv_at hl 5 rfl) ?_
        obtain ⟨r18, h19, h⟩ := x_bnd h
        refine x_aci hI (x_runS (rest := []) F hI (mX7_state l X σ u kr hkm hkc _ v y4 r18 h19) g_X7_41 hd_X7_state ⟨by decide, by decide⟩ ⟨rfl, rfl⟩ rfl hl.1 rfl (Nat.le_of_ble_eq_true rfl) dX7_choice_44 ⟨Nat.zero_le _, Nat.zero_le _⟩) (fun H locs hI => ?_)
        refine lv_if_ne (tgt := 67) hx hb dX7_choice_47 (by decide) (fun c20 => ?_) (fun c20 => ?_)
        · have h := x_iff h c20
          refine lv_iconst (v := 0) hx hb dX7_choice_67 (by decide) ?_
          refine lv_istore (lv' := [(6, .int (0)), (5, .int x16), (0, .ref (X.2.2 11 kr)), (1, .int y1), (2, .int y2), (3, .int y3), (4, .int y4)]) hx hb dX7_choice_68 hl (by decide) rfl (fun ls hl => ?_)
          refine lv_iload hx hb dX7_choice_70 (lv_at hl 0 rfl) ?_
          refine lv_if_eq (tgt := 80) hx hb dX7_choice_72 (by decide) (fun _ => ?_) (fun c9 => absurd (by decide) c9)
          refine lv_iload_n hx hb dX7_choice_80 rfl (lv_at hl 4 rfl) ?_
          refine lv_istore_n (lv' := [(2, .int y2), (6, .int (0)), (5, .int x16), (0, .ref (X.2.2 11 kr)), (1, .int y1), (3, .int y3), (4, .int y4)]) hx hb dX7_choice_81 rfl hl (by decide) rfl (fun ls hl => ?_)
          refine lv_iload hx hb dX7_choice_82 (lv_at hl 1 rfl) ?_
          refine lv_if_eq (tgt := 100) hx hb dX7_choice_84 (by decide) (fun _ => ?_) (fun c9 => absurd (by decide) c9)
          refine lv_iload_n hx hb dX7_choice_100 rfl (lv_at hl 5 rfl) ?_
          refine lv_istore_n (lv' := [(3, .int y3), (2, .int y2), (6, .int (0)), (5, .int x16), (0, .ref (X.2.2 11 kr)), (1, .int y1), (4, .int y4)]) hx hb dX7_choice_101 rfl hl (by decide) rfl (fun ls hl => ?_)
          obtain ⟨x32, e33⟩ : ∃ z : Int32, z = (y4 + (-1 : Int32)) := ⟨_, rfl⟩
          have h := x_let_at h e33
          refine lv_iinc (v := x32) (lv' := [(4, .int x32), (3, .int y3), (2, .int y2), (6, .int (0)), (5, .int x16), (0, .ref (X.2.2 11 kr)), (1, .int y1)]) hx hb dX7_choice_102 hl (k := 6) rfl (by rw [e33]; rfl) (by decide) rfl (fun ls hl => ?_)
          refine lv_goto (tgt := 8) hx hb dX7_choice_105 (by decide) ?_
          exact ih v y1 y2 y3 x32 _ _ _ h hI (lv_sub hl [5, 6, 2, 1, 0] rfl)
        · have h := x_ift h c20
          refine lv_iload hx hb dX7_choice_50 (lv_at hl 0 rfl) ?_
          refine lv_if_eq (tgt := 63) hx hb dX7_choice_52 (by decide) (fun c21 => ?_) (fun c21 => ?_)
          · have h := x_ift h c21
            refine lv_iconst (v := 1) hx hb dX7_choice_63 (by decide) ?_
            refine lv_goto (tgt := 68) hx hb dX7_choice_64 (by decide) ?_
            refine lv_istore (lv' := [(6, .int (1)), (5, .int x16), (0, .ref (X.2.2 11 kr)), (1, .int y1), (2, .int y2), (3, .int y3), (4, .int y4)]) hx hb dX7_choice_68 hl (by decide) rfl (fun ls hl => ?_)
            refine lv_iload hx hb dX7_choice_70 (lv_at hl 0 rfl) ?_
            refine lv_if_eq (tgt := 80) hx hb dX7_choice_72 (by decide) (fun c9 => absurd c9 (by decide)) (fun _ => ?_)
            refine lv_iload hx hb dX7_choice_75 (lv_at hl 6 rfl) ?_
            refine lv_goto (tgt := 81) hx hb dX7_choice_77 (by decide) ?_
            refine lv_istore_n (lv' := [(2, .int y4), (6, .int (1)), (5, .int x16), (0, .ref (X.2.2 11 kr)), (1, .int y1), (3, .int y3), (4, .int y4)]) hx hb dX7_choice_81 rfl hl (by decide) rfl (fun ls hl => ?_)
            refine lv_iload hx hb dX7_choice_82 (lv_at hl 1 rfl) ?_
            refine lv_if_eq (tgt := 100) hx hb dX7_choice_84 (by decide) (fun c9 => absurd c9 (by decide)) (fun _ => ?_)
            refine lv_iload hx hb dX7_choice_87 (lv_at hl 2 rfl) ?_
            refine lv_iload_n hx hb dX7_choice_89 rfl (lv_at hl 4 rfl) ?_
            refine lv_iconst (v := 1) hx hb dX7_choice_90 (by decide) ?_
            refine lv_iadd hx hb dX7_choice_91 ?_
            refine lv_icmp_ne (tgt := 100) hx hb dX7_choice_92 (by decide) (fun c22 => ?_) (fun c22 => ?_)
            · have h := x_iff h c22
              refine lv_iload_n hx hb dX7_choice_100 rfl (lv_at hl 5 rfl) ?_
              refine lv_istore_n (lv' := [(3, .int y3), (2, .int y4), (6, .int (1)), (5, .int x16), (0, .ref (X.2.2 11 kr)), (1, .int y1), (4, .int y4)]) hx hb dX7_choice_101 rfl hl (by decide) rfl (fun ls hl => ?_)
              obtain ⟨x25, e26⟩ : ∃ z : Int32, z = (y4 + (-1 : Int32)) := ⟨_, rfl⟩
              have h := x_let_at h e26
              refine lv_iinc (v := x25) (lv' := [(4, .int x25), (3, .int y3), (2, .int y4), (6, .int (1)), (5, .int x16), (0, .ref (X.2.2 11 kr)), (1, .int y1)]) hx hb dX7_choice_102 hl (k := 6) rfl (by rw [e26]; rfl) (by decide) rfl (fun ls hl => ?_)
              refine lv_goto (tgt := 8) hx hb dX7_choice_105 (by decide) ?_
              exact ih v y1 y4 y3 x25 _ _ _ h hI (lv_sub hl [5, 6, 2, 1, 0] rfl)
            · have h := x_ift h c22
              refine lv_iload hx hb dX7_choice_95 (lv_at hl 6 rfl) ?_
              refine lv_goto (tgt := 101) hx hb dX7_choice_97 (by decide) ?_
              refine lv_istore_n (lv' := [(3, .int y4), (2, .int y4), (6, .int (1)), (5, .int x16), (0, .ref (X.2.2 11 kr)), (1, .int y1), (4, .int y4)]) hx hb dX7_choice_101 rfl hl (by decide) rfl (fun ls hl => ?_)
              obtain ⟨x23, e24⟩ : ∃ z : Int32, z = (y4 + (-1 : Int32)) := ⟨_, rfl⟩
              have h := x_let_at h e24
              refine lv_iinc (v := x23) (lv' := [(4, .int x23), (3, .int y4), (2, .int y4), (6, .int (1)), (5, .int x16), (0, .ref (X.2.2 11 kr)), (1, .int y1)]) hx hb dX7_choice_102 hl (k := 6) rfl (by rw [e24]; rfl) (by decide) rfl (fun ls hl => ?_)
              refine lv_goto (tgt := 8) hx hb dX7_choice_105 (by decide) ?_
              exact ih v y1 y4 y4 x23 _ _ _ h hI (lv_sub hl [5, 6, 2, 1, 0] rfl)
          · have h := x_iff h c21
            refine lv_iload hx hb dX7_choice_55 (lv_at hl 0 rfl) ?_
            refine lv_iload_n hx hb dX7_choice_57 rfl (lv_at hl 2 rfl) ?_
            refine lv_iconst (v := 1) hx hb dX7_choice_58 (by decide) ?_
            refine lv_iadd hx hb dX7_choice_59 ?_
            refine lv_icmp_ne (tgt := 67) hx hb dX7_choice_60 (by decide) (fun c27 => ?_) (fun c27 => ?_)
            · have h := x_iff h c27
              refine lv_iconst (v := 0) hx hb dX7_choice_67 (by decide) ?_
              refine lv_istore (lv' := [(6, .int (0)), (5, .int x16), (0, .ref (X.2.2 11 kr)), (1, .int y1), (2, .int y2), (3, .int y3), (4, .int y4)]) hx hb dX7_choice_68 hl (by decide) rfl (fun ls hl => ?_)
              refine lv_iload hx hb dX7_choice_70 (lv_at hl 0 rfl) ?_
              refine lv_if_eq (tgt := 80) hx hb dX7_choice_72 (by decide) (fun _ => ?_) (fun c9 => absurd (by decide) c9)
              refine lv_iload_n hx hb dX7_choice_80 rfl (lv_at hl 4 rfl) ?_
              refine lv_istore_n (lv' := [(2, .int y2), (6, .int (0)), (5, .int x16), (0, .ref (X.2.2 11 kr)), (1, .int y1), (3, .int y3), (4, .int y4)]) hx hb dX7_choice_81 rfl hl (by decide) rfl (fun ls hl => ?_)
              refine lv_iload hx hb dX7_choice_82 (lv_at hl 1 rfl) ?_
              refine lv_if_eq (tgt := 100) hx hb dX7_choice_84 (by decide) (fun _ => ?_) (fun c9 => absurd (by decide) c9)
              refine lv_iload_n hx hb dX7_choice_100 rfl (lv_at hl 5 rfl) ?_
              refine lv_istore_n (lv' := [(3, .int y3), (2, .int y2), (6, .int (0)), (5, .int x16), (0, .ref (X.2.2 11 kr)), (1, .int y1), (4, .int y4)]) hx hb dX7_choice_101 rfl hl (by decide) rfl (fun ls hl => ?_)
              obtain ⟨x30, e31⟩ : ∃ z : Int32, z = (y4 + (-1 : Int32)) := ⟨_, rfl⟩
              have h := x_let_at h e31
              refine lv_iinc (v := x30) (lv' := [(4, .int x30), (3, .int y3), (2, .int y2), (6, .int (0)), (5, .int x16), (0, .ref (X.2.2 11 kr)), (1, .int y1)]) hx hb dX7_choice_102 hl (k := 6) rfl (by rw [e31]; rfl) (by decide) rfl (fun ls hl => ?_)
              refine lv_goto (tgt := 8) hx hb dX7_choice_105 (by decide) ?_
              exact ih v y1 y2 y3 x30 _ _ _ h hI (lv_sub hl [5, 6, 2, 1, 0] rfl)
            · have h := x_ift h c27
              refine lv_iconst (v := 1) hx hb dX7_choice_63 (by decide) ?_
              refine lv_goto (tgt := 68) hx hb dX7_choice_64 (by decide) ?_
              refine lv_istore (lv' := [(6, .int (1)), (5, .int x16), (0, .ref (X.2.2 11 kr)), (1, .int y1), (2, .int y2), (3, .int y3), (4, .int y4)]) hx hb dX7_choice_68 hl (by decide) rfl (fun ls hl => ?_)
              refine lv_iload hx hb dX7_choice_70 (lv_at hl 0 rfl) ?_
              refine lv_if_eq (tgt := 80) hx hb dX7_choice_72 (by decide) (fun c9 => absurd c9 (by decide)) (fun _ => ?_)
              refine lv_iload hx hb dX7_choice_75 (lv_at hl 6 rfl) ?_
              refine lv_goto (tgt := 81) hx hb dX7_choice_77 (by decide) ?_
              refine lv_istore_n (lv' := [(2, .int y4), (6, .int (1)), (5, .int x16), (0, .ref (X.2.2 11 kr)), (1, .int y1), (3, .int y3), (4, .int y4)]) hx hb dX7_choice_81 rfl hl (by decide) rfl (fun ls hl => ?_)
              refine lv_iload hx hb dX7_choice_82 (lv_at hl 1 rfl) ?_
              refine lv_if_eq (tgt := 100) hx hb dX7_choice_84 (by decide) (fun c9 => absurd c9 (by decide)) (fun _ => ?_)
              refine lv_iload hx hb dX7_choice_87 (lv_at hl 2 rfl) ?_
              refine lv_iload_n hx hb dX7_choice_89 rfl (lv_at hl 4 rfl) ?_
              refine lv_iconst (v := 1) hx hb dX7_choice_90 (by decide) ?_
              refine lv_iadd hx hb dX7_choice_91 ?_
              refine lv_icmp_ne (tgt := 100) hx hb dX7_choice_92 (by decide) (fun c9 => absurd c27 c9) (fun _ => ?_)
              refine lv_iload hx hb dX7_choice_95 (lv_at hl 6 rfl) ?_
              refine lv_goto (tgt := 101) hx hb dX7_choice_97 (by decide) ?_
              refine lv_istore_n (lv' := [(3, .int y4), (2, .int y4), (6, .int (1)), (5, .int x16), (0, .ref (X.2.2 11 kr)), (1, .int y1), (4, .int y4)]) hx hb dX7_choice_101 rfl hl (by decide) rfl (fun ls hl => ?_)
              obtain ⟨x28, e29⟩ : ∃ z : Int32, z = (y4 + (-1 : Int32)) := ⟨_, rfl⟩
              have h := x_let_at h e29
              refine lv_iinc (v := x28) (lv' := [(4, .int x28), (3, .int y4), (2, .int y4), (6, .int (1)), (5, .int x16), (0, .ref (X.2.2 11 kr)), (1, .int y1)]) hx hb dX7_choice_102 hl (k := 6) rfl (by rw [e29]; rfl) (by decide) rfl (fun ls hl => ?_)
              refine lv_goto (tgt := 8) hx hb dX7_choice_105 (by decide) ?_
              exact ih v y1 y4 y4 x28 _ _ _ h hI (lv_sub hl [5, 6, 2, 1, 0] rfl)
      · have h := x_iff h c14
        refine lv_iload hx hb dX7_choice_24 (lv_at hl 4 rfl) ?_
        rw [x_some h]
        exact x_iret F hI dX7_choice_26
def fX7_choice (v : x_V) (a1 : Int32) : Option Int32 := fX7_choice_b8 400 v a1 (-1 : Int32) (-1 : Int32) (15 : Int32)
set_option maxHeartbeats 4000000 in
set_option maxRecDepth 100000 in
theorem mX7_choice (l : Launch) (X : x_T) (σ : x_S) (u : x_H) (kr : Nat) (hkm : (11, kr) ∈ x_ids) (hkc : ∀ v : x_V, x_cell X 11 kr v = .inl (X.2.1 0, 570, .inl v)) (sz : Nat) (v : x_V) (a1 : Int32) (r : Int32) (h : fX7_choice v a1 = some r) : Met l yX7_choice (x_ws yX7_choice cX7_choice 7 (some .int)) rm_X7_choice (x_Pc X (x_sh σ 11 (x_hs u kr v)) sz [.ref (X.2.2 11 kr), .int a1]) (x_Qi X r (x_sh σ 11 (x_hs u kr v)) sz) 0 0 (x_A X sz) := by
  refine Met.ofW (cc := cX7_choice) (maxL := 7) (ret := (some .int)) (by decide) rfl ?_
  intro p e s m args below meth c s₁ B hml hv
  obtain ⟨F, hI, rfl, rfl⟩ := x_begin B hml hv
  replace F : x_F p s m _ meth c cX7_choice 7 RX7 (some .int) := F
  have hx := F.1
  have hb := F.2.1
  have hml := F.2.2.1
  have hown := F.2.2.2.1
  have hts := F.2.2.2.2.1
  refine x_entry (vs := [.ref (X.2.2 11 kr), .int a1]) (n := 7) (Nat.le_of_ble_eq_true rfl) (fun ls hl => ?_)
  replace hl : lv_has ls 7 [(0, .ref (X.2.2 11 kr)), (1, .int a1)] := hl
  unfold fX7_choice at h
  refine lv_iconst (v := (-1)) hx hb dX7_choice_0 (by decide) ?_
  refine lv_istore_n (lv' := [(2, .int (-1)), (0, .ref (X.2.2 11 kr)), (1, .int a1)]) hx hb dX7_choice_1 rfl hl (by decide) rfl (fun ls hl => ?_)
  refine lv_iconst (v := (-1)) hx hb dX7_choice_2 (by decide) ?_
  refine lv_istore_n (lv' := [(3, .int (-1)), (2, .int (-1)), (0, .ref (X.2.2 11 kr)), (1, .int a1)]) hx hb dX7_choice_3 rfl hl (by decide) rfl (fun ls hl => ?_)
  refine lv_bipush (v := 15) hx hb dX7_choice_4 (by decide) ?_
  refine lv_istore (lv' := [(4, .int (15)), (3, .int (-1)), (2, .int (-1)), (0, .ref (X.2.2 11 kr)), (1, .int a1)]) hx hb dX7_choice_6 hl (by decide) rfl (fun ls hl => ?_)
  exact wX7_choice_b8 hkm hkc F 400 v a1 (-1 : Int32) (-1 : Int32) (15 : Int32) _ _ _ h hI (lv_sub hl [3, 4, 2, 1, 0] rfl)
abbrev rm_X7_settle : Room := { frames := 0, cells := 0, slots := 0, locals := 0 }
def fX7_settle (v : x_V) (a1 : Int32) (a2 : Int32) (a3 : Int32) : Option x_V := (if x_in ((96 : Int32) + ((6 : Int32) * a1)) 570 then x_let (upd v (Int32.toNatClampNeg ((96 : Int32) + ((6 : Int32) * a1))) a2) fun u1 => (if x_in (((96 : Int32) + ((6 : Int32) * a1)) + (1 : Int32)) 570 then x_let (upd u1 (Int32.toNatClampNeg (((96 : Int32) + ((6 : Int32) * a1)) + (1 : Int32))) a3) fun u4 => some (u4) else none) else none)
set_option maxHeartbeats 4000000 in
set_option maxRecDepth 100000 in
theorem mX7_settle (l : Launch) (X : x_T) (σ : x_S) (u : x_H) (kr : Nat) (hkm : (11, kr) ∈ x_ids) (hkc : ∀ v : x_V, x_cell X 11 kr v = .inl (X.2.1 0, 570, .inl v)) (sz : Nat) (v : x_V) (a1 : Int32) (a2 : Int32) (a3 : Int32) (r : x_V) (h : fX7_settle v a1 a2 a3 = some r) : Met l yX7_settle (x_ws yX7_settle cX7_settle 4 none) rm_X7_settle (x_Pc X (x_sh σ 11 (x_hs u kr v)) sz [.ref (X.2.2 11 kr), .int a1, .int a2, .int a3]) (x_Qv X (x_sh σ 11 (x_hs u kr r)) sz) 0 0 (x_A X sz) := by
  refine Met.ofW (cc := cX7_settle) (maxL := 4) (ret := none) (by decide) rfl ?_
  intro p e s m args below meth c s₁ B hml hv
  obtain ⟨F, hI, rfl, rfl⟩ := x_begin B hml hv
  replace F : x_F p s m _ meth c cX7_settle 4 RX7 none := F
  have hx := F.1
  have hb := F.2.1
  have hml := F.2.2.1
  have hown := F.2.2.2.1
  have hts := F.2.2.2.2.1
  refine x_entry (vs := [.ref (X.2.2 11 kr), .int a1, .int a2, .int a3]) (n := 4) (Nat.le_of_ble_eq_true rfl) (fun ls hl => ?_)
  replace hl : lv_has ls 4 [(0, .ref (X.2.2 11 kr)), (1, .int a1), (2, .int a2), (3, .int a3)] := hl
  unfold fX7_settle at h
  refine lv_aload_n hx hb dX7_settle_0 rfl (lv_at hl 0 rfl) ?_
  refine lv_bipush (v := 96) hx hb dX7_settle_1 (by decide) ?_
  refine lv_bipush (v := 6) hx hb dX7_settle_3 (by decide) ?_
  refine lv_iload_n hx hb dX7_settle_5 rfl (lv_at hl 1 rfl) ?_
  refine lv_imul hx hb dX7_settle_6 ?_
  refine lv_iadd hx hb dX7_settle_7 ?_
  refine lv_iload_n hx hb dX7_settle_8 rfl (lv_at hl 2 rfl) ?_
  obtain ⟨g3, h⟩ := x_chk h
  refine xv_iast F hI hkm hkc g3 dX7_settle_9 (fun H locs u1 e2 hI => ?_)
  have h := x_let_at h e2
  refine lv_aload_n hx hb dX7_settle_10 rfl (lv_at hl 0 rfl) ?_
  refine lv_bipush (v := 96) hx hb dX7_settle_11 (by decide) ?_
  refine lv_bipush (v := 6) hx hb dX7_settle_13 (by decide) ?_
  refine lv_iload_n hx hb dX7_settle_15 rfl (lv_at hl 1 rfl) ?_
  refine lv_imul hx hb dX7_settle_16 ?_
  refine lv_iadd hx hb dX7_settle_17 ?_
  refine lv_iconst (v := 1) hx hb dX7_settle_18 (by decide) ?_
  refine lv_iadd hx hb dX7_settle_19 ?_
  refine lv_iload_n hx hb dX7_settle_20 rfl (lv_at hl 3 rfl) ?_
  obtain ⟨g6, h⟩ := x_chk h
  refine xv_iast F hI hkm hkc g6 dX7_settle_21 (fun H locs u4 e5 hI => ?_)
  have h := x_let_at h e5
  rw [x_some h]
  exact x_vret F hI dX7_settle_22
abbrev rm_X7_innSeeks : Room := { frames := 3, cells := 0, slots := 0, locals := 70 }
def fX7_innSeeks (v : x_V) (a1 : Int32) : Option x_V := (Option.bind (fX7_choice v a1) fun r1 => (if r1 = (-1 : Int32) then some (v) else (Option.bind (fX7_settle v r1 (1 : Int32) ((v (Int32.toNatClampNeg (554 : Int32))) + (v (Int32.toNatClampNeg (556 : Int32))))) fun r4 => (if x_in (((96 : Int32) + ((6 : Int32) * r1)) + (2 : Int32)) 570 then x_let (upd r4 (Int32.toNatClampNeg (((96 : Int32) + ((6 : Int32) * r1)) + (2 : Int32))) a1) fun u6 => (Option.bind (fX7_post u6 (1 : Int32) a1 r1 (0 : Int32) (0 : Int32)) fun r9 => some (r9.2)) else none))))
set_option maxHeartbeats 4000000 in
set_option maxRecDepth 100000 in
theorem mX7_innSeeks (l : Launch) (X : x_T) (σ : x_S) (u : x_H) (kr : Nat) (hkm : (11, kr) ∈ x_ids) (hkc : ∀ v : x_V, x_cell X 11 kr v = .inl (X.2.1 0, 570, .inl v)) (sz : Nat) (v : x_V) (a1 : Int32) (r : x_V) (h : fX7_innSeeks v a1 = some r) : Met l yX7_innSeeks (x_ws yX7_innSeeks cX7_innSeeks 4 none) rm_X7_innSeeks (x_Pc X (x_sh σ 11 (x_hs u kr v)) sz [.ref (X.2.2 11 kr), .int a1]) (x_Qv X (x_sh σ 11 (x_hs u kr r)) sz) 0 0 (x_A X sz) := by
  refine Met.ofW (cc := cX7_innSeeks) (maxL := 4) (ret := none) (by decide) rfl ?_
  intro p e s m args below meth c s₁ B hml hv
  obtain ⟨F, hI, rfl, rfl⟩ := x_begin B hml hv
  replace F : x_F p s m _ meth c cX7_innSeeks 4 RX7 none := F
  have hx := F.1
  have hb := F.2.1
  have hml := F.2.2.1
  have hown := F.2.2.2.1
  have hts := F.2.2.2.2.1
  refine x_entry (vs := [.ref (X.2.2 11 kr), .int a1]) (n := 4) (Nat.le_of_ble_eq_true rfl) (fun ls hl => ?_)
  replace hl : lv_has ls 4 [(0, .ref (X.2.2 11 kr)), (1, .int a1)] := hl
  unfold fX7_innSeeks at h
  refine lv_aload_n hx hb dX7_innSeeks_0 rfl (lv_at hl 0 rfl) ?_
  refine lv_iload_n hx hb dX7_innSeeks_1 rfl (lv_at hl 1 rfl) ?_
  obtain ⟨r1, h2, h⟩ := x_bnd h
  refine x_aci hI (x_runS (rest := []) F hI (mX7_choice l X σ u kr hkm hkc _ v a1 r1 h2) g_X7_53 hd_X7_choice ⟨by decide, by decide⟩ ⟨rfl, rfl⟩ rfl hl.1 rfl (Nat.le_of_ble_eq_true rfl) dX7_innSeeks_2 ⟨Nat.zero_le _, Nat.zero_le _⟩) (fun H locs hI => ?_)
  refine lv_istore_n (lv' := [(2, .int r1), (0, .ref (X.2.2 11 kr)), (1, .int a1)]) hx hb dX7_innSeeks_5 rfl hl (by decide) rfl (fun ls hl => ?_)
  refine lv_iload_n hx hb dX7_innSeeks_6 rfl (lv_at hl 0 rfl) ?_
  refine lv_iconst (v := (-1)) hx hb dX7_innSeeks_7 (by decide) ?_
  refine lv_icmp_eq (tgt := 50) hx hb dX7_innSeeks_8 (by decide) (fun c3 => ?_) (fun c3 => ?_)
  · have h := x_ift h c3
    rw [x_some h]
    exact x_vret F hI dX7_innSeeks_50
  · have h := x_iff h c3
    refine lv_aload_n hx hb dX7_innSeeks_11 rfl (lv_at hl 1 rfl) ?_
    refine lv_iload_n hx hb dX7_innSeeks_12 rfl (lv_at hl 0 rfl) ?_
    refine lv_iconst (v := 1) hx hb dX7_innSeeks_13 (by decide) ?_
    refine lv_aload_n hx hb dX7_innSeeks_14 rfl (lv_at hl 1 rfl) ?_
    refine lv_sipush (v := 554) hx hb dX7_innSeeks_15 (by decide) ?_
    refine xv_iald F hI hkm hkc (by decide) dX7_innSeeks_18 ?_
    refine lv_aload_n hx hb dX7_innSeeks_19 rfl (lv_at hl 1 rfl) ?_
    refine lv_sipush (v := 556) hx hb dX7_innSeeks_20 (by decide) ?_
    refine xv_iald F hI hkm hkc (by decide) dX7_innSeeks_23 ?_
    refine lv_iadd hx hb dX7_innSeeks_24 ?_
    obtain ⟨r4, h5, h⟩ := x_bnd h
    refine x_acv hI (x_runS (rest := []) F hI (mX7_settle l X σ u kr hkm hkc _ v r1 (1 : Int32) ((v (Int32.toNatClampNeg (554 : Int32))) + (v (Int32.toNatClampNeg (556 : Int32)))) r4 h5) g_X7_56 hd_X7_settle ⟨by decide, by decide⟩ ⟨rfl, rfl⟩ rfl hl.1 rfl (Nat.le_of_ble_eq_true rfl) dX7_innSeeks_25 ⟨Nat.zero_le _, Nat.zero_le _⟩) (fun H locs hI => ?_)
    refine lv_aload_n hx hb dX7_innSeeks_28 rfl (lv_at hl 1 rfl) ?_
    refine lv_bipush (v := 96) hx hb dX7_innSeeks_29 (by decide) ?_
    refine lv_bipush (v := 6) hx hb dX7_innSeeks_31 (by decide) ?_
    refine lv_iload_n hx hb dX7_innSeeks_33 rfl (lv_at hl 0 rfl) ?_
    refine lv_imul hx hb dX7_innSeeks_34 ?_
    refine lv_iadd hx hb dX7_innSeeks_35 ?_
    refine lv_iconst (v := 2) hx hb dX7_innSeeks_36 (by decide) ?_
    refine lv_iadd hx hb dX7_innSeeks_37 ?_
    refine lv_iload_n hx hb dX7_innSeeks_38 rfl (lv_at hl 2 rfl) ?_
    obtain ⟨g8, h⟩ := x_chk h
    refine xv_iast F hI hkm hkc g8 dX7_innSeeks_39 (fun H locs u6 e7 hI => ?_)
    have h := x_let_at h e7
    refine lv_aload_n hx hb dX7_innSeeks_40 rfl (lv_at hl 1 rfl) ?_
    refine lv_iconst (v := 1) hx hb dX7_innSeeks_41 (by decide) ?_
    refine lv_iload_n hx hb dX7_innSeeks_42 rfl (lv_at hl 2 rfl) ?_
    refine lv_iload_n hx hb dX7_innSeeks_43 rfl (lv_at hl 0 rfl) ?_
    refine lv_iconst (v := 0) hx hb dX7_innSeeks_44 (by decide) ?_
    refine lv_iconst (v := 0) hx hb dX7_innSeeks_45 (by decide) ?_
    obtain ⟨r9, h10, h⟩ := x_bnd h
    refine x_aci hI (x_runS (rest := []) F hI (mX7_post l X σ u kr hkm hkc _ u6 (1 : Int32) a1 r1 (0 : Int32) (0 : Int32) r9 h10) g_X7_45 hd_X7_post ⟨by decide, by decide⟩ ⟨rfl, rfl⟩ rfl hl.1 rfl (Nat.le_of_ble_eq_true rfl) dX7_innSeeks_46 ⟨Nat.zero_le _, Nat.zero_le _⟩) (fun H locs hI => ?_)
    refine lv_istore_n (lv' := [(3, .int r9.1), (2, .int r1), (0, .ref (X.2.2 11 kr)), (1, .int a1)]) hx hb dX7_innSeeks_49 rfl hl (by decide) rfl (fun ls hl => ?_)
    rw [x_some h]
    exact x_vret F hI dX7_innSeeks_50
abbrev rm_X7_innWants : Room := { frames := 2, cells := 0, slots := 0, locals := 44 }
def fX7_innWants_j89 (v : x_V) (y1 : Int32) (y2 : Int32) (y3 : Int32) (z0 : Int32) (z1 : Int32) (z2 : Int32) : Option x_V := (Option.bind (fX7_settle v z2 z1 z0) fun r14 => (if x_in (((8 : Int32) * y1) + (7 : Int32)) 570 then x_let (upd r14 (Int32.toNatClampNeg (((8 : Int32) * y1) + (7 : Int32))) (y2 + (1 : Int32))) fun u16 => x_let (upd u16 (Int32.toNatClampNeg (560 : Int32)) ((u16 (Int32.toNatClampNeg (560 : Int32))) + (1 : Int32))) fun u19 => (Option.bind (fX7_post u19 (3 : Int32) y1 y2 y3 (u19 (Int32.toNatClampNeg (555 : Int32)))) fun r21 => (if x_in (((96 : Int32) + ((6 : Int32) * y2)) + (3 : Int32)) 570 then x_let (upd r21.2 (Int32.toNatClampNeg (((96 : Int32) + ((6 : Int32) * y2)) + (3 : Int32))) r21.1) fun u23 => some (u23) else none)) else none))
set_option maxHeartbeats 4000000 in
set_option maxRecDepth 100000 in
theorem wX7_innWants_j89 {p : Program} {l : Launch} {e : Env} {s : State} {m : MethodId} {args : Array Value} {below : List Frame} {meth : Method} {c : Code} {X : x_T} {σ : x_S} {r : x_V} {u : x_H} {kr : Nat} (hkm : (11, kr) ∈ x_ids) (hkc : ∀ v : x_V, x_cell X 11 kr v = .inl (X.2.1 0, 570, .inl v)) (F : x_F p s m args meth c cX7_innWants 6 RX7 none) (v : x_V) (y1 : Int32) (y2 : Int32) (y3 : Int32) (z0 : Int32) (z1 : Int32) (z2 : Int32) (H : Heap) (locs : List Loc) (ls : Array Slot) (h : fX7_innWants_j89 v y1 y2 y3 z0 z1 z2 = some r) (hI : x_I X (x_sh σ 11 (x_hs u kr v)) s H locs) (hl : lv_has ls 6 [(0, .ref (X.2.2 11 kr)), (1, .int y1), (2, .int y2), (3, .int y3)]) : W p l e rm_X7_innWants s m args below meth c H locs 0 0 (MQ below (x_Qv X (x_sh σ 11 (x_hs u kr r)) s.heap.size) args s 0 0 (x_A X s.heap.size)) (F0 m 89 ls [.int z0, .int z1, .int z2, .ref (X.2.2 11 kr)]) := by
  have hx := F.1
  have hb := F.2.1
  have hml := F.2.2.1
  have hown := F.2.2.2.1
  have hts := F.2.2.2.2.1
  unfold fX7_innWants_j89 at h
  obtain ⟨r14, h15, h⟩ := x_bnd h
  refine x_acv hI (x_runS (rest := []) F hI (mX7_settle l X σ u kr hkm hkc _ v z2 z1 z0 r14 h15) g_X7_56 hd_X7_settle ⟨by decide, by decide⟩ ⟨rfl, rfl⟩ rfl hl.1 rfl (Nat.le_of_ble_eq_true rfl) dX7_innWants_89 ⟨Nat.zero_le _, Nat.zero_le _⟩) (fun H locs hI => ?_)
  refine lv_aload_n hx hb dX7_innWants_92 rfl (lv_at hl 0 rfl) ?_
  refine lv_bipush (v := 8) hx hb dX7_innWants_93 (by decide) ?_
  refine lv_iload_n hx hb dX7_innWants_95 rfl (lv_at hl 1 rfl) ?_
  refine lv_imul hx hb dX7_innWants_96 ?_
  refine lv_bipush (v := 7) hx hb dX7_innWants_97 (by decide) ?_
  refine lv_iadd hx hb dX7_innWants_99 ?_
  refine lv_iload_n hx hb dX7_innWants_100 rfl (lv_at hl 2 rfl) ?_
  refine lv_iconst (v := 1) hx hb dX7_innWants_101 (by decide) ?_
  refine lv_iadd hx hb dX7_innWants_102 ?_
  obtain ⟨g18, h⟩ := x_chk h
  refine xv_iast F hI hkm hkc g18 dX7_innWants_103 (fun H locs u16 e17 hI => ?_)
  have h := x_let_at h e17
  refine lv_aload_n hx hb dX7_innWants_104 rfl (lv_at hl 0 rfl) ?_
  refine lv_sipush (v := 560) hx hb dX7_innWants_105 (by decide) ?_
  refine lv_dup2_11 hx hb dX7_innWants_108 rfl rfl ?_
  refine xv_iald F hI hkm hkc (by decide) dX7_innWants_109 ?_
  refine lv_iconst (v := 1) hx hb dX7_innWants_110 (by decide) ?_
  refine lv_iadd hx hb dX7_innWants_111 ?_
  refine xv_iast F hI hkm hkc (by decide) dX7_innWants_112 (fun H locs u19 e20 hI => ?_)
  have h := x_let_at h e20
  refine lv_aload_n hx hb dX7_innWants_113 rfl (lv_at hl 0 rfl) ?_
  refine lv_bipush (v := 96) hx hb dX7_innWants_114 (by decide) ?_
  refine lv_bipush (v := 6) hx hb dX7_innWants_116 (by decide) ?_
  refine lv_iload_n hx hb dX7_innWants_118 rfl (lv_at hl 2 rfl) ?_
  refine lv_imul hx hb dX7_innWants_119 ?_
  refine lv_iadd hx hb dX7_innWants_120 ?_
  refine lv_iconst (v := 3) hx hb dX7_innWants_121 (by decide) ?_
  refine lv_iadd hx hb dX7_innWants_122 ?_
  refine lv_aload_n hx hb dX7_innWants_123 rfl (lv_at hl 0 rfl) ?_
  refine lv_iconst (v := 3) hx hb dX7_innWants_124 (by decide) ?_
  refine lv_iload_n hx hb dX7_innWants_125 rfl (lv_at hl 1 rfl) ?_
  refine lv_iload_n hx hb dX7_innWants_126 rfl (lv_at hl 2 rfl) ?_
  refine lv_iload_n hx hb dX7_innWants_127 rfl (lv_at hl 3 rfl) ?_
  refine lv_aload_n hx hb dX7_innWants_128 rfl (lv_at hl 0 rfl) ?_
  refine lv_sipush (v := 555) hx hb dX7_innWants_129 (by decide) ?_
  refine xv_iald F hI hkm hkc (by decide) dX7_innWants_132 ?_
  obtain ⟨r21, h22, h⟩ := x_bnd h
  refine x_aci hI (x_runS (rest := [.int (((96 : Int32) + ((6 : Int32) * y2)) + (3 : Int32)), .ref (X.2.2 11 kr)]) F hI (mX7_post l X σ u kr hkm hkc _ u19 (3 : Int32) y1 y2 y3 (u19 (Int32.toNatClampNeg (555 : Int32))) r21 h22) g_X7_45 hd_X7_post ⟨by decide, by decide⟩ ⟨rfl, rfl⟩ rfl hl.1 rfl (Nat.le_of_ble_eq_true rfl) dX7_innWants_133 ⟨Nat.zero_le _, Nat.zero_le _⟩) (fun H locs hI => ?_)
  obtain ⟨g25, h⟩ := x_chk h
  refine xv_iast F hI hkm hkc g25 dX7_innWants_136 (fun H locs u23 e24 hI => ?_)
  have h := x_let_at h e24
  rw [x_some h]
  exact x_vret F hI dX7_innWants_137
def fX7_innWants_j87 (v : x_V) (y1 : Int32) (y2 : Int32) (y3 : Int32) (y5 : Int32) (z0 : Int32) (z1 : Int32) : Option x_V := fX7_innWants_j89 v y1 y2 y3 y5 z0 z1
set_option maxHeartbeats 4000000 in
set_option maxRecDepth 100000 in
theorem wX7_innWants_j87 {p : Program} {l : Launch} {e : Env} {s : State} {m : MethodId} {args : Array Value} {below : List Frame} {meth : Method} {c : Code} {X : x_T} {σ : x_S} {r : x_V} {u : x_H} {kr : Nat} (hkm : (11, kr) ∈ x_ids) (hkc : ∀ v : x_V, x_cell X 11 kr v = .inl (X.2.1 0, 570, .inl v)) (F : x_F p s m args meth c cX7_innWants 6 RX7 none) (v : x_V) (y1 : Int32) (y2 : Int32) (y3 : Int32) (y5 : Int32) (z0 : Int32) (z1 : Int32) (H : Heap) (locs : List Loc) (ls : Array Slot) (h : fX7_innWants_j87 v y1 y2 y3 y5 z0 z1 = some r) (hI : x_I X (x_sh σ 11 (x_hs u kr v)) s H locs) (hl : lv_has ls 6 [(0, .ref (X.2.2 11 kr)), (1, .int y1), (2, .int y2), (3, .int y3), (5, .int y5)]) : W p l e rm_X7_innWants s m args below meth c H locs 0 0 (MQ below (x_Qv X (x_sh σ 11 (x_hs u kr r)) s.heap.size) args s 0 0 (x_A X s.heap.size)) (F0 m 87 ls [.int z0, .int z1, .ref (X.2.2 11 kr)]) := by
  have hx := F.1
  have hb := F.2.1
  have hml := F.2.2.1
  have hown := F.2.2.2.1
  have hts := F.2.2.2.2.1
  unfold fX7_innWants_j87 at h
  refine lv_iload hx hb dX7_innWants_87 (lv_at hl 4 rfl) ?_
  exact wX7_innWants_j89 hkm hkc F v y1 y2 y3 y5 z0 z1 _ _ _ h hI (lv_sub hl [0, 1, 2, 3] rfl)
def fX7_innWants_j36 (v : x_V) (y1 : Int32) (y2 : Int32) (y3 : Int32) (y4 : Int32) : Option x_V := x_let ((v (Int32.toNatClampNeg (554 : Int32))) + (v (Int32.toNatClampNeg (555 : Int32)))) fun x9 => (if y4 = 0 then fX7_innWants_j87 v y1 y2 y3 x9 (2 : Int32) y2 else (if x_in (((96 : Int32) + ((6 : Int32) * y2)) + (1 : Int32)) 570 then (if (v (Int32.toNatClampNeg (((96 : Int32) + ((6 : Int32) * y2)) + (1 : Int32)))) ≤ x9 then fX7_innWants_j87 v y1 y2 y3 x9 (2 : Int32) y2 else fX7_innWants_j89 v y1 y2 y3 (v (Int32.toNatClampNeg (((96 : Int32) + ((6 : Int32) * y2)) + (1 : Int32)))) (2 : Int32) y2) else none))
set_option maxHeartbeats 4000000 in
set_option maxRecDepth 100000 in
theorem wX7_innWants_j36 {p : Program} {l : Launch} {e : Env} {s : State} {m : MethodId} {args : Array Value} {below : List Frame} {meth : Method} {c : Code} {X : x_T} {σ : x_S} {r : x_V} {u : x_H} {kr : Nat} (hkm : (11, kr) ∈ x_ids) (hkc : ∀ v : x_V, x_cell X 11 kr v = .inl (X.2.1 0, 570, .inl v)) (F : x_F p s m args meth c cX7_innWants 6 RX7 none) (v : x_V) (y1 : Int32) (y2 : Int32) (y3 : Int32) (y4 : Int32) (H : Heap) (locs : List Loc) (ls : Array Slot) (h : fX7_innWants_j36 v y1 y2 y3 y4 = some r) (hI : x_I X (x_sh σ 11 (x_hs u kr v)) s H locs) (hl : lv_has ls 6 [(0, .ref (X.2.2 11 kr)), (1, .int y1), (2, .int y2), (3, .int y3), (4, .int y4)]) : W p l e rm_X7_innWants s m args below meth c H locs 0 0 (MQ below (x_Qv X (x_sh σ 11 (x_hs u kr r)) s.heap.size) args s 0 0 (x_A X s.heap.size)) (F0 m 36 ls []) := by
  have hx := F.1
  have hb := F.2.1
  have hml := F.2.2.1
  have hown := F.2.2.2.1
  have hts := F.2.2.2.2.1
  unfold fX7_innWants_j36 at h
  refine lv_aload_n hx hb dX7_innWants_36 rfl (lv_at hl 0 rfl) ?_
  refine lv_sipush (v := 554) hx hb dX7_innWants_37 (by decide) ?_
  refine xv_iald F hI hkm hkc (by decide) dX7_innWants_40 ?_
  refine lv_aload_n hx hb dX7_innWants_41 rfl (lv_at hl 0 rfl) ?_
  refine lv_sipush (v := 555) hx hb dX7_innWants_42 (by decide) ?_
  refine xv_iald F hI hkm hkc (by decide) dX7_innWants_45 ?_
  refine lv_iadd hx hb dX7_innWants_46 ?_
  refine lv_topi (fun x9 e10 => ?_)
  have h := x_let_at h e10
  refine lv_istore (lv' := [(5, .int x9), (0, .ref (X.2.2 11 kr)), (1, .int y1), (2, .int y2), (3, .int y3), (4, .int y4)]) hx hb dX7_innWants_47 hl (by decide) rfl (fun ls hl => ?_)
  refine lv_aload_n hx hb dX7_innWants_49 rfl (lv_at hl 1 rfl) ?_
  refine lv_iload_n hx hb dX7_innWants_50 rfl (lv_at hl 3 rfl) ?_
  refine lv_iconst (v := 2) hx hb dX7_innWants_51 (by decide) ?_
  refine lv_iload hx hb dX7_innWants_52 (lv_at hl 5 rfl) ?_
  refine lv_if_eq (tgt := 87) hx hb dX7_innWants_54 (by decide) (fun c11 => ?_) (fun c11 => ?_)
  · have h := x_ift h c11
    exact wX7_innWants_j87 hkm hkc F v y1 y2 y3 x9 (2 : Int32) y2 _ _ _ h hI (lv_sub hl [1, 2, 3, 4, 0] rfl)
  · have h := x_iff h c11
    refine lv_aload_n hx hb dX7_innWants_57 rfl (lv_at hl 1 rfl) ?_
    refine lv_bipush (v := 96) hx hb dX7_innWants_58 (by decide) ?_
    refine lv_bipush (v := 6) hx hb dX7_innWants_60 (by decide) ?_
    refine lv_iload_n hx hb dX7_innWants_62 rfl (lv_at hl 3 rfl) ?_
    refine lv_imul hx hb dX7_innWants_63 ?_
    refine lv_iadd hx hb dX7_innWants_64 ?_
    refine lv_iconst (v := 1) hx hb dX7_innWants_65 (by decide) ?_
    refine lv_iadd hx hb dX7_innWants_66 ?_
    obtain ⟨g12, h⟩ := x_chk h
    refine xv_iald F hI hkm hkc g12 dX7_innWants_67 ?_
    refine lv_iload hx hb dX7_innWants_68 (lv_at hl 0 rfl) ?_
    refine lv_icmp_le (tgt := 87) hx hb dX7_innWants_70 (by decide) (fun c13 => ?_) (fun c13 => ?_)
    · have h := x_ift h c13
      exact wX7_innWants_j87 hkm hkc F v y1 y2 y3 x9 (2 : Int32) y2 _ _ _ h hI (lv_sub hl [1, 2, 3, 4, 0] rfl)
    · have h := x_iff h c13
      refine lv_aload_n hx hb dX7_innWants_73 rfl (lv_at hl 1 rfl) ?_
      refine lv_bipush (v := 96) hx hb dX7_innWants_74 (by decide) ?_
      refine lv_bipush (v := 6) hx hb dX7_innWants_76 (by decide) ?_
      refine lv_iload_n hx hb dX7_innWants_78 rfl (lv_at hl 3 rfl) ?_
      refine lv_imul hx hb dX7_innWants_79 ?_
      refine lv_iadd hx hb dX7_innWants_80 ?_
      refine lv_iconst (v := 1) hx hb dX7_innWants_81 (by decide) ?_
      refine lv_iadd hx hb dX7_innWants_82 ?_
      refine xv_iald F hI hkm hkc g12 dX7_innWants_83 ?_
      refine lv_goto (tgt := 89) hx hb dX7_innWants_84 (by decide) ?_
      exact wX7_innWants_j89 hkm hkc F v y1 y2 y3 (v (Int32.toNatClampNeg (((96 : Int32) + ((6 : Int32) * y2)) + (1 : Int32)))) (2 : Int32) y2 _ _ _ h hI (lv_sub hl [1, 2, 3, 4] rfl)
def fX7_innWants (v : x_V) (a1 : Int32) (a2 : Int32) (a3 : Int32) : Option x_V := (Option.bind (fX7_belongs v a2 (2 : Int32) a1) fun r1 => (if r1 = 0 then (Option.bind (fX7_belongs v a2 (1 : Int32) a1) fun r4 => (if r4 = 0 then (Option.bind (fX7_post v (4 : Int32) a1 a2 a3 (0 : Int32)) fun r7 => some (r7.2)) else fX7_innWants_j36 v a1 a2 a3 r1)) else fX7_innWants_j36 v a1 a2 a3 r1))
set_option maxHeartbeats 4000000 in
set_option maxRecDepth 100000 in
theorem mX7_innWants (l : Launch) (X : x_T) (σ : x_S) (u : x_H) (kr : Nat) (hkm : (11, kr) ∈ x_ids) (hkc : ∀ v : x_V, x_cell X 11 kr v = .inl (X.2.1 0, 570, .inl v)) (sz : Nat) (v : x_V) (a1 : Int32) (a2 : Int32) (a3 : Int32) (r : x_V) (h : fX7_innWants v a1 a2 a3 = some r) : Met l yX7_innWants (x_ws yX7_innWants cX7_innWants 6 none) rm_X7_innWants (x_Pc X (x_sh σ 11 (x_hs u kr v)) sz [.ref (X.2.2 11 kr), .int a1, .int a2, .int a3]) (x_Qv X (x_sh σ 11 (x_hs u kr r)) sz) 0 0 (x_A X sz) := by
  refine Met.ofW (cc := cX7_innWants) (maxL := 6) (ret := none) (by decide) rfl ?_
  intro p e s m args below meth c s₁ B hml hv
  obtain ⟨F, hI, rfl, rfl⟩ := x_begin B hml hv
  replace F : x_F p s m _ meth c cX7_innWants 6 RX7 none := F
  have hx := F.1
  have hb := F.2.1
  have hml := F.2.2.1
  have hown := F.2.2.2.1
  have hts := F.2.2.2.2.1
  refine x_entry (vs := [.ref (X.2.2 11 kr), .int a1, .int a2, .int a3]) (n := 6) (Nat.le_of_ble_eq_true rfl) (fun ls hl => ?_)
  replace hl : lv_has ls 6 [(0, .ref (X.2.2 11 kr)), (1, .int a1), (2, .int a2), (3, .int a3)] := hl
  unfold fX7_innWants at h
  refine lv_aload_n hx hb dX7_innWants_0 rfl (lv_at hl 0 rfl) ?_
  refine lv_iload_n hx hb dX7_innWants_1 rfl (lv_at hl 2 rfl) ?_
  refine lv_iconst (v := 2) hx hb dX7_innWants_2 (by decide) ?_
  refine lv_iload_n hx hb dX7_innWants_3 rfl (lv_at hl 1 rfl) ?_
  obtain ⟨r1, h2, h⟩ := x_bnd h
  refine x_aci hI (x_runS (rest := []) F hI (mX7_belongs l X σ u kr hkm hkc _ v a2 (2 : Int32) a1 r1 h2) g_X7_49 hd_X7_belongs ⟨by decide, by decide⟩ ⟨rfl, rfl⟩ rfl hl.1 rfl (Nat.le_of_ble_eq_true rfl) dX7_innWants_4 ⟨Nat.zero_le _, Nat.zero_le _⟩) (fun H locs hI => ?_)
  refine lv_istore (lv' := [(4, .int r1), (0, .ref (X.2.2 11 kr)), (1, .int a1), (2, .int a2), (3, .int a3)]) hx hb dX7_innWants_7 hl (by decide) rfl (fun ls hl => ?_)
  refine lv_iload hx hb dX7_innWants_9 (lv_at hl 0 rfl) ?_
  refine lv_if_ne (tgt := 36) hx hb dX7_innWants_11 (by decide) (fun c3 => ?_) (fun c3 => ?_)
  · have h := x_iff h c3
    exact wX7_innWants_j36 hkm hkc F v a1 a2 a3 r1 _ _ _ h hI (lv_sub hl [1, 2, 3, 4, 0] rfl)
  · have h := x_ift h c3
    refine lv_aload_n hx hb dX7_innWants_14 rfl (lv_at hl 1 rfl) ?_
    refine lv_iload_n hx hb dX7_innWants_15 rfl (lv_at hl 3 rfl) ?_
    refine lv_iconst (v := 1) hx hb dX7_innWants_16 (by decide) ?_
    refine lv_iload_n hx hb dX7_innWants_17 rfl (lv_at hl 2 rfl) ?_
    obtain ⟨r4, h5, h⟩ := x_bnd h
    refine x_aci hI (x_runS (rest := []) F hI (mX7_belongs l X σ u kr hkm hkc _ v a2 (1 : Int32) a1 r4 h5) g_X7_49 hd_X7_belongs ⟨by decide, by decide⟩ ⟨rfl, rfl⟩ rfl hl.1 rfl (Nat.le_of_ble_eq_true rfl) dX7_innWants_18 ⟨Nat.zero_le _, Nat.zero_le _⟩) (fun H locs hI => ?_)
    refine lv_if_ne (tgt := 36) hx hb dX7_innWants_21 (by decide) (fun c6 => ?_) (fun c6 => ?_)
    · have h := x_iff h c6
      exact wX7_innWants_j36 hkm hkc F v a1 a2 a3 r1 _ _ _ h hI (lv_sub hl [1, 2, 3, 4, 0] rfl)
    · have h := x_ift h c6
      refine lv_aload_n hx hb dX7_innWants_24 rfl (lv_at hl 1 rfl) ?_
      refine lv_iconst (v := 4) hx hb dX7_innWants_25 (by decide) ?_
      refine lv_iload_n hx hb dX7_innWants_26 rfl (lv_at hl 2 rfl) ?_
      refine lv_iload_n hx hb dX7_innWants_27 rfl (lv_at hl 3 rfl) ?_
      refine lv_iload_n hx hb dX7_innWants_28 rfl (lv_at hl 4 rfl) ?_
      refine lv_iconst (v := 0) hx hb dX7_innWants_29 (by decide) ?_
      obtain ⟨r7, h8, h⟩ := x_bnd h
      refine x_aci hI (x_runS (rest := []) F hI (mX7_post l X σ u kr hkm hkc _ v (4 : Int32) a1 a2 a3 (0 : Int32) r7 h8) g_X7_45 hd_X7_post ⟨by decide, by decide⟩ ⟨rfl, rfl⟩ rfl hl.1 rfl (Nat.le_of_ble_eq_true rfl) dX7_innWants_30 ⟨Nat.zero_le _, Nat.zero_le _⟩) (fun H locs hI => ?_)
      refine lv_istore (lv' := [(5, .int r7.1), (4, .int r1), (0, .ref (X.2.2 11 kr)), (1, .int a1), (2, .int a2), (3, .int a3)]) hx hb dX7_innWants_33 hl (by decide) rfl (fun ls hl => ?_)
      rw [x_some h]
      exact x_vret F hI dX7_innWants_35
abbrev rm_X7_innEnds : Room := { frames := 2, cells := 0, slots := 0, locals := 44 }
def fX7_innEnds_j39 (v : x_V) (y1 : Int32) (z0 : Int32) (z1 : Int32) : Option x_V := (Option.bind (fX7_settle v z1 z0 ((v (Int32.toNatClampNeg (554 : Int32))) + (v (Int32.toNatClampNeg (557 : Int32))))) fun r7 => (if y1 = (5 : Int32) then x_let (upd r7 (Int32.toNatClampNeg (562 : Int32)) ((r7 (Int32.toNatClampNeg (562 : Int32))) + (1 : Int32))) fun u10 => some (u10) else x_let (upd r7 (Int32.toNatClampNeg (562 : Int32)) ((r7 (Int32.toNatClampNeg (562 : Int32))) + (0 : Int32))) fun u12 => some (u12)))
set_option maxHeartbeats 4000000 in
set_option maxRecDepth 100000 in
theorem wX7_innEnds_j39 {p : Program} {l : Launch} {e : Env} {s : State} {m : MethodId} {args : Array Value} {below : List Frame} {meth : Method} {c : Code} {X : x_T} {σ : x_S} {r : x_V} {u : x_H} {kr : Nat} (hkm : (11, kr) ∈ x_ids) (hkc : ∀ v : x_V, x_cell X 11 kr v = .inl (X.2.1 0, 570, .inl v)) (F : x_F p s m args meth c cX7_innEnds 5 RX7 none) (v : x_V) (y1 : Int32) (z0 : Int32) (z1 : Int32) (H : Heap) (locs : List Loc) (ls : Array Slot) (h : fX7_innEnds_j39 v y1 z0 z1 = some r) (hI : x_I X (x_sh σ 11 (x_hs u kr v)) s H locs) (hl : lv_has ls 5 [(0, .ref (X.2.2 11 kr)), (1, .int y1)]) : W p l e rm_X7_innEnds s m args below meth c H locs 0 0 (MQ below (x_Qv X (x_sh σ 11 (x_hs u kr r)) s.heap.size) args s 0 0 (x_A X s.heap.size)) (F0 m 39 ls [.int z0, .int z1, .ref (X.2.2 11 kr)]) := by
  have hx := F.1
  have hb := F.2.1
  have hml := F.2.2.1
  have hown := F.2.2.2.1
  have hts := F.2.2.2.2.1
  unfold fX7_innEnds_j39 at h
  refine lv_aload_n hx hb dX7_innEnds_39 rfl (lv_at hl 0 rfl) ?_
  refine lv_sipush (v := 554) hx hb dX7_innEnds_40 (by decide) ?_
  refine xv_iald F hI hkm hkc (by decide) dX7_innEnds_43 ?_
  refine lv_aload_n hx hb dX7_innEnds_44 rfl (lv_at hl 0 rfl) ?_
  refine lv_sipush (v := 557) hx hb dX7_innEnds_45 (by decide) ?_
  refine xv_iald F hI hkm hkc (by decide) dX7_innEnds_48 ?_
  refine lv_iadd hx hb dX7_innEnds_49 ?_
  obtain ⟨r7, h8, h⟩ := x_bnd h
  refine x_acv hI (x_runS (rest := []) F hI (mX7_settle l X σ u kr hkm hkc _ v z1 z0 ((v (Int32.toNatClampNeg (554 : Int32))) + (v (Int32.toNatClampNeg (557 : Int32)))) r7 h8) g_X7_56 hd_X7_settle ⟨by decide, by decide⟩ ⟨rfl, rfl⟩ rfl hl.1 rfl (Nat.le_of_ble_eq_true rfl) dX7_innEnds_50 ⟨Nat.zero_le _, Nat.zero_le _⟩) (fun H locs hI => ?_)
  refine lv_aload_n hx hb dX7_innEnds_53 rfl (lv_at hl 0 rfl) ?_
  refine lv_sipush (v := 562) hx hb dX7_innEnds_54 (by decide) ?_
  refine lv_dup2_11 hx hb dX7_innEnds_57 rfl rfl ?_
  refine xv_iald F hI hkm hkc (by decide) dX7_innEnds_58 ?_
  refine lv_iload_n hx hb dX7_innEnds_59 rfl (lv_at hl 1 rfl) ?_
  refine lv_iconst (v := 5) hx hb dX7_innEnds_60 (by decide) ?_
  refine lv_icmp_ne (tgt := 68) hx hb dX7_innEnds_61 (by decide) (fun c9 => ?_) (fun c9 => ?_)
  · have h := x_iff h c9
    refine lv_iconst (v := 0) hx hb dX7_innEnds_68 (by decide) ?_
    refine lv_iadd hx hb dX7_innEnds_69 ?_
    refine xv_iast F hI hkm hkc (by decide) dX7_innEnds_70 (fun H locs u12 e13 hI => ?_)
    have h := x_let_at h e13
    rw [x_some h]
    exact x_vret F hI dX7_innEnds_71
  · have h := x_ift h c9
    refine lv_iconst (v := 1) hx hb dX7_innEnds_64 (by decide) ?_
    refine lv_goto (tgt := 69) hx hb dX7_innEnds_65 (by decide) ?_
    refine lv_iadd hx hb dX7_innEnds_69 ?_
    refine xv_iast F hI hkm hkc (by decide) dX7_innEnds_70 (fun H locs u10 e11 hI => ?_)
    have h := x_let_at h e11
    rw [x_some h]
    exact x_vret F hI dX7_innEnds_71
def fX7_innEnds (v : x_V) (a1 : Int32) (a2 : Int32) (a3 : Int32) (a4 : Int32) : Option x_V := (Option.bind (fX7_belongs v a3 (2 : Int32) a2) fun r1 => (if r1 = 0 then some (v) else (if x_in (((96 : Int32) + ((6 : Int32) * a3)) + (3 : Int32)) 570 then (if (v (Int32.toNatClampNeg (((96 : Int32) + ((6 : Int32) * a3)) + (3 : Int32)))) < a4 then (if a1 = (5 : Int32) then fX7_innEnds_j39 v a1 (3 : Int32) a3 else fX7_innEnds_j39 v a1 (0 : Int32) a3) else some (v)) else none)))
set_option maxHeartbeats 4000000 in
set_option maxRecDepth 100000 in
theorem mX7_innEnds (l : Launch) (X : x_T) (σ : x_S) (u : x_H) (kr : Nat) (hkm : (11, kr) ∈ x_ids) (hkc : ∀ v : x_V, x_cell X 11 kr v = .inl (X.2.1 0, 570, .inl v)) (sz : Nat) (v : x_V) (a1 : Int32) (a2 : Int32) (a3 : Int32) (a4 : Int32) (r : x_V) (h : fX7_innEnds v a1 a2 a3 a4 = some r) : Met l yX7_innEnds (x_ws yX7_innEnds cX7_innEnds 5 none) rm_X7_innEnds (x_Pc X (x_sh σ 11 (x_hs u kr v)) sz [.ref (X.2.2 11 kr), .int a1, .int a2, .int a3, .int a4]) (x_Qv X (x_sh σ 11 (x_hs u kr r)) sz) 0 0 (x_A X sz) := by
  refine Met.ofW (cc := cX7_innEnds) (maxL := 5) (ret := none) (by decide) rfl ?_
  intro p e s m args below meth c s₁ B hml hv
  obtain ⟨F, hI, rfl, rfl⟩ := x_begin B hml hv
  replace F : x_F p s m _ meth c cX7_innEnds 5 RX7 none := F
  have hx := F.1
  have hb := F.2.1
  have hml := F.2.2.1
  have hown := F.2.2.2.1
  have hts := F.2.2.2.2.1
  refine x_entry (vs := [.ref (X.2.2 11 kr), .int a1, .int a2, .int a3, .int a4]) (n := 5) (Nat.le_of_ble_eq_true rfl) (fun ls hl => ?_)
  replace hl : lv_has ls 5 [(0, .ref (X.2.2 11 kr)), (1, .int a1), (2, .int a2), (3, .int a3), (4, .int a4)] := hl
  unfold fX7_innEnds at h
  refine lv_aload_n hx hb dX7_innEnds_0 rfl (lv_at hl 0 rfl) ?_
  refine lv_iload_n hx hb dX7_innEnds_1 rfl (lv_at hl 3 rfl) ?_
  refine lv_iconst (v := 2) hx hb dX7_innEnds_2 (by decide) ?_
  refine lv_iload_n hx hb dX7_innEnds_3 rfl (lv_at hl 2 rfl) ?_
  obtain ⟨r1, h2, h⟩ := x_bnd h
  refine x_aci hI (x_runS (rest := []) F hI (mX7_belongs l X σ u kr hkm hkc _ v a3 (2 : Int32) a2 r1 h2) g_X7_49 hd_X7_belongs ⟨by decide, by decide⟩ ⟨rfl, rfl⟩ rfl hl.1 rfl (Nat.le_of_ble_eq_true rfl) dX7_innEnds_4 ⟨Nat.zero_le _, Nat.zero_le _⟩) (fun H locs hI => ?_)
  refine lv_if_eq (tgt := 26) hx hb dX7_innEnds_7 (by decide) (fun c3 => ?_) (fun c3 => ?_)
  · have h := x_ift h c3
    rw [x_some h]
    exact x_vret F hI dX7_innEnds_26
  · have h := x_iff h c3
    refine lv_aload_n hx hb dX7_innEnds_10 rfl (lv_at hl 0 rfl) ?_
    refine lv_bipush (v := 96) hx hb dX7_innEnds_11 (by decide) ?_
    refine lv_bipush (v := 6) hx hb dX7_innEnds_13 (by decide) ?_
    refine lv_iload_n hx hb dX7_innEnds_15 rfl (lv_at hl 3 rfl) ?_
    refine lv_imul hx hb dX7_innEnds_16 ?_
    refine lv_iadd hx hb dX7_innEnds_17 ?_
    refine lv_iconst (v := 3) hx hb dX7_innEnds_18 (by decide) ?_
    refine lv_iadd hx hb dX7_innEnds_19 ?_
    obtain ⟨g4, h⟩ := x_chk h
    refine xv_iald F hI hkm hkc g4 dX7_innEnds_20 ?_
    refine lv_iload hx hb dX7_innEnds_21 (lv_at hl 4 rfl) ?_
    refine lv_icmp_lt (tgt := 27) hx hb dX7_innEnds_23 (by decide) (fun c5 => ?_) (fun c5 => ?_)
    · have h := x_ift h c5
      refine lv_aload_n hx hb dX7_innEnds_27 rfl (lv_at hl 0 rfl) ?_
      refine lv_iload_n hx hb dX7_innEnds_28 rfl (lv_at hl 3 rfl) ?_
      refine lv_iload_n hx hb dX7_innEnds_29 rfl (lv_at hl 1 rfl) ?_
      refine lv_iconst (v := 5) hx hb dX7_innEnds_30 (by decide) ?_
      refine lv_icmp_ne (tgt := 38) hx hb dX7_innEnds_31 (by decide) (fun c6 => ?_) (fun c6 => ?_)
      · have h := x_iff h c6
        refine lv_iconst (v := 0) hx hb dX7_innEnds_38 (by decide) ?_
        exact wX7_innEnds_j39 hkm hkc F v a1 (0 : Int32) a3 _ _ _ h hI (lv_sub hl [0, 1] rfl)
      · have h := x_ift h c6
        refine lv_iconst (v := 3) hx hb dX7_innEnds_34 (by decide) ?_
        refine lv_goto (tgt := 39) hx hb dX7_innEnds_35 (by decide) ?_
        exact wX7_innEnds_j39 hkm hkc F v a1 (3 : Int32) a3 _ _ _ h hI (lv_sub hl [0, 1] rfl)
    · have h := x_iff h c5
      rw [x_some h]
      exact x_vret F hI dX7_innEnds_26
abbrev rm_X7_guestYes : Room := { frames := 1, cells := 0, slots := 0, locals := 26 }
def fX7_guestYes_j101 (v : x_V) (y1 : Int32) (y3 : Int32) (y4 : Int32) (z0 : Int32) (z1 : Int32) (z2 : Int32) : Option x_V := (if x_in z2 570 then x_let (upd v (Int32.toNatClampNeg z2) (z1 + z0)) fun u22 => (if x_in ((8 : Int32) * y1) 570 then x_let (upd u22 (Int32.toNatClampNeg ((8 : Int32) * y1)) (3 : Int32)) fun u25 => (if x_in (((8 : Int32) * y1) + (2 : Int32)) 570 then x_let (upd u25 (Int32.toNatClampNeg (((8 : Int32) * y1) + (2 : Int32))) y4) fun u28 => (if x_in (((8 : Int32) * y1) + (3 : Int32)) 570 then x_let (upd u28 (Int32.toNatClampNeg (((8 : Int32) * y1) + (3 : Int32))) y3) fun u31 => some (u31) else none) else none) else none) else none)
set_option maxHeartbeats 4000000 in
set_option maxRecDepth 100000 in
theorem wX7_guestYes_j101 {p : Program} {l : Launch} {e : Env} {s : State} {m : MethodId} {args : Array Value} {below : List Frame} {meth : Method} {c : Code} {X : x_T} {σ : x_S} {r : x_V} {u : x_H} {kr : Nat} (hkm : (11, kr) ∈ x_ids) (hkc : ∀ v : x_V, x_cell X 11 kr v = .inl (X.2.1 0, 570, .inl v)) (F : x_F p s m args meth c cX7_guestYes 6 RX7 none) (v : x_V) (y1 : Int32) (y3 : Int32) (y4 : Int32) (z0 : Int32) (z1 : Int32) (z2 : Int32) (H : Heap) (locs : List Loc) (ls : Array Slot) (h : fX7_guestYes_j101 v y1 y3 y4 z0 z1 z2 = some r) (hI : x_I X (x_sh σ 11 (x_hs u kr v)) s H locs) (hl : lv_has ls 6 [(0, .ref (X.2.2 11 kr)), (1, .int y1), (3, .int y3), (4, .int y4)]) : W p l e rm_X7_guestYes s m args below meth c H locs 0 0 (MQ below (x_Qv X (x_sh σ 11 (x_hs u kr r)) s.heap.size) args s 0 0 (x_A X s.heap.size)) (F0 m 101 ls [.int z0, .int z1, .int z2, .ref (X.2.2 11 kr)]) := by
  have hx := F.1
  have hb := F.2.1
  have hml := F.2.2.1
  have hown := F.2.2.2.1
  have hts := F.2.2.2.2.1
  unfold fX7_guestYes_j101 at h
  refine lv_iadd hx hb dX7_guestYes_101 ?_
  obtain ⟨g24, h⟩ := x_chk h
  refine xv_iast F hI hkm hkc g24 dX7_guestYes_102 (fun H locs u22 e23 hI => ?_)
  have h := x_let_at h e23
  refine lv_aload_n hx hb dX7_guestYes_103 rfl (lv_at hl 0 rfl) ?_
  refine lv_bipush (v := 8) hx hb dX7_guestYes_104 (by decide) ?_
  refine lv_iload_n hx hb dX7_guestYes_106 rfl (lv_at hl 1 rfl) ?_
  refine lv_imul hx hb dX7_guestYes_107 ?_
  refine lv_iconst (v := 3) hx hb dX7_guestYes_108 (by decide) ?_
  obtain ⟨g27, h⟩ := x_chk h
  refine xv_iast F hI hkm hkc g27 dX7_guestYes_109 (fun H locs u25 e26 hI => ?_)
  have h := x_let_at h e26
  refine lv_aload_n hx hb dX7_guestYes_110 rfl (lv_at hl 0 rfl) ?_
  refine lv_bipush (v := 8) hx hb dX7_guestYes_111 (by decide) ?_
  refine lv_iload_n hx hb dX7_guestYes_113 rfl (lv_at hl 1 rfl) ?_
  refine lv_imul hx hb dX7_guestYes_114 ?_
  refine lv_iconst (v := 2) hx hb dX7_guestYes_115 (by decide) ?_
  refine lv_iadd hx hb dX7_guestYes_116 ?_
  refine lv_iload hx hb dX7_guestYes_117 (lv_at hl 3 rfl) ?_
  obtain ⟨g30, h⟩ := x_chk h
  refine xv_iast F hI hkm hkc g30 dX7_guestYes_119 (fun H locs u28 e29 hI => ?_)
  have h := x_let_at h e29
  refine lv_aload_n hx hb dX7_guestYes_120 rfl (lv_at hl 0 rfl) ?_
  refine lv_bipush (v := 8) hx hb dX7_guestYes_121 (by decide) ?_
  refine lv_iload_n hx hb dX7_guestYes_123 rfl (lv_at hl 1 rfl) ?_
  refine lv_imul hx hb dX7_guestYes_124 ?_
  refine lv_iconst (v := 3) hx hb dX7_guestYes_125 (by decide) ?_
  refine lv_iadd hx hb dX7_guestYes_126 ?_
  refine lv_iload_n hx hb dX7_guestYes_127 rfl (lv_at hl 2 rfl) ?_
  obtain ⟨g33, h⟩ := x_chk h
  refine xv_iast F hI hkm hkc g33 dX7_guestYes_128 (fun H locs u31 e32 hI => ?_)
  have h := x_let_at h e32
  rw [x_some h]
  exact x_vret F hI dX7_guestYes_129
def fX7_guestYes_j77 (v : x_V) (y1 : Int32) (y3 : Int32) (y4 : Int32) : Option x_V := (if x_in (((8 : Int32) * y1) + (6 : Int32)) 570 then (Option.bind (fX7_doing v y1) fun r19 => (if r19 = (2 : Int32) then fX7_guestYes_j101 v y1 y3 y4 (1 : Int32) (v (Int32.toNatClampNeg (((8 : Int32) * y1) + (6 : Int32)))) (((8 : Int32) * y1) + (6 : Int32)) else fX7_guestYes_j101 v y1 y3 y4 (0 : Int32) (v (Int32.toNatClampNeg (((8 : Int32) * y1) + (6 : Int32)))) (((8 : Int32) * y1) + (6 : Int32)))) else none)
set_option maxHeartbeats 4000000 in
set_option maxRecDepth 100000 in
theorem wX7_guestYes_j77 {p : Program} {l : Launch} {e : Env} {s : State} {m : MethodId} {args : Array Value} {below : List Frame} {meth : Method} {c : Code} {X : x_T} {σ : x_S} {r : x_V} {u : x_H} {kr : Nat} (hkm : (11, kr) ∈ x_ids) (hkc : ∀ v : x_V, x_cell X 11 kr v = .inl (X.2.1 0, 570, .inl v)) (F : x_F p s m args meth c cX7_guestYes 6 RX7 none) (v : x_V) (y1 : Int32) (y3 : Int32) (y4 : Int32) (H : Heap) (locs : List Loc) (ls : Array Slot) (h : fX7_guestYes_j77 v y1 y3 y4 = some r) (hI : x_I X (x_sh σ 11 (x_hs u kr v)) s H locs) (hl : lv_has ls 6 [(0, .ref (X.2.2 11 kr)), (1, .int y1), (3, .int y3), (4, .int y4)]) : W p l e rm_X7_guestYes s m args below meth c H locs 0 0 (MQ below (x_Qv X (x_sh σ 11 (x_hs u kr r)) s.heap.size) args s 0 0 (x_A X s.heap.size)) (F0 m 77 ls []) := by
  have hx := F.1
  have hb := F.2.1
  have hml := F.2.2.1
  have hown := F.2.2.2.1
  have hts := F.2.2.2.2.1
  unfold fX7_guestYes_j77 at h
  refine lv_aload_n hx hb dX7_guestYes_77 rfl (lv_at hl 0 rfl) ?_
  refine lv_bipush (v := 8) hx hb dX7_guestYes_78 (by decide) ?_
  refine lv_iload_n hx hb dX7_guestYes_80 rfl (lv_at hl 1 rfl) ?_
  refine lv_imul hx hb dX7_guestYes_81 ?_
  refine lv_bipush (v := 6) hx hb dX7_guestYes_82 (by decide) ?_
  refine lv_iadd hx hb dX7_guestYes_84 ?_
  refine lv_dup2_11 hx hb dX7_guestYes_85 rfl rfl ?_
  obtain ⟨g18, h⟩ := x_chk h
  refine xv_iald F hI hkm hkc g18 dX7_guestYes_86 ?_
  refine lv_aload_n hx hb dX7_guestYes_87 rfl (lv_at hl 0 rfl) ?_
  refine lv_iload_n hx hb dX7_guestYes_88 rfl (lv_at hl 1 rfl) ?_
  obtain ⟨r19, h20, h⟩ := x_bnd h
  refine x_aci hI (x_runS (rest := [.int (v (Int32.toNatClampNeg (((8 : Int32) * y1) + (6 : Int32)))), .int (((8 : Int32) * y1) + (6 : Int32)), .ref (X.2.2 11 kr)]) F hI (mX7_doing l X σ u kr hkm hkc _ v y1 r19 h20) g_X7_60 hd_X7_doing ⟨by decide, by decide⟩ ⟨rfl, rfl⟩ rfl hl.1 rfl (Nat.le_of_ble_eq_true rfl) dX7_guestYes_89 ⟨Nat.zero_le _, Nat.zero_le _⟩) (fun H locs hI => ?_)
  refine lv_iconst (v := 2) hx hb dX7_guestYes_92 (by decide) ?_
  refine lv_icmp_ne (tgt := 100) hx hb dX7_guestYes_93 (by decide) (fun c21 => ?_) (fun c21 => ?_)
  · have h := x_iff h c21
    refine lv_iconst (v := 0) hx hb dX7_guestYes_100 (by decide) ?_
    exact wX7_guestYes_j101 hkm hkc F v y1 y3 y4 (0 : Int32) (v (Int32.toNatClampNeg (((8 : Int32) * y1) + (6 : Int32)))) (((8 : Int32) * y1) + (6 : Int32)) _ _ _ h hI (lv_sub hl [0, 1, 2, 3] rfl)
  · have h := x_ift h c21
    refine lv_iconst (v := 1) hx hb dX7_guestYes_96 (by decide) ?_
    refine lv_goto (tgt := 101) hx hb dX7_guestYes_97 (by decide) ?_
    exact wX7_guestYes_j101 hkm hkc F v y1 y3 y4 (1 : Int32) (v (Int32.toNatClampNeg (((8 : Int32) * y1) + (6 : Int32)))) (((8 : Int32) * y1) + (6 : Int32)) _ _ _ h hI (lv_sub hl [0, 1, 2, 3] rfl)
def fX7_guestYes (v : x_V) (a1 : Int32) (a2 : Int32) (a3 : Int32) : Option x_V := (if x_in (((8 : Int32) * a1) + (5 : Int32)) 570 then x_let (v (Int32.toNatClampNeg (((8 : Int32) * a1) + (5 : Int32)))) fun x2 => (if (v (Int32.toNatClampNeg (554 : Int32))) < (x2 + a3) then (Option.bind (fX7_doing v a1) fun r5 => (if r5 = (2 : Int32) then (if x_in (((96 : Int32) + ((6 : Int32) * a2)) + (5 : Int32)) 570 then (if (v (Int32.toNatClampNeg (((96 : Int32) + ((6 : Int32) * a2)) + (5 : Int32)))) = (1 : Int32) then (Option.bind (fX7_post v (5 : Int32) a1 a2 (0 : Int32) (0 : Int32)) fun r10 => (if x_in ((8 : Int32) * a1) 570 then x_let (upd r10.2 (Int32.toNatClampNeg ((8 : Int32) * a1)) (0 : Int32)) fun u12 => some (u12) else none)) else fX7_guestYes_j77 v a1 a3 x2) else none) else fX7_guestYes_j77 v a1 a3 x2)) else (if x_in ((8 : Int32) * a1) 570 then x_let (upd v (Int32.toNatClampNeg ((8 : Int32) * a1)) (0 : Int32)) fun u15 => some (u15) else none)) else none)
set_option maxHeartbeats 4000000 in
set_option maxRecDepth 100000 in
theorem mX7_guestYes (l : Launch) (X : x_T) (σ : x_S) (u : x_H) (kr : Nat) (hkm : (11, kr) ∈ x_ids) (hkc : ∀ v : x_V, x_cell X 11 kr v = .inl (X.2.1 0, 570, .inl v)) (sz : Nat) (v : x_V) (a1 : Int32) (a2 : Int32) (a3 : Int32) (r : x_V) (h : fX7_guestYes v a1 a2 a3 = some r) : Met l yX7_guestYes (x_ws yX7_guestYes cX7_guestYes 6 none) rm_X7_guestYes (x_Pc X (x_sh σ 11 (x_hs u kr v)) sz [.ref (X.2.2 11 kr), .int a1, .int a2, .int a3]) (x_Qv X (x_sh σ 11 (x_hs u kr r)) sz) 0 0 (x_A X sz) := by
  refine Met.ofW (cc := cX7_guestYes) (maxL := 6) (ret := none) (by decide) rfl ?_
  intro p e s m args below meth c s₁ B hml hv
  obtain ⟨F, hI, rfl, rfl⟩ := x_begin B hml hv
  replace F : x_F p s m _ meth c cX7_guestYes 6 RX7 none := F
  have hx := F.1
  have hb := F.2.1
  have hml := F.2.2.1
  have hown := F.2.2.2.1
  have hts := F.2.2.2.2.1
  refine x_entry (vs := [.ref (X.2.2 11 kr), .int a1, .int a2, .int a3]) (n := 6) (Nat.le_of_ble_eq_true rfl) (fun ls hl => ?_)
  replace hl : lv_has ls 6 [(0, .ref (X.2.2 11 kr)), (1, .int a1), (2, .int a2), (3, .int a3)] := hl
  unfold fX7_guestYes at h
  refine lv_aload_n hx hb dX7_guestYes_0 rfl (lv_at hl 0 rfl) ?_
  refine lv_bipush (v := 8) hx hb dX7_guestYes_1 (by decide) ?_
  refine lv_iload_n hx hb dX7_guestYes_3 rfl (lv_at hl 1 rfl) ?_
  refine lv_imul hx hb dX7_guestYes_4 ?_
  refine lv_iconst (v := 5) hx hb dX7_guestYes_5 (by decide) ?_
  refine lv_iadd hx hb dX7_guestYes_6 ?_
  obtain ⟨g1, h⟩ := x_chk h
  refine xv_iald F hI hkm hkc g1 dX7_guestYes_7 ?_
  refine lv_topi (fun x2 e3 => ?_)
  have h := x_let_at h e3
  refine lv_istore (lv' := [(4, .int x2), (0, .ref (X.2.2 11 kr)), (1, .int a1), (2, .int a2), (3, .int a3)]) hx hb dX7_guestYes_8 hl (by decide) rfl (fun ls hl => ?_)
  refine lv_iload hx hb dX7_guestYes_10 (lv_at hl 0 rfl) ?_
  refine lv_iload_n hx hb dX7_guestYes_12 rfl (lv_at hl 4 rfl) ?_
  refine lv_iadd hx hb dX7_guestYes_13 ?_
  refine lv_aload_n hx hb dX7_guestYes_14 rfl (lv_at hl 1 rfl) ?_
  refine lv_sipush (v := 554) hx hb dX7_guestYes_15 (by decide) ?_
  refine xv_iald F hI hkm hkc (by decide) dX7_guestYes_18 ?_
  refine lv_icmp_gt (tgt := 32) hx hb dX7_guestYes_19 (by decide) (fun c4 => ?_) (fun c4 => ?_)
  · have h := x_ift h c4
    refine lv_aload_n hx hb dX7_guestYes_32 rfl (lv_at hl 1 rfl) ?_
    refine lv_iload_n hx hb dX7_guestYes_33 rfl (lv_at hl 2 rfl) ?_
    obtain ⟨r5, h6, h⟩ := x_bnd h
    refine x_aci hI (x_runS (rest := []) F hI (mX7_doing l X σ u kr hkm hkc _ v a1 r5 h6) g_X7_60 hd_X7_doing ⟨by decide, by decide⟩ ⟨rfl, rfl⟩ rfl hl.1 rfl (Nat.le_of_ble_eq_true rfl) dX7_guestYes_34 ⟨Nat.zero_le _, Nat.zero_le _⟩) (fun H locs hI => ?_)
    refine lv_iconst (v := 2) hx hb dX7_guestYes_37 (by decide) ?_
    refine lv_icmp_ne (tgt := 77) hx hb dX7_guestYes_38 (by decide) (fun c7 => ?_) (fun c7 => ?_)
    · have h := x_iff h c7
      exact wX7_guestYes_j77 hkm hkc F v a1 a3 x2 _ _ _ h hI (lv_sub hl [1, 2, 4, 0] rfl)
    · have h := x_ift h c7
      refine lv_aload_n hx hb dX7_guestYes_41 rfl (lv_at hl 1 rfl) ?_
      refine lv_bipush (v := 96) hx hb dX7_guestYes_42 (by decide) ?_
      refine lv_bipush (v := 6) hx hb dX7_guestYes_44 (by decide) ?_
      refine lv_iload_n hx hb dX7_guestYes_46 rfl (lv_at hl 3 rfl) ?_
      refine lv_imul hx hb dX7_guestYes_47 ?_
      refine lv_iadd hx hb dX7_guestYes_48 ?_
      refine lv_iconst (v := 5) hx hb dX7_guestYes_49 (by decide) ?_
      refine lv_iadd hx hb dX7_guestYes_50 ?_
      obtain ⟨g8, h⟩ := x_chk h
      refine xv_iald F hI hkm hkc g8 dX7_guestYes_51 ?_
      refine lv_iconst (v := 1) hx hb dX7_guestYes_52 (by decide) ?_
      refine lv_icmp_ne (tgt := 77) hx hb dX7_guestYes_53 (by decide) (fun c9 => ?_) (fun c9 => ?_)
      · have h := x_iff h c9
        exact wX7_guestYes_j77 hkm hkc F v a1 a3 x2 _ _ _ h hI (lv_sub hl [1, 2, 4, 0] rfl)
      · have h := x_ift h c9
        refine lv_aload_n hx hb dX7_guestYes_56 rfl (lv_at hl 1 rfl) ?_
        refine lv_iconst (v := 5) hx hb dX7_guestYes_57 (by decide) ?_
        refine lv_iload_n hx hb dX7_guestYes_58 rfl (lv_at hl 2 rfl) ?_
        refine lv_iload_n hx hb dX7_guestYes_59 rfl (lv_at hl 3 rfl) ?_
        refine lv_iconst (v := 0) hx hb dX7_guestYes_60 (by decide) ?_
        refine lv_iconst (v := 0) hx hb dX7_guestYes_61 (by decide) ?_
        obtain ⟨r10, h11, h⟩ := x_bnd h
        refine x_aci hI (x_runS (rest := []) F hI (mX7_post l X σ u kr hkm hkc _ v (5 : Int32) a1 a2 (0 : Int32) (0 : Int32) r10 h11) g_X7_45 hd_X7_post ⟨by decide, by decide⟩ ⟨rfl, rfl⟩ rfl hl.1 rfl (Nat.le_of_ble_eq_true rfl) dX7_guestYes_62 ⟨Nat.zero_le _, Nat.zero_le _⟩) (fun H locs hI => ?_)
        refine lv_istore (lv' := [(5, .int r10.1), (4, .int x2), (0, .ref (X.2.2 11 kr)), (1, .int a1), (2, .int a2), (3, .int a3)]) hx hb dX7_guestYes_65 hl (by decide) rfl (fun ls hl => ?_)
        refine lv_aload_n hx hb dX7_guestYes_67 rfl (lv_at hl 2 rfl) ?_
        refine lv_bipush (v := 8) hx hb dX7_guestYes_68 (by decide) ?_
        refine lv_iload_n hx hb dX7_guestYes_70 rfl (lv_at hl 3 rfl) ?_
        refine lv_imul hx hb dX7_guestYes_71 ?_
        refine lv_iconst (v := 0) hx hb dX7_guestYes_72 (by decide) ?_
        obtain ⟨g14, h⟩ := x_chk h
        refine xv_iast F hI hkm hkc g14 dX7_guestYes_73 (fun H locs u12 e13 hI => ?_)
        have h := x_let_at h e13
        refine lv_goto (tgt := 129) hx hb dX7_guestYes_74 (by decide) ?_
        rw [x_some h]
        exact x_vret F hI dX7_guestYes_129
  · have h := x_iff h c4
    refine lv_aload_n hx hb dX7_guestYes_22 rfl (lv_at hl 1 rfl) ?_
    refine lv_bipush (v := 8) hx hb dX7_guestYes_23 (by decide) ?_
    refine lv_iload_n hx hb dX7_guestYes_25 rfl (lv_at hl 2 rfl) ?_
    refine lv_imul hx hb dX7_guestYes_26 ?_
    refine lv_iconst (v := 0) hx hb dX7_guestYes_27 (by decide) ?_
    obtain ⟨g17, h⟩ := x_chk h
    refine xv_iast F hI hkm hkc g17 dX7_guestYes_28 (fun H locs u15 e16 hI => ?_)
    have h := x_let_at h e16
    refine lv_goto (tgt := 129) hx hb dX7_guestYes_29 (by decide) ?_
    rw [x_some h]
    exact x_vret F hI dX7_guestYes_129
abbrev rm_X7_take : Room := { frames := 0, cells := 0, slots := 0, locals := 0 }
def fX7_take_b29 : Nat → x_V → Int32 → Int32 → Option (Int32 × x_V)
  | 0, _, _, _ => none
  | n + 1, v, y2, y3 => (if ((192 : Int32) + ((6 : Int32) * (v (Int32.toNatClampNeg (552 : Int32))))) ≤ y3 then some (y2, v) else (if x_in (y3 + (6 : Int32)) 570 then (if x_in y3 570 then x_let (upd v (Int32.toNatClampNeg y3) (v (Int32.toNatClampNeg (y3 + (6 : Int32))))) fun u10 => x_let (y3 + (1 : Int32)) fun x13 => fX7_take_b29 n u10 y2 x13 else none) else none))
set_option maxHeartbeats 4000000 in
set_option maxRecDepth 100000 in
theorem wX7_take_b29 {p : Program} {l : Launch} {e : Env} {s : State} {m : MethodId} {args : Array Value} {below : List Frame} {meth : Method} {c : Code} {X : x_T} {σ : x_S} {r : (Int32 × x_V)} {u : x_H} {kr : Nat} (hkm : (11, kr) ∈ x_ids) (hkc : ∀ v : x_V, x_cell X 11 kr v = .inl (X.2.1 0, 570, .inl v)) (F : x_F p s m args meth c cX7_take 4 RX7 (some .int)) : ∀ (n : Nat) (v : x_V) (y2 : Int32) (y3 : Int32) (H : Heap) (locs : List Loc) (ls : Array Slot), fX7_take_b29 n v y2 y3 = some r → x_I X (x_sh σ 11 (x_hs u kr v)) s H locs → lv_has ls 4 [(0, .ref (X.2.2 11 kr)), (2, .int y2), (3, .int y3)] → W p l e rm_X7_take s m args below meth c H locs 0 0 (MQ below (x_Qi X r.1 (x_sh σ 11 (x_hs u kr r.2)) s.heap.size) args s 0 0 (x_A X s.heap.size)) (F0 m 29 ls []) := by
  have hx := F.1
  have hb := F.2.1
  have hml := F.2.2.1
  have hown := F.2.2.2.1
  have hts := F.2.2.2.2.1
  intro n
  induction n with
  | zero =>
    intro v y2 y3 H locs ls h
    rw [fX7_take_b29] at h
    cases h
  | succ n ih =>
    intro v y2 y3 H locs ls h hI hl
    rw [fX7_take_b29] at h
    refine lv_iload_n hx hb dX7_take_29 rfl (lv_at hl 2 rfl) ?_
    refine lv_sipush (v := 192) hx hb dX7_take_30 (by decide) ?_
    refine lv_bipush (v := 6) hx hb dX7_take_33 (by decide) ?_
    refine lv_aload_n hx hb dX7_take_35 rfl (lv_at hl 0 rfl) ?_
    refine lv_sipush (v := 552) hx hb dX7_take_36 (by decide) ?_
    refine xv_iald F hI hkm hkc (by decide) dX7_take_39 ?_
    refine lv_imul hx hb dX7_take_40 ?_
    refine lv_iadd hx hb dX7_take_41 ?_
    refine lv_icmp_ge (tgt := 60) hx hb dX7_take_42 (by decide) (fun c8 => ?_) (fun c8 => ?_)
    · have h := x_ift h c8
      refine lv_iload_n hx hb dX7_take_60 rfl (lv_at hl 1 rfl) ?_
      rw [x_some h]
      exact x_iret F hI dX7_take_61
    · have h := x_iff h c8
      refine lv_aload_n hx hb dX7_take_45 rfl (lv_at hl 0 rfl) ?_
      refine lv_iload_n hx hb dX7_take_46 rfl (lv_at hl 2 rfl) ?_
      refine lv_aload_n hx hb dX7_take_47 rfl (lv_at hl 0 rfl) ?_
      refine lv_iload_n hx hb dX7_take_48 rfl (lv_at hl 2 rfl) ?_
      refine lv_bipush (v := 6) hx hb dX7_take_49 (by decide) ?_
      refine lv_iadd hx hb dX7_take_51 ?_
      obtain ⟨g9, h⟩ := x_chk h
      refine xv_iald F hI hkm hkc g9 dX7_take_52 ?_
      obtain ⟨g12, h⟩ := x_chk h
      refine xv_iast F hI hkm hkc g12 dX7_take_53 (fun H locs u10 e11 hI => ?_)
      have h := x_let_at h e11
      obtain ⟨x13, e14⟩ : ∃ z : Int32, z = (y3 + (1 : Int32)) := ⟨_, rfl⟩
      have h := x_let_at h e14
      refine lv_iinc (v := x13) (lv' := [(3, .int x13), (0, .ref (X.2.2 11 kr)), (2, .int y2)]) hx hb dX7_take_54 hl (k := 2) rfl (by rw [e14]; rfl) (by decide) rfl (fun ls hl => ?_)
      refine lv_goto (tgt := 29) hx hb dX7_take_57 (by decide) ?_
      exact ih u10 y2 x13 _ _ _ h hI (lv_sub hl [1, 2, 0] rfl)
def fX7_take (v : x_V) (a1 : Int32) : Option (Int32 × x_V) := (if x_in ((192 : Int32) + ((6 : Int32) * a1)) 570 then x_let (v (Int32.toNatClampNeg ((192 : Int32) + ((6 : Int32) * a1)))) fun x2 => x_let (upd v (Int32.toNatClampNeg (552 : Int32)) ((v (Int32.toNatClampNeg (552 : Int32))) - (1 : Int32))) fun u4 => x_let ((192 : Int32) + ((6 : Int32) * a1)) fun x6 => fX7_take_b29 400 u4 x2 x6 else none)
set_option maxHeartbeats 4000000 in
set_option maxRecDepth 100000 in
theorem mX7_take (l : Launch) (X : x_T) (σ : x_S) (u : x_H) (kr : Nat) (hkm : (11, kr) ∈ x_ids) (hkc : ∀ v : x_V, x_cell X 11 kr v = .inl (X.2.1 0, 570, .inl v)) (sz : Nat) (v : x_V) (a1 : Int32) (r : (Int32 × x_V)) (h : fX7_take v a1 = some r) : Met l yX7_take (x_ws yX7_take cX7_take 4 (some .int)) rm_X7_take (x_Pc X (x_sh σ 11 (x_hs u kr v)) sz [.ref (X.2.2 11 kr), .int a1]) (x_Qi X r.1 (x_sh σ 11 (x_hs u kr r.2)) sz) 0 0 (x_A X sz) := by
  refine Met.ofW (cc := cX7_take) (maxL := 4) (ret := (some .int)) (by decide) rfl ?_
  intro p e s m args below meth c s₁ B hml hv
  obtain ⟨F, hI, rfl, rfl⟩ := x_begin B hml hv
  replace F : x_F p s m _ meth c cX7_take 4 RX7 (some .int) := F
  have hx := F.1
  have hb := F.2.1
  have hml := F.2.2.1
  have hown := F.2.2.2.1
  have hts := F.2.2.2.2.1
  refine x_entry (vs := [.ref (X.2.2 11 kr), .int a1]) (n := 4) (Nat.le_of_ble_eq_true rfl) (fun ls hl => ?_)
  replace hl : lv_has ls 4 [(0, .ref (X.2.2 11 kr)), (1, .int a1)] := hl
  unfold fX7_take at h
  refine lv_aload_n hx hb dX7_take_0 rfl (lv_at hl 0 rfl) ?_
  refine lv_sipush (v := 192) hx hb dX7_take_1 (by decide) ?_
  refine lv_bipush (v := 6) hx hb dX7_take_4 (by decide) ?_
  refine lv_iload_n hx hb dX7_take_6 rfl (lv_at hl 1 rfl) ?_
  refine lv_imul hx hb dX7_take_7 ?_
  refine lv_iadd hx hb dX7_take_8 ?_
  obtain ⟨g1, h⟩ := x_chk h
  refine xv_iald F hI hkm hkc g1 dX7_take_9 ?_
  refine lv_topi (fun x2 e3 => ?_)
  have h := x_let_at h e3
  refine lv_istore_n (lv' := [(2, .int x2), (0, .ref (X.2.2 11 kr)), (1, .int a1)]) hx hb dX7_take_10 rfl hl (by decide) rfl (fun ls hl => ?_)
  refine lv_aload_n hx hb dX7_take_11 rfl (lv_at hl 1 rfl) ?_
  refine lv_sipush (v := 552) hx hb dX7_take_12 (by decide) ?_
  refine lv_dup2_11 hx hb dX7_take_15 rfl rfl ?_
  refine xv_iald F hI hkm hkc (by decide) dX7_take_16 ?_
  refine lv_iconst (v := 1) hx hb dX7_take_17 (by decide) ?_
  refine lv_isub hx hb dX7_take_18 ?_
  refine xv_iast F hI hkm hkc (by decide) dX7_take_19 (fun H locs u4 e5 hI => ?_)
  have h := x_let_at h e5
  refine lv_sipush (v := 192) hx hb dX7_take_20 (by decide) ?_
  refine lv_bipush (v := 6) hx hb dX7_take_23 (by decide) ?_
  refine lv_iload_n hx hb dX7_take_25 rfl (lv_at hl 2 rfl) ?_
  refine lv_imul hx hb dX7_take_26 ?_
  refine lv_iadd hx hb dX7_take_27 ?_
  refine lv_topi (fun x6 e7 => ?_)
  have h := x_let_at h e7
  refine lv_istore_n (lv' := [(3, .int x6), (2, .int x2), (0, .ref (X.2.2 11 kr)), (1, .int a1)]) hx hb dX7_take_28 rfl hl (by decide) rfl (fun ls hl => ?_)
  exact wX7_take_b29 hkm hkc F 400 u4 x2 x6 _ _ _ h hI (lv_sub hl [2, 1, 0] rfl)
abbrev rm_X7_handle : Room := { frames := 4, cells := 0, slots := 0, locals := 93 }
def fX7_handle_j195 (v : x_V) (y3 : Int32) (y4 : Int32) (y5 : Int32) (y8 : Int32) (y9 : Int32) : Option (Int32 × x_V) := (if y8 = (4 : Int32) then (if y9 = 0 then (if y8 ≤ (4 : Int32) then some (y8, v) else (Option.bind (fX7_innEnds v y8 y3 y4 y5) fun r54 => some (y8, r54))) else (if x_in ((8 : Int32) * y3) 570 then x_let (upd v (Int32.toNatClampNeg ((8 : Int32) * y3)) (0 : Int32)) fun u56 => some (y8, u56) else none)) else (if y8 ≤ (4 : Int32) then some (y8, v) else (Option.bind (fX7_innEnds v y8 y3 y4 y5) fun r60 => some (y8, r60))))
set_option maxHeartbeats 4000000 in
set_option maxRecDepth 100000 in
theorem wX7_handle_j195 {p : Program} {l : Launch} {e : Env} {s : State} {m : MethodId} {args : Array Value} {below : List Frame} {meth : Method} {c : Code} {X : x_T} {σ : x_S} {r : (Int32 × x_V)} {u : x_H} {kr : Nat} (hkm : (11, kr) ∈ x_ids) (hkc : ∀ v : x_V, x_cell X 11 kr v = .inl (X.2.1 0, 570, .inl v)) (F : x_F p s m args meth c cX7_handle 10 RX7 (some .int)) (v : x_V) (y3 : Int32) (y4 : Int32) (y5 : Int32) (y8 : Int32) (y9 : Int32) (H : Heap) (locs : List Loc) (ls : Array Slot) (h : fX7_handle_j195 v y3 y4 y5 y8 y9 = some r) (hI : x_I X (x_sh σ 11 (x_hs u kr v)) s H locs) (hl : lv_has ls 10 [(0, .ref (X.2.2 11 kr)), (3, .int y3), (4, .int y4), (5, .int y5), (8, .int y8), (9, .int y9)]) : W p l e rm_X7_handle s m args below meth c H locs 0 0 (MQ below (x_Qi X r.1 (x_sh σ 11 (x_hs u kr r.2)) s.heap.size) args s 0 0 (x_A X s.heap.size)) (F0 m 195 ls []) := by
  have hx := F.1
  have hb := F.2.1
  have hml := F.2.2.1
  have hown := F.2.2.2.1
  have hts := F.2.2.2.2.1
  unfold fX7_handle_j195 at h
  refine lv_iload hx hb dX7_handle_195 (lv_at hl 4 rfl) ?_
  refine lv_iconst (v := 4) hx hb dX7_handle_197 (by decide) ?_
  refine lv_icmp_ne (tgt := 216) hx hb dX7_handle_198 (by decide) (fun c51 => ?_) (fun c51 => ?_)
  · have h := x_iff h c51
    refine lv_iload hx hb dX7_handle_216 (lv_at hl 4 rfl) ?_
    refine lv_iconst (v := 4) hx hb dX7_handle_218 (by decide) ?_
    refine lv_icmp_le (tgt := 233) hx hb dX7_handle_219 (by decide) (fun c59 => ?_) (fun c59 => ?_)
    · have h := x_ift h c59
      refine lv_iload hx hb dX7_handle_233 (lv_at hl 4 rfl) ?_
      rw [x_some h]
      exact x_iret F hI dX7_handle_235
    · have h := x_iff h c59
      refine lv_aload_n hx hb dX7_handle_222 rfl (lv_at hl 0 rfl) ?_
      refine lv_iload hx hb dX7_handle_223 (lv_at hl 4 rfl) ?_
      refine lv_iload_n hx hb dX7_handle_225 rfl (lv_at hl 1 rfl) ?_
      refine lv_iload hx hb dX7_handle_226 (lv_at hl 2 rfl) ?_
      refine lv_iload hx hb dX7_handle_228 (lv_at hl 3 rfl) ?_
      obtain ⟨r60, h61, h⟩ := x_bnd h
      refine x_acv hI (x_runS (rest := []) F hI (mX7_innEnds l X σ u kr hkm hkc _ v y8 y3 y4 y5 r60 h61) g_X7_79 hd_X7_innEnds ⟨by decide, by decide⟩ ⟨rfl, rfl⟩ rfl hl.1 rfl (Nat.le_of_ble_eq_true rfl) dX7_handle_230 ⟨Nat.zero_le _, Nat.zero_le _⟩) (fun H locs hI => ?_)
      refine lv_iload hx hb dX7_handle_233 (lv_at hl 4 rfl) ?_
      rw [x_some h]
      exact x_iret F hI dX7_handle_235
  · have h := x_ift h c51
    refine lv_iload hx hb dX7_handle_201 (lv_at hl 5 rfl) ?_
    refine lv_if_eq (tgt := 216) hx hb dX7_handle_203 (by decide) (fun c52 => ?_) (fun c52 => ?_)
    · have h := x_ift h c52
      refine lv_iload hx hb dX7_handle_216 (lv_at hl 4 rfl) ?_
      refine lv_iconst (v := 4) hx hb dX7_handle_218 (by decide) ?_
      refine lv_icmp_le (tgt := 233) hx hb dX7_handle_219 (by decide) (fun c53 => ?_) (fun c53 => ?_)
      · have h := x_ift h c53
        refine lv_iload hx hb dX7_handle_233 (lv_at hl 4 rfl) ?_
        rw [x_some h]
        exact x_iret F hI dX7_handle_235
      · have h := x_iff h c53
        refine lv_aload_n hx hb dX7_handle_222 rfl (lv_at hl 0 rfl) ?_
        refine lv_iload hx hb dX7_handle_223 (lv_at hl 4 rfl) ?_
        refine lv_iload_n hx hb dX7_handle_225 rfl (lv_at hl 1 rfl) ?_
        refine lv_iload hx hb dX7_handle_226 (lv_at hl 2 rfl) ?_
        refine lv_iload hx hb dX7_handle_228 (lv_at hl 3 rfl) ?_
        obtain ⟨r54, h55, h⟩ := x_bnd h
        refine x_acv hI (x_runS (rest := []) F hI (mX7_innEnds l X σ u kr hkm hkc _ v y8 y3 y4 y5 r54 h55) g_X7_79 hd_X7_innEnds ⟨by decide, by decide⟩ ⟨rfl, rfl⟩ rfl hl.1 rfl (Nat.le_of_ble_eq_true rfl) dX7_handle_230 ⟨Nat.zero_le _, Nat.zero_le _⟩) (fun H locs hI => ?_)
        refine lv_iload hx hb dX7_handle_233 (lv_at hl 4 rfl) ?_
        rw [x_some h]
        exact x_iret F hI dX7_handle_235
    · have h := x_iff h c52
      refine lv_aload_n hx hb dX7_handle_206 rfl (lv_at hl 0 rfl) ?_
      refine lv_bipush (v := 8) hx hb dX7_handle_207 (by decide) ?_
      refine lv_iload_n hx hb dX7_handle_209 rfl (lv_at hl 1 rfl) ?_
      refine lv_imul hx hb dX7_handle_210 ?_
      refine lv_iconst (v := 0) hx hb dX7_handle_211 (by decide) ?_
      obtain ⟨g58, h⟩ := x_chk h
      refine xv_iast F hI hkm hkc g58 dX7_handle_212 (fun H locs u56 e57 hI => ?_)
      have h := x_let_at h e57
      refine lv_goto (tgt := 233) hx hb dX7_handle_213 (by decide) ?_
      refine lv_iload hx hb dX7_handle_233 (lv_at hl 4 rfl) ?_
      rw [x_some h]
      exact x_iret F hI dX7_handle_235
def fX7_handle_j154 (v : x_V) (y3 : Int32) (y4 : Int32) (y5 : Int32) (y7 : Int32) (y8 : Int32) (y9 : Int32) : Option (Int32 × x_V) := (if y8 = (2 : Int32) then (Option.bind (fX7_innWants v y3 y4 y5) fun r45 => some (y8, r45)) else (if y8 = (3 : Int32) then (if y9 = 0 then fX7_handle_j195 v y3 y4 y5 y8 y9 else (Option.bind (fX7_guestYes v y3 y4 y7) fun r49 => some (y8, r49))) else fX7_handle_j195 v y3 y4 y5 y8 y9))
set_option maxHeartbeats 4000000 in
set_option maxRecDepth 100000 in
theorem wX7_handle_j154 {p : Program} {l : Launch} {e : Env} {s : State} {m : MethodId} {args : Array Value} {below : List Frame} {meth : Method} {c : Code} {X : x_T} {σ : x_S} {r : (Int32 × x_V)} {u : x_H} {kr : Nat} (hkm : (11, kr) ∈ x_ids) (hkc : ∀ v : x_V, x_cell X 11 kr v = .inl (X.2.1 0, 570, .inl v)) (F : x_F p s m args meth c cX7_handle 10 RX7 (some .int)) (v : x_V) (y3 : Int32) (y4 : Int32) (y5 : Int32) (y7 : Int32) (y8 : Int32) (y9 : Int32) (H : Heap) (locs : List Loc) (ls : Array Slot) (h : fX7_handle_j154 v y3 y4 y5 y7 y8 y9 = some r) (hI : x_I X (x_sh σ 11 (x_hs u kr v)) s H locs) (hl : lv_has ls 10 [(0, .ref (X.2.2 11 kr)), (3, .int y3), (4, .int y4), (5, .int y5), (7, .int y7), (8, .int y8), (9, .int y9)]) : W p l e rm_X7_handle s m args below meth c H locs 0 0 (MQ below (x_Qi X r.1 (x_sh σ 11 (x_hs u kr r.2)) s.heap.size) args s 0 0 (x_A X s.heap.size)) (F0 m 154 ls []) := by
  have hx := F.1
  have hb := F.2.1
  have hml := F.2.2.1
  have hown := F.2.2.2.1
  have hts := F.2.2.2.2.1
  unfold fX7_handle_j154 at h
  refine lv_iload hx hb dX7_handle_154 (lv_at hl 5 rfl) ?_
  refine lv_iconst (v := 2) hx hb dX7_handle_156 (by decide) ?_
  refine lv_icmp_ne (tgt := 172) hx hb dX7_handle_157 (by decide) (fun c44 => ?_) (fun c44 => ?_)
  · have h := x_iff h c44
    refine lv_iload hx hb dX7_handle_172 (lv_at hl 5 rfl) ?_
    refine lv_iconst (v := 3) hx hb dX7_handle_174 (by decide) ?_
    refine lv_icmp_ne (tgt := 195) hx hb dX7_handle_175 (by decide) (fun c47 => ?_) (fun c47 => ?_)
    · have h := x_iff h c47
      exact wX7_handle_j195 hkm hkc F v y3 y4 y5 y8 y9 _ _ _ h hI (lv_sub hl [0, 1, 2, 3, 5, 6] rfl)
    · have h := x_ift h c47
      refine lv_iload hx hb dX7_handle_178 (lv_at hl 6 rfl) ?_
      refine lv_if_eq (tgt := 195) hx hb dX7_handle_180 (by decide) (fun c48 => ?_) (fun c48 => ?_)
      · have h := x_ift h c48
        exact wX7_handle_j195 hkm hkc F v y3 y4 y5 y8 y9 _ _ _ h hI (lv_sub hl [0, 1, 2, 3, 5, 6] rfl)
      · have h := x_iff h c48
        refine lv_aload_n hx hb dX7_handle_183 rfl (lv_at hl 0 rfl) ?_
        refine lv_iload_n hx hb dX7_handle_184 rfl (lv_at hl 1 rfl) ?_
        refine lv_iload hx hb dX7_handle_185 (lv_at hl 2 rfl) ?_
        refine lv_iload hx hb dX7_handle_187 (lv_at hl 4 rfl) ?_
        obtain ⟨r49, h50, h⟩ := x_bnd h
        refine x_acv hI (x_runS (rest := []) F hI (mX7_guestYes l X σ u kr hkm hkc _ v y3 y4 y7 r49 h50) g_X7_76 hd_X7_guestYes ⟨by decide, by decide⟩ ⟨rfl, rfl⟩ rfl hl.1 rfl (Nat.le_of_ble_eq_true rfl) dX7_handle_189 ⟨Nat.zero_le _, Nat.zero_le _⟩) (fun H locs hI => ?_)
        refine lv_goto (tgt := 233) hx hb dX7_handle_192 (by decide) ?_
        refine lv_iload hx hb dX7_handle_233 (lv_at hl 5 rfl) ?_
        rw [x_some h]
        exact x_iret F hI dX7_handle_235
  · have h := x_ift h c44
    refine lv_aload_n hx hb dX7_handle_160 rfl (lv_at hl 0 rfl) ?_
    refine lv_iload_n hx hb dX7_handle_161 rfl (lv_at hl 1 rfl) ?_
    refine lv_iload hx hb dX7_handle_162 (lv_at hl 2 rfl) ?_
    refine lv_iload hx hb dX7_handle_164 (lv_at hl 3 rfl) ?_
    obtain ⟨r45, h46, h⟩ := x_bnd h
    refine x_acv hI (x_runS (rest := []) F hI (mX7_innWants l X σ u kr hkm hkc _ v y3 y4 y5 r45 h46) g_X7_73 hd_X7_innWants ⟨by decide, by decide⟩ ⟨rfl, rfl⟩ rfl hl.1 rfl (Nat.le_of_ble_eq_true rfl) dX7_handle_166 ⟨Nat.zero_le _, Nat.zero_le _⟩) (fun H locs hI => ?_)
    refine lv_goto (tgt := 233) hx hb dX7_handle_169 (by decide) ?_
    refine lv_iload hx hb dX7_handle_233 (lv_at hl 5 rfl) ?_
    rw [x_some h]
    exact x_iret F hI dX7_handle_235
def fX7_handle_j90 (v : x_V) (y3 : Int32) (y4 : Int32) (y5 : Int32) (y7 : Int32) (y8 : Int32) (z0 : Int32) : Option (Int32 × x_V) := x_let (upd v (Int32.toNatClampNeg (559 : Int32)) ((v (Int32.toNatClampNeg (559 : Int32))) + (1 : Int32))) fun u27 => (if y8 = 0 then (Option.bind (fX7_innSeeks u27 y3) fun r30 => some (y8, r30)) else (if y8 = (1 : Int32) then (Option.bind (fX7_doing u27 y3) fun r33 => (if r33 = (1 : Int32) then (if x_in ((8 : Int32) * y3) 570 then x_let (upd u27 (Int32.toNatClampNeg ((8 : Int32) * y3)) (2 : Int32)) fun u36 => (if x_in (((8 : Int32) * y3) + (1 : Int32)) 570 then x_let (upd u36 (Int32.toNatClampNeg (((8 : Int32) * y3) + (1 : Int32))) y4) fun u39 => (Option.bind (fX7_want u39 y3) fun r42 => some (y8, r42)) else none) else none) else fX7_handle_j154 u27 y3 y4 y5 y7 y8 z0)) else fX7_handle_j154 u27 y3 y4 y5 y7 y8 z0))
set_option maxHeartbeats 4000000 in
set_option maxRecDepth 100000 in
theorem wX7_handle_j90 {p : Program} {l : Launch} {e : Env} {s : State} {m : MethodId} {args : Array Value} {below : List Frame} {meth : Method} {c : Code} {X : x_T} {σ : x_S} {r : (Int32 × x_V)} {u : x_H} {kr : Nat} (hkm : (11, kr) ∈ x_ids) (hkc : ∀ v : x_V, x_cell X 11 kr v = .inl (X.2.1 0, 570, .inl v)) (F : x_F p s m args meth c cX7_handle 10 RX7 (some .int)) (v : x_V) (y3 : Int32) (y4 : Int32) (y5 : Int32) (y7 : Int32) (y8 : Int32) (z0 : Int32) (H : Heap) (locs : List Loc) (ls : Array Slot) (h : fX7_handle_j90 v y3 y4 y5 y7 y8 z0 = some r) (hI : x_I X (x_sh σ 11 (x_hs u kr v)) s H locs) (hl : lv_has ls 10 [(0, .ref (X.2.2 11 kr)), (3, .int y3), (4, .int y4), (5, .int y5), (7, .int y7), (8, .int y8)]) : W p l e rm_X7_handle s m args below meth c H locs 0 0 (MQ below (x_Qi X r.1 (x_sh σ 11 (x_hs u kr r.2)) s.heap.size) args s 0 0 (x_A X s.heap.size)) (F0 m 90 ls [.int z0]) := by
  have hx := F.1
  have hb := F.2.1
  have hml := F.2.2.1
  have hown := F.2.2.2.1
  have hts := F.2.2.2.2.1
  unfold fX7_handle_j90 at h
  refine lv_istore (lv' := [(9, .int z0), (0, .ref (X.2.2 11 kr)), (3, .int y3), (4, .int y4), (5, .int y5), (7, .int y7), (8, .int y8)]) hx hb dX7_handle_90 hl (by decide) rfl (fun ls hl => ?_)
  refine lv_aload_n hx hb dX7_handle_92 rfl (lv_at hl 1 rfl) ?_
  refine lv_sipush (v := 559) hx hb dX7_handle_93 (by decide) ?_
  refine lv_dup2_11 hx hb dX7_handle_96 rfl rfl ?_
  refine xv_iald F hI hkm hkc (by decide) dX7_handle_97 ?_
  refine lv_iconst (v := 1) hx hb dX7_handle_98 (by decide) ?_
  refine lv_iadd hx hb dX7_handle_99 ?_
  refine xv_iast F hI hkm hkc (by decide) dX7_handle_100 (fun H locs u27 e28 hI => ?_)
  have h := x_let_at h e28
  refine lv_iload hx hb dX7_handle_101 (lv_at hl 6 rfl) ?_
  refine lv_if_ne (tgt := 114) hx hb dX7_handle_103 (by decide) (fun c29 => ?_) (fun c29 => ?_)
  · have h := x_iff h c29
    refine lv_iload hx hb dX7_handle_114 (lv_at hl 6 rfl) ?_
    refine lv_iconst (v := 1) hx hb dX7_handle_116 (by decide) ?_
    refine lv_icmp_ne (tgt := 154) hx hb dX7_handle_117 (by decide) (fun c32 => ?_) (fun c32 => ?_)
    · have h := x_iff h c32
      exact wX7_handle_j154 hkm hkc F u27 y3 y4 y5 y7 y8 z0 _ _ _ h hI (lv_sub hl [1, 2, 3, 4, 5, 6, 0] rfl)
    · have h := x_ift h c32
      refine lv_aload_n hx hb dX7_handle_120 rfl (lv_at hl 1 rfl) ?_
      refine lv_iload_n hx hb dX7_handle_121 rfl (lv_at hl 2 rfl) ?_
      obtain ⟨r33, h34, h⟩ := x_bnd h
      refine x_aci hI (x_runS (rest := []) F hI (mX7_doing l X σ u kr hkm hkc _ u27 y3 r33 h34) g_X7_60 hd_X7_doing ⟨by decide, by decide⟩ ⟨rfl, rfl⟩ rfl hl.1 rfl (Nat.le_of_ble_eq_true rfl) dX7_handle_122 ⟨Nat.zero_le _, Nat.zero_le _⟩) (fun H locs hI => ?_)
      refine lv_iconst (v := 1) hx hb dX7_handle_125 (by decide) ?_
      refine lv_icmp_ne (tgt := 154) hx hb dX7_handle_126 (by decide) (fun c35 => ?_) (fun c35 => ?_)
      · have h := x_iff h c35
        exact wX7_handle_j154 hkm hkc F u27 y3 y4 y5 y7 y8 z0 _ _ _ h hI (lv_sub hl [1, 2, 3, 4, 5, 6, 0] rfl)
      · have h := x_ift h c35
        refine lv_aload_n hx hb dX7_handle_129 rfl (lv_at hl 1 rfl) ?_
        refine lv_bipush (v := 8) hx hb dX7_handle_130 (by decide) ?_
        refine lv_iload_n hx hb dX7_handle_132 rfl (lv_at hl 2 rfl) ?_
        refine lv_imul hx hb dX7_handle_133 ?_
        refine lv_iconst (v := 2) hx hb dX7_handle_134 (by decide) ?_
        obtain ⟨g38, h⟩ := x_chk h
        refine xv_iast F hI hkm hkc g38 dX7_handle_135 (fun H locs u36 e37 hI => ?_)
        have h := x_let_at h e37
        refine lv_aload_n hx hb dX7_handle_136 rfl (lv_at hl 1 rfl) ?_
        refine lv_bipush (v := 8) hx hb dX7_handle_137 (by decide) ?_
        refine lv_iload_n hx hb dX7_handle_139 rfl (lv_at hl 2 rfl) ?_
        refine lv_imul hx hb dX7_handle_140 ?_
        refine lv_iconst (v := 1) hx hb dX7_handle_141 (by decide) ?_
        refine lv_iadd hx hb dX7_handle_142 ?_
        refine lv_iload hx hb dX7_handle_143 (lv_at hl 3 rfl) ?_
        obtain ⟨g41, h⟩ := x_chk h
        refine xv_iast F hI hkm hkc g41 dX7_handle_145 (fun H locs u39 e40 hI => ?_)
        have h := x_let_at h e40
        refine lv_aload_n hx hb dX7_handle_146 rfl (lv_at hl 1 rfl) ?_
        refine lv_iload_n hx hb dX7_handle_147 rfl (lv_at hl 2 rfl) ?_
        obtain ⟨r42, h43, h⟩ := x_bnd h
        refine x_acv hI (x_runS (rest := []) F hI (mX7_want l X σ u kr hkm hkc _ u39 y3 r42 h43) g_X7_70 hd_X7_want ⟨by decide, by decide⟩ ⟨rfl, rfl⟩ rfl hl.1 rfl (Nat.le_of_ble_eq_true rfl) dX7_handle_148 ⟨Nat.zero_le _, Nat.zero_le _⟩) (fun H locs hI => ?_)
        refine lv_goto (tgt := 233) hx hb dX7_handle_151 (by decide) ?_
        refine lv_iload hx hb dX7_handle_233 (lv_at hl 6 rfl) ?_
        rw [x_some h]
        exact x_iret F hI dX7_handle_235
  · have h := x_ift h c29
    refine lv_aload_n hx hb dX7_handle_106 rfl (lv_at hl 1 rfl) ?_
    refine lv_iload_n hx hb dX7_handle_107 rfl (lv_at hl 2 rfl) ?_
    obtain ⟨r30, h31, h⟩ := x_bnd h
    refine x_acv hI (x_runS (rest := []) F hI (mX7_innSeeks l X σ u kr hkm hkc _ u27 y3 r30 h31) g_X7_66 hd_X7_innSeeks ⟨by decide, by decide⟩ ⟨rfl, rfl⟩ rfl hl.1 rfl (Nat.le_of_ble_eq_true rfl) dX7_handle_108 ⟨Nat.zero_le _, Nat.zero_le _⟩) (fun H locs hI => ?_)
    refine lv_goto (tgt := 233) hx hb dX7_handle_111 (by decide) ?_
    refine lv_iload hx hb dX7_handle_233 (lv_at hl 6 rfl) ?_
    rw [x_some h]
    exact x_iret F hI dX7_handle_235
def fX7_handle_j89 (v : x_V) (y3 : Int32) (y4 : Int32) (y5 : Int32) (y7 : Int32) (y8 : Int32) : Option (Int32 × x_V) := fX7_handle_j90 v y3 y4 y5 y7 y8 (0 : Int32)
set_option maxHeartbeats 4000000 in
set_option maxRecDepth 100000 in
theorem wX7_handle_j89 {p : Program} {l : Launch} {e : Env} {s : State} {m : MethodId} {args : Array Value} {below : List Frame} {meth : Method} {c : Code} {X : x_T} {σ : x_S} {r : (Int32 × x_V)} {u : x_H} {kr : Nat} (hkm : (11, kr) ∈ x_ids) (hkc : ∀ v : x_V, x_cell X 11 kr v = .inl (X.2.1 0, 570, .inl v)) (F : x_F p s m args meth c cX7_handle 10 RX7 (some .int)) (v : x_V) (y3 : Int32) (y4 : Int32) (y5 : Int32) (y7 : Int32) (y8 : Int32) (H : Heap) (locs : List Loc) (ls : Array Slot) (h : fX7_handle_j89 v y3 y4 y5 y7 y8 = some r) (hI : x_I X (x_sh σ 11 (x_hs u kr v)) s H locs) (hl : lv_has ls 10 [(0, .ref (X.2.2 11 kr)), (3, .int y3), (4, .int y4), (5, .int y5), (7, .int y7), (8, .int y8)]) : W p l e rm_X7_handle s m args below meth c H locs 0 0 (MQ below (x_Qi X r.1 (x_sh σ 11 (x_hs u kr r.2)) s.heap.size) args s 0 0 (x_A X s.heap.size)) (F0 m 89 ls []) := by
  have hx := F.1
  have hb := F.2.1
  have hml := F.2.2.1
  have hown := F.2.2.2.1
  have hts := F.2.2.2.2.1
  unfold fX7_handle_j89 at h
  refine lv_iconst (v := 0) hx hb dX7_handle_89 (by decide) ?_
  exact wX7_handle_j90 hkm hkc F v y3 y4 y5 y7 y8 (0 : Int32) _ _ _ h hI (lv_sub hl [0, 1, 2, 3, 4, 5] rfl)
def fX7_handle (v : x_V) (a1 : Int32) : Option (Int32 × x_V) := x_let ((192 : Int32) + ((6 : Int32) * a1)) fun x1 => (if x_in (x1 + (1 : Int32)) 570 then x_let (v (Int32.toNatClampNeg (x1 + (1 : Int32)))) fun x4 => (if x_in (x1 + (2 : Int32)) 570 then x_let (v (Int32.toNatClampNeg (x1 + (2 : Int32)))) fun x7 => (if x_in (x1 + (3 : Int32)) 570 then x_let (v (Int32.toNatClampNeg (x1 + (3 : Int32)))) fun x10 => (if x_in (x1 + (4 : Int32)) 570 then x_let (v (Int32.toNatClampNeg (x1 + (4 : Int32)))) fun x13 => (if x_in (x1 + (5 : Int32)) 570 then x_let (v (Int32.toNatClampNeg (x1 + (5 : Int32)))) fun x16 => (Option.bind (fX7_take v a1) fun r18 => (Option.bind (fX7_doing r18.2 x4) fun r20 => (if r20 ≤ (1 : Int32) then fX7_handle_j89 r18.2 x4 x7 x10 x16 r18.1 else (if x_in (((8 : Int32) * x4) + (1 : Int32)) 570 then (if (r18.2 (Int32.toNatClampNeg (((8 : Int32) * x4) + (1 : Int32)))) = x7 then (if x_in (((8 : Int32) * x4) + (4 : Int32)) 570 then (if (r18.2 (Int32.toNatClampNeg (((8 : Int32) * x4) + (4 : Int32)))) = x13 then fX7_handle_j90 r18.2 x4 x7 x10 x16 r18.1 (1 : Int32) else fX7_handle_j89 r18.2 x4 x7 x10 x16 r18.1) else none) else fX7_handle_j89 r18.2 x4 x7 x10 x16 r18.1) else none)))) else none) else none) else none) else none) else none)
set_option maxHeartbeats 4000000 in
set_option maxRecDepth 100000 in
theorem mX7_handle (l : Launch) (X : x_T) (σ : x_S) (u : x_H) (kr : Nat) (hkm : (11, kr) ∈ x_ids) (hkc : ∀ v : x_V, x_cell X 11 kr v = .inl (X.2.1 0, 570, .inl v)) (sz : Nat) (v : x_V) (a1 : Int32) (r : (Int32 × x_V)) (h : fX7_handle v a1 = some r) : Met l yX7_handle (x_ws yX7_handle cX7_handle 10 (some .int)) rm_X7_handle (x_Pc X (x_sh σ 11 (x_hs u kr v)) sz [.ref (X.2.2 11 kr), .int a1]) (x_Qi X r.1 (x_sh σ 11 (x_hs u kr r.2)) sz) 0 0 (x_A X sz) := by
  refine Met.ofW (cc := cX7_handle) (maxL := 10) (ret := (some .int)) (by decide) rfl ?_
  intro p e s m args below meth c s₁ B hml hv
  obtain ⟨F, hI, rfl, rfl⟩ := x_begin B hml hv
  replace F : x_F p s m _ meth c cX7_handle 10 RX7 (some .int) := F
  have hx := F.1
  have hb := F.2.1
  have hml := F.2.2.1
  have hown := F.2.2.2.1
  have hts := F.2.2.2.2.1
  refine x_entry (vs := [.ref (X.2.2 11 kr), .int a1]) (n := 10) (Nat.le_of_ble_eq_true rfl) (fun ls hl => ?_)
  replace hl : lv_has ls 10 [(0, .ref (X.2.2 11 kr)), (1, .int a1)] := hl
  unfold fX7_handle at h
  refine lv_sipush (v := 192) hx hb dX7_handle_0 (by decide) ?_
  refine lv_bipush (v := 6) hx hb dX7_handle_3 (by decide) ?_
  refine lv_iload_n hx hb dX7_handle_5 rfl (lv_at hl 1 rfl) ?_
  refine lv_imul hx hb dX7_handle_6 ?_
  refine lv_iadd hx hb dX7_handle_7 ?_
  refine lv_topi (fun x1 e2 => ?_)
  have h := x_let_at h e2
  refine lv_istore_n (lv' := [(2, .int x1), (0, .ref (X.2.2 11 kr)), (1, .int a1)]) hx hb dX7_handle_8 rfl hl (by decide) rfl (fun ls hl => ?_)
  refine lv_aload_n hx hb dX7_handle_9 rfl (lv_at hl 1 rfl) ?_
  refine lv_iload_n hx hb dX7_handle_10 rfl (lv_at hl 0 rfl) ?_
  refine lv_iconst (v := 1) hx hb dX7_handle_11 (by decide) ?_
  refine lv_iadd hx hb dX7_handle_12 ?_
  obtain ⟨g3, h⟩ := x_chk h
  refine xv_iald F hI hkm hkc g3 dX7_handle_13 ?_
  refine lv_topi (fun x4 e5 => ?_)
  have h := x_let_at h e5
  refine lv_istore_n (lv' := [(3, .int x4), (2, .int x1), (0, .ref (X.2.2 11 kr)), (1, .int a1)]) hx hb dX7_handle_14 rfl hl (by decide) rfl (fun ls hl => ?_)
  refine lv_aload_n hx hb dX7_handle_15 rfl (lv_at hl 2 rfl) ?_
  refine lv_iload_n hx hb dX7_handle_16 rfl (lv_at hl 1 rfl) ?_
  refine lv_iconst (v := 2) hx hb dX7_handle_17 (by decide) ?_
  refine lv_iadd hx hb dX7_handle_18 ?_
  obtain ⟨g6, h⟩ := x_chk h
  refine xv_iald F hI hkm hkc g6 dX7_handle_19 ?_
  refine lv_topi (fun x7 e8 => ?_)
  have h := x_let_at h e8
  refine lv_istore (lv' := [(4, .int x7), (3, .int x4), (2, .int x1), (0, .ref (X.2.2 11 kr)), (1, .int a1)]) hx hb dX7_handle_20 hl (by decide) rfl (fun ls hl => ?_)
  refine lv_aload_n hx hb dX7_handle_22 rfl (lv_at hl 3 rfl) ?_
  refine lv_iload_n hx hb dX7_handle_23 rfl (lv_at hl 2 rfl) ?_
  refine lv_iconst (v := 3) hx hb dX7_handle_24 (by decide) ?_
  refine lv_iadd hx hb dX7_handle_25 ?_
  obtain ⟨g9, h⟩ := x_chk h
  refine xv_iald F hI hkm hkc g9 dX7_handle_26 ?_
  refine lv_topi (fun x10 e11 => ?_)
  have h := x_let_at h e11
  refine lv_istore (lv' := [(5, .int x10), (4, .int x7), (3, .int x4), (2, .int x1), (0, .ref (X.2.2 11 kr)), (1, .int a1)]) hx hb dX7_handle_27 hl (by decide) rfl (fun ls hl => ?_)
  refine lv_aload_n hx hb dX7_handle_29 rfl (lv_at hl 4 rfl) ?_
  refine lv_iload_n hx hb dX7_handle_30 rfl (lv_at hl 3 rfl) ?_
  refine lv_iconst (v := 4) hx hb dX7_handle_31 (by decide) ?_
  refine lv_iadd hx hb dX7_handle_32 ?_
  obtain ⟨g12, h⟩ := x_chk h
  refine xv_iald F hI hkm hkc g12 dX7_handle_33 ?_
  refine lv_topi (fun x13 e14 => ?_)
  have h := x_let_at h e14
  refine lv_istore (lv' := [(6, .int x13), (5, .int x10), (4, .int x7), (3, .int x4), (2, .int x1), (0, .ref (X.2.2 11 kr)), (1, .int a1)]) hx hb dX7_handle_34 hl (by decide) rfl (fun ls hl => ?_)
  refine lv_aload_n hx hb dX7_handle_36 rfl (lv_at hl 5 rfl) ?_
  refine lv_iload_n hx hb dX7_handle_37 rfl (lv_at hl 4 rfl) ?_
  refine lv_iconst (v := 5) hx hb dX7_handle_38 (by decide) ?_
  refine lv_iadd hx hb dX7_handle_39 ?_
  obtain ⟨g15, h⟩ := x_chk h
  refine xv_iald F hI hkm hkc g15 dX7_handle_40 ?_
  refine lv_topi (fun x16 e17 => ?_)
  have h := x_let_at h e17
  refine lv_istore (lv' := [(7, .int x16), (6, .int x13), (5, .int x10), (4, .int x7), (3, .int x4), (2, .int x1), (0, .ref (X.2.2 11 kr)), (1, .int a1)]) hx hb dX7_handle_41 hl (by decide) rfl (fun ls hl => ?_)
  refine lv_aload_n hx hb dX7_handle_43 rfl (lv_at hl 6 rfl) ?_
  refine lv_iload_n hx hb dX7_handle_44 rfl (lv_at hl 7 rfl) ?_
  obtain ⟨r18, h19, h⟩ := x_bnd h
  refine x_aci hI (x_runS (rest := []) F hI (mX7_take l X σ u kr hkm hkc _ v a1 r18 h19) g_X7_63 hd_X7_take ⟨by decide, by decide⟩ ⟨rfl, rfl⟩ rfl hl.1 rfl (Nat.le_of_ble_eq_true rfl) dX7_handle_45 ⟨Nat.zero_le _, Nat.zero_le _⟩) (fun H locs hI => ?_)
  refine lv_istore (lv' := [(8, .int r18.1), (7, .int x16), (6, .int x13), (5, .int x10), (4, .int x7), (3, .int x4), (2, .int x1), (0, .ref (X.2.2 11 kr)), (1, .int a1)]) hx hb dX7_handle_48 hl (by decide) rfl (fun ls hl => ?_)
  refine lv_aload_n hx hb dX7_handle_50 rfl (lv_at hl 7 rfl) ?_
  refine lv_iload_n hx hb dX7_handle_51 rfl (lv_at hl 5 rfl) ?_
  obtain ⟨r20, h21, h⟩ := x_bnd h
  refine x_aci hI (x_runS (rest := []) F hI (mX7_doing l X σ u kr hkm hkc _ r18.2 x4 r20 h21) g_X7_60 hd_X7_doing ⟨by decide, by decide⟩ ⟨rfl, rfl⟩ rfl hl.1 rfl (Nat.le_of_ble_eq_true rfl) dX7_handle_52 ⟨Nat.zero_le _, Nat.zero_le _⟩) (fun H locs hI => ?_)
  refine lv_iconst (v := 1) hx hb dX7_handle_55 (by decide) ?_
  refine lv_icmp_le (tgt := 89) hx hb dX7_handle_56 (by decide) (fun c22 => ?_) (fun c22 => ?_)
  · have h := x_ift h c22
    exact wX7_handle_j89 hkm hkc F r18.2 x4 x7 x10 x16 r18.1 _ _ _ h hI (lv_sub hl [7, 5, 4, 3, 1, 0] rfl)
  · have h := x_iff h c22
    refine lv_aload_n hx hb dX7_handle_59 rfl (lv_at hl 7 rfl) ?_
    refine lv_bipush (v := 8) hx hb dX7_handle_60 (by decide) ?_
    refine lv_iload_n hx hb dX7_handle_62 rfl (lv_at hl 5 rfl) ?_
    refine lv_imul hx hb dX7_handle_63 ?_
    refine lv_iconst (v := 1) hx hb dX7_handle_64 (by decide) ?_
    refine lv_iadd hx hb dX7_handle_65 ?_
    obtain ⟨g23, h⟩ := x_chk h
    refine xv_iald F hI hkm hkc g23 dX7_handle_66 ?_
    refine lv_iload hx hb dX7_handle_67 (lv_at hl 4 rfl) ?_
    refine lv_icmp_ne (tgt := 89) hx hb dX7_handle_69 (by decide) (fun c24 => ?_) (fun c24 => ?_)
    · have h := x_iff h c24
      exact wX7_handle_j89 hkm hkc F r18.2 x4 x7 x10 x16 r18.1 _ _ _ h hI (lv_sub hl [7, 5, 4, 3, 1, 0] rfl)
    · have h := x_ift h c24
      refine lv_aload_n hx hb dX7_handle_72 rfl (lv_at hl 7 rfl) ?_
      refine lv_bipush (v := 8) hx hb dX7_handle_73 (by decide) ?_
      refine lv_iload_n hx hb dX7_handle_75 rfl (lv_at hl 5 rfl) ?_
      refine lv_imul hx hb dX7_handle_76 ?_
      refine lv_iconst (v := 4) hx hb dX7_handle_77 (by decide) ?_
      refine lv_iadd hx hb dX7_handle_78 ?_
      obtain ⟨g25, h⟩ := x_chk h
      refine xv_iald F hI hkm hkc g25 dX7_handle_79 ?_
      refine lv_iload hx hb dX7_handle_80 (lv_at hl 2 rfl) ?_
      refine lv_icmp_ne (tgt := 89) hx hb dX7_handle_82 (by decide) (fun c26 => ?_) (fun c26 => ?_)
      · have h := x_iff h c26
        exact wX7_handle_j89 hkm hkc F r18.2 x4 x7 x10 x16 r18.1 _ _ _ h hI (lv_sub hl [7, 5, 4, 3, 1, 0] rfl)
      · have h := x_ift h c26
        refine lv_iconst (v := 1) hx hb dX7_handle_85 (by decide) ?_
        refine lv_goto (tgt := 90) hx hb dX7_handle_86 (by decide) ?_
        exact wX7_handle_j90 hkm hkc F r18.2 x4 x7 x10 x16 r18.1 (1 : Int32) _ _ _ h hI (lv_sub hl [7, 5, 4, 3, 1, 0] rfl)
abbrev rm_X7_handleAll : Room := { frames := 5, cells := 0, slots := 0, locals := 122 }
def fX7_handleAll_b2 : Nat → x_V → Int32 → Option (Int32 × x_V)
  | 0, _, _ => none
  | n + 1, v, y1 => (if (v (Int32.toNatClampNeg (552 : Int32))) ≤ 0 then some (y1, v) else (Option.bind (fX7_handle v (0 : Int32)) fun r2 => x_let (y1 + (1 : Int32)) fun x4 => fX7_handleAll_b2 n r2.2 x4))
set_option maxHeartbeats 4000000 in
set_option maxRecDepth 100000 in
theorem wX7_handleAll_b2 {p : Program} {l : Launch} {e : Env} {s : State} {m : MethodId} {args : Array Value} {below : List Frame} {meth : Method} {c : Code} {X : x_T} {σ : x_S} {r : (Int32 × x_V)} {u : x_H} {kr : Nat} (hkm : (11, kr) ∈ x_ids) (hkc : ∀ v : x_V, x_cell X 11 kr v = .inl (X.2.1 0, 570, .inl v)) (F : x_F p s m args meth c cX7_handleAll 3 RX7 (some .int)) : ∀ (n : Nat) (v : x_V) (y1 : Int32) (H : Heap) (locs : List Loc) (ls : Array Slot), fX7_handleAll_b2 n v y1 = some r → x_I X (x_sh σ 11 (x_hs u kr v)) s H locs → lv_has ls 3 [(0, .ref (X.2.2 11 kr)), (1, .int y1)] → W p l e rm_X7_handleAll s m args below meth c H locs 0 0 (MQ below (x_Qi X r.1 (x_sh σ 11 (x_hs u kr r.2)) s.heap.size) args s 0 0 (x_A X s.heap.size)) (F0 m 2 ls []) := by
  have hx := F.1
  have hb := F.2.1
  have hml := F.2.2.1
  have hown := F.2.2.2.1
  have hts := F.2.2.2.2.1
  intro n
  induction n with
  | zero =>
    intro v y1 H locs ls h
    rw [fX7_handleAll_b2] at h
    cases h
  | succ n ih =>
    intro v y1 H locs ls h hI hl
    rw [fX7_handleAll_b2] at h
    refine lv_aload_n hx hb dX7_handleAll_2 rfl (lv_at hl 0 rfl) ?_
    refine lv_sipush (v := 552) hx hb dX7_handleAll_3 (by decide) ?_
    refine xv_iald F hI hkm hkc (by decide) dX7_handleAll_6 ?_
    refine lv_if_le (tgt := 22) hx hb dX7_handleAll_7 (by decide) (fun c1 => ?_) (fun c1 => ?_)
    · have h := x_ift h c1
      refine lv_iload_n hx hb dX7_handleAll_22 rfl (lv_at hl 1 rfl) ?_
      rw [x_some h]
      exact x_iret F hI dX7_handleAll_23
    · have h := x_iff h c1
      refine lv_aload_n hx hb dX7_handleAll_10 rfl (lv_at hl 0 rfl) ?_
      refine lv_iconst (v := 0) hx hb dX7_handleAll_11 (by decide) ?_
      obtain ⟨r2, h3, h⟩ := x_bnd h
      refine x_aci hI (x_runS (rest := []) F hI (mX7_handle l X σ u kr hkm hkc _ v (0 : Int32) r2 h3) g_X7_83 hd_X7_handle ⟨by decide, by decide⟩ ⟨rfl, rfl⟩ rfl hl.1 rfl (Nat.le_of_ble_eq_true rfl) dX7_handleAll_12 ⟨Nat.zero_le _, Nat.zero_le _⟩) (fun H locs hI => ?_)
      refine lv_istore_n (lv' := [(2, .int r2.1), (0, .ref (X.2.2 11 kr)), (1, .int y1)]) hx hb dX7_handleAll_15 rfl hl (by decide) rfl (fun ls hl => ?_)
      obtain ⟨x4, e5⟩ : ∃ z : Int32, z = (y1 + (1 : Int32)) := ⟨_, rfl⟩
      have h := x_let_at h e5
      refine lv_iinc (v := x4) (lv' := [(1, .int x4), (2, .int r2.1), (0, .ref (X.2.2 11 kr))]) hx hb dX7_handleAll_16 hl (k := 2) rfl (by rw [e5]; rfl) (by decide) rfl (fun ls hl => ?_)
      refine lv_goto (tgt := 2) hx hb dX7_handleAll_19 (by decide) ?_
      exact ih r2.2 x4 _ _ _ h hI (lv_sub hl [2, 0] rfl)
def fX7_handleAll (v : x_V) : Option (Int32 × x_V) := fX7_handleAll_b2 2000 v (0 : Int32)
set_option maxHeartbeats 4000000 in
set_option maxRecDepth 100000 in
theorem mX7_handleAll (l : Launch) (X : x_T) (σ : x_S) (u : x_H) (kr : Nat) (hkm : (11, kr) ∈ x_ids) (hkc : ∀ v : x_V, x_cell X 11 kr v = .inl (X.2.1 0, 570, .inl v)) (sz : Nat) (v : x_V) (r : (Int32 × x_V)) (h : fX7_handleAll v  = some r) : Met l yX7_handleAll (x_ws yX7_handleAll cX7_handleAll 3 (some .int)) rm_X7_handleAll (x_Pc X (x_sh σ 11 (x_hs u kr v)) sz [.ref (X.2.2 11 kr)]) (x_Qi X r.1 (x_sh σ 11 (x_hs u kr r.2)) sz) 0 0 (x_A X sz) := by
  refine Met.ofW (cc := cX7_handleAll) (maxL := 3) (ret := (some .int)) (by decide) rfl ?_
  intro p e s m args below meth c s₁ B hml hv
  obtain ⟨F, hI, rfl, rfl⟩ := x_begin B hml hv
  replace F : x_F p s m _ meth c cX7_handleAll 3 RX7 (some .int) := F
  have hx := F.1
  have hb := F.2.1
  have hml := F.2.2.1
  have hown := F.2.2.2.1
  have hts := F.2.2.2.2.1
  refine x_entry (vs := [.ref (X.2.2 11 kr)]) (n := 3) (Nat.le_of_ble_eq_true rfl) (fun ls hl => ?_)
  replace hl : lv_has ls 3 [(0, .ref (X.2.2 11 kr))] := hl
  unfold fX7_handleAll at h
  refine lv_iconst (v := 0) hx hb dX7_handleAll_0 (by decide) ?_
  refine lv_istore_n (lv' := [(1, .int (0)), (0, .ref (X.2.2 11 kr))]) hx hb dX7_handleAll_1 rfl hl (by decide) rfl (fun ls hl => ?_)
  exact wX7_handleAll_b2 hkm hkc F 2000 v (0 : Int32) _ _ _ h hI (lv_sub hl [1, 0] rfl)
abbrev rm_X7_tickOnce : Room := { frames := 2, cells := 0, slots := 0, locals := 47 }
def fX7_tickOnce_b64 : Nat → x_V → Int32 → Int32 → Option (Int32 × x_V)
  | 0, _, _, _ => none
  | n + 1, v, y1, y2 => (if (12 : Int32) ≤ y2 then some (y1, v) else (if x_in (((8 : Int32) * y2) + (2 : Int32)) 570 then x_let ((v (Int32.toNatClampNeg (554 : Int32))) - (v (Int32.toNatClampNeg (((8 : Int32) * y2) + (2 : Int32))))) fun x20 => (if x_in (((8 : Int32) * y2) + (3 : Int32)) 570 then x_let (v (Int32.toNatClampNeg (((8 : Int32) * y2) + (3 : Int32)))) fun x23 => (Option.bind (fX7_doing v y2) fun r25 => (if r25 = (3 : Int32) then (if x20 < x23 then (Option.bind (fX7_doing v y2) fun r29 => (if r29 = (3 : Int32) then (if x20 = (x23 / (2 : Int32)) then (Option.bind (fX7_want v y2) fun r33 => x_let (y2 + (1 : Int32)) fun x35 => fX7_tickOnce_b64 n r33 y1 x35) else (if x20 = (((7 : Int32) * x23) / (8 : Int32)) then (Option.bind (fX7_want v y2) fun r38 => x_let (y2 + (1 : Int32)) fun x40 => fX7_tickOnce_b64 n r38 y1 x40) else x_let (y2 + (1 : Int32)) fun x42 => fX7_tickOnce_b64 n v y1 x42)) else x_let (y2 + (1 : Int32)) fun x44 => fX7_tickOnce_b64 n v y1 x44)) else (if x_in ((8 : Int32) * y2) 570 then x_let (upd v (Int32.toNatClampNeg ((8 : Int32) * y2)) (0 : Int32)) fun u46 => x_let (upd u46 (Int32.toNatClampNeg (561 : Int32)) ((u46 (Int32.toNatClampNeg (561 : Int32))) + (1 : Int32))) fun u49 => x_let (y1 + (1 : Int32)) fun x51 => x_let (y2 + (1 : Int32)) fun x53 => fX7_tickOnce_b64 n u49 x51 x53 else none)) else (Option.bind (fX7_doing v y2) fun r55 => (if r55 = (3 : Int32) then (if x20 = (x23 / (2 : Int32)) then (Option.bind (fX7_want v y2) fun r59 => x_let (y2 + (1 : Int32)) fun x61 => fX7_tickOnce_b64 n r59 y1 x61) else (if x20 = (((7 : Int32) * x23) / (8 : Int32)) then (Option.bind (fX7_want v y2) fun r64 => x_let (y2 + (1 : Int32)) fun x66 => fX7_tickOnce_b64 n r64 y1 x66) else x_let (y2 + (1 : Int32)) fun x68 => fX7_tickOnce_b64 n v y1 x68)) else x_let (y2 + (1 : Int32)) fun x70 => fX7_tickOnce_b64 n v y1 x70)))) else none) else none))
set_option maxHeartbeats 4000000 in
set_option maxRecDepth 100000 in
theorem wX7_tickOnce_b64 {p : Program} {l : Launch} {e : Env} {s : State} {m : MethodId} {args : Array Value} {below : List Frame} {meth : Method} {c : Code} {X : x_T} {σ : x_S} {r : (Int32 × x_V)} {u : x_H} {kr : Nat} (hkm : (11, kr) ∈ x_ids) (hkc : ∀ v : x_V, x_cell X 11 kr v = .inl (X.2.1 0, 570, .inl v)) (F : x_F p s m args meth c cX7_tickOnce 5 RX7 (some .int)) : ∀ (n : Nat) (v : x_V) (y1 : Int32) (y2 : Int32) (H : Heap) (locs : List Loc) (ls : Array Slot), fX7_tickOnce_b64 n v y1 y2 = some r → x_I X (x_sh σ 11 (x_hs u kr v)) s H locs → lv_has ls 5 [(0, .ref (X.2.2 11 kr)), (1, .int y1), (2, .int y2)] → W p l e rm_X7_tickOnce s m args below meth c H locs 0 0 (MQ below (x_Qi X r.1 (x_sh σ 11 (x_hs u kr r.2)) s.heap.size) args s 0 0 (x_A X s.heap.size)) (F0 m 64 ls []) := by
  have hx := F.1
  have hb := F.2.1
  have hml := F.2.2.1
  have hown := F.2.2.2.1
  have hts := F.2.2.2.2.1
  intro n
  induction n with
  | zero =>
    intro v y1 y2 H locs ls h
    rw [fX7_tickOnce_b64] at h
    cases h
  | succ n ih =>
    intro v y1 y2 H locs ls h hI hl
    rw [fX7_tickOnce_b64] at h
    refine lv_iload_n hx hb dX7_tickOnce_64 rfl (lv_at hl 2 rfl) ?_
    refine lv_bipush (v := 12) hx hb dX7_tickOnce_65 (by decide) ?_
    refine lv_icmp_ge (tgt := 172) hx hb dX7_tickOnce_67 (by decide) (fun c18 => ?_) (fun c18 => ?_)
    · have h := x_ift h c18
      refine lv_iload_n hx hb dX7_tickOnce_172 rfl (lv_at hl 1 rfl) ?_
      rw [x_some h]
      exact x_iret F hI dX7_tickOnce_173
    · have h := x_iff h c18
      refine lv_aload_n hx hb dX7_tickOnce_70 rfl (lv_at hl 0 rfl) ?_
      refine lv_sipush (v := 554) hx hb dX7_tickOnce_71 (by decide) ?_
      refine xv_iald F hI hkm hkc (by decide) dX7_tickOnce_74 ?_
      refine lv_aload_n hx hb dX7_tickOnce_75 rfl (lv_at hl 0 rfl) ?_
      refine lv_bipush (v := 8) hx hb dX7_tickOnce_76 (by decide) ?_
      refine lv_iload_n hx hb dX7_tickOnce_78 rfl (lv_at hl 2 rfl) ?_
      refine lv_imul hx hb dX7_tickOnce_79 ?_
      refine lv_iconst (v := 2) hx hb dX7_tickOnce_80 (by decide) ?_
      refine lv_iadd hx hb dX7_tickOnce_81 ?_
      obtain ⟨g19, h⟩ := x_chk h
      refine xv_iald F hI hkm hkc g19 dX7_tickOnce_82 ?_
      refine lv_isub hx hb dX7_tickOnce_83 ?_
      refine lv_topi (fun x20 e21 => ?_)
      have h := x_let_at h e21
      refine lv_istore_n (lv' := [(3, .int x20), (0, .ref (X.2.2 11 kr)), (1, .int y1), (2, .int y2)]) hx hb dX7_tickOnce_84 rfl hl (by decide) rfl (fun ls hl => ?_)
      refine lv_aload_n hx hb dX7_tickOnce_85 rfl (lv_at hl 1 rfl) ?_
      refine lv_bipush (v := 8) hx hb dX7_tickOnce_86 (by decide) ?_
      refine lv_iload_n hx hb dX7_tickOnce_88 rfl (lv_at hl 3 rfl) ?_
      refine lv_imul hx hb dX7_tickOnce_89 ?_
      refine lv_iconst (v := 3) hx hb dX7_tickOnce_90 (by decide) ?_
      refine lv_iadd hx hb dX7_tickOnce_91 ?_
      obtain ⟨g22, h⟩ := x_chk h
      refine xv_iald F hI hkm hkc g22 dX7_tickOnce_92 ?_
      refine lv_topi (fun x23 e24 => ?_)
      have h := x_let_at h e24
      refine lv_istore (lv' := [(4, .int x23), (3, .int x20), (0, .ref (X.2.2 11 kr)), (1, .int y1), (2, .int y2)]) hx hb dX7_tickOnce_93 hl (by decide) rfl (fun ls hl => ?_)
      refine lv_aload_n hx hb dX7_tickOnce_95 rfl (lv_at hl 2 rfl) ?_
      refine lv_iload_n hx hb dX7_tickOnce_96 rfl (lv_at hl 4 rfl) ?_
      obtain ⟨r25, h26, h⟩ := x_bnd h
      refine x_aci hI (x_runS (rest := []) F hI (mX7_doing l X σ u kr hkm hkc _ v y2 r25 h26) g_X7_60 hd_X7_doing ⟨by decide, by decide⟩ ⟨rfl, rfl⟩ rfl hl.1 rfl (Nat.le_of_ble_eq_true rfl) dX7_tickOnce_97 ⟨Nat.zero_le _, Nat.zero_le _⟩) (fun H locs hI => ?_)
      refine lv_iconst (v := 3) hx hb dX7_tickOnce_100 (by decide) ?_
      refine lv_icmp_ne (tgt := 132) hx hb dX7_tickOnce_101 (by decide) (fun c27 => ?_) (fun c27 => ?_)
      · have h := x_iff h c27
        refine lv_aload_n hx hb dX7_tickOnce_132 rfl (lv_at hl 2 rfl) ?_
        refine lv_iload_n hx hb dX7_tickOnce_133 rfl (lv_at hl 4 rfl) ?_
        obtain ⟨r55, h56, h⟩ := x_bnd h
        refine x_aci hI (x_runS (rest := []) F hI (mX7_doing l X σ u kr hkm hkc _ v y2 r55 h56) g_X7_60 hd_X7_doing ⟨by decide, by decide⟩ ⟨rfl, rfl⟩ rfl hl.1 rfl (Nat.le_of_ble_eq_true rfl) dX7_tickOnce_134 ⟨Nat.zero_le _, Nat.zero_le _⟩) (fun H locs hI => ?_)
        refine lv_iconst (v := 3) hx hb dX7_tickOnce_137 (by decide) ?_
        refine lv_icmp_ne (tgt := 166) hx hb dX7_tickOnce_138 (by decide) (fun c57 => ?_) (fun c57 => ?_)
        · have h := x_iff h c57
          obtain ⟨x70, e71⟩ : ∃ z : Int32, z = (y2 + (1 : Int32)) := ⟨_, rfl⟩
          have h := x_let_at h e71
          refine lv_iinc (v := x70) (lv' := [(2, .int x70), (4, .int x23), (3, .int x20), (0, .ref (X.2.2 11 kr)), (1, .int y1)]) hx hb dX7_tickOnce_166 hl (k := 4) rfl (by rw [e71]; rfl) (by decide) rfl (fun ls hl => ?_)
          refine lv_goto (tgt := 64) hx hb dX7_tickOnce_169 (by decide) ?_
          exact ih v y1 x70 _ _ _ h hI (lv_sub hl [3, 4, 0] rfl)
        · have h := x_ift h c57
          refine lv_iload_n hx hb dX7_tickOnce_141 rfl (lv_at hl 1 rfl) ?_
          refine lv_iload hx hb dX7_tickOnce_142 (lv_at hl 0 rfl) ?_
          refine lv_iconst (v := 2) hx hb dX7_tickOnce_144 (by decide) ?_
          refine lv_idiv hx hb dX7_tickOnce_145 (by decide) ?_
          refine lv_icmp_eq (tgt := 161) hx hb dX7_tickOnce_146 (by decide) (fun c58 => ?_) (fun c58 => ?_)
          · have h := x_ift h c58
            refine lv_aload_n hx hb dX7_tickOnce_161 rfl (lv_at hl 2 rfl) ?_
            refine lv_iload_n hx hb dX7_tickOnce_162 rfl (lv_at hl 4 rfl) ?_
            obtain ⟨r59, h60, h⟩ := x_bnd h
            refine x_acv hI (x_runS (rest := []) F hI (mX7_want l X σ u kr hkm hkc _ v y2 r59 h60) g_X7_70 hd_X7_want ⟨by decide, by decide⟩ ⟨rfl, rfl⟩ rfl hl.1 rfl (Nat.le_of_ble_eq_true rfl) dX7_tickOnce_163 ⟨Nat.zero_le _, Nat.zero_le _⟩) (fun H locs hI => ?_)
            obtain ⟨x61, e62⟩ : ∃ z : Int32, z = (y2 + (1 : Int32)) := ⟨_, rfl⟩
            have h := x_let_at h e62
            refine lv_iinc (v := x61) (lv' := [(2, .int x61), (4, .int x23), (3, .int x20), (0, .ref (X.2.2 11 kr)), (1, .int y1)]) hx hb dX7_tickOnce_166 hl (k := 4) rfl (by rw [e62]; rfl) (by decide) rfl (fun ls hl => ?_)
            refine lv_goto (tgt := 64) hx hb dX7_tickOnce_169 (by decide) ?_
            exact ih r59 y1 x61 _ _ _ h hI (lv_sub hl [3, 4, 0] rfl)
          · have h := x_iff h c58
            refine lv_iload_n hx hb dX7_tickOnce_149 rfl (lv_at hl 1 rfl) ?_
            refine lv_bipush (v := 7) hx hb dX7_tickOnce_150 (by decide) ?_
            refine lv_iload hx hb dX7_tickOnce_152 (lv_at hl 0 rfl) ?_
            refine lv_imul hx hb dX7_tickOnce_154 ?_
            refine lv_bipush (v := 8) hx hb dX7_tickOnce_155 (by decide) ?_
            refine lv_idiv hx hb dX7_tickOnce_157 (by decide) ?_
            refine lv_icmp_ne (tgt := 166) hx hb dX7_tickOnce_158 (by decide) (fun c63 => ?_) (fun c63 => ?_)
            · have h := x_iff h c63
              obtain ⟨x68, e69⟩ : ∃ z : Int32, z = (y2 + (1 : Int32)) := ⟨_, rfl⟩
              have h := x_let_at h e69
              refine lv_iinc (v := x68) (lv' := [(2, .int x68), (4, .int x23), (3, .int x20), (0, .ref (X.2.2 11 kr)), (1, .int y1)]) hx hb dX7_tickOnce_166 hl (k := 4) rfl (by rw [e69]; rfl) (by decide) rfl (fun ls hl => ?_)
              refine lv_goto (tgt := 64) hx hb dX7_tickOnce_169 (by decide) ?_
              exact ih v y1 x68 _ _ _ h hI (lv_sub hl [3, 4, 0] rfl)
            · have h := x_ift h c63
              refine lv_aload_n hx hb dX7_tickOnce_161 rfl (lv_at hl 2 rfl) ?_
              refine lv_iload_n hx hb dX7_tickOnce_162 rfl (lv_at hl 4 rfl) ?_
              obtain ⟨r64, h65, h⟩ := x_bnd h
              refine x_acv hI (x_runS (rest := []) F hI (mX7_want l X σ u kr hkm hkc _ v y2 r64 h65) g_X7_70 hd_X7_want ⟨by decide, by decide⟩ ⟨rfl, rfl⟩ rfl hl.1 rfl (Nat.le_of_ble_eq_true rfl) dX7_tickOnce_163 ⟨Nat.zero_le _, Nat.zero_le _⟩) (fun H locs hI => ?_)
              obtain ⟨x66, e67⟩ : ∃ z : Int32, z = (y2 + (1 : Int32)) := ⟨_, rfl⟩
              have h := x_let_at h e67
              refine lv_iinc (v := x66) (lv' := [(2, .int x66), (4, .int x23), (3, .int x20), (0, .ref (X.2.2 11 kr)), (1, .int y1)]) hx hb dX7_tickOnce_166 hl (k := 4) rfl (by rw [e67]; rfl) (by decide) rfl (fun ls hl => ?_)
              refine lv_goto (tgt := 64) hx hb dX7_tickOnce_169 (by decide) ?_
              exact ih r64 y1 x66 _ _ _ h hI (lv_sub hl [3, 4, 0] rfl)
      · have h := x_ift h c27
        refine lv_iload_n hx hb dX7_tickOnce_104 rfl (lv_at hl 1 rfl) ?_
        refine lv_iload hx hb dX7_tickOnce_105 (lv_at hl 0 rfl) ?_
        refine lv_icmp_lt (tgt := 132) hx hb dX7_tickOnce_107 (by decide) (fun c28 => ?_) (fun c28 => ?_)
        · have h := x_ift h c28
          refine lv_aload_n hx hb dX7_tickOnce_132 rfl (lv_at hl 2 rfl) ?_
          refine lv_iload_n hx hb dX7_tickOnce_133 rfl (lv_at hl 4 rfl) ?_
          obtain ⟨r29, h30, h⟩ := x_bnd h
          refine x_aci hI (x_runS (rest := []) F hI (mX7_doing l X σ u kr hkm hkc _ v y2 r29 h30) g_X7_60 hd_X7_doing ⟨by decide, by decide⟩ ⟨rfl, rfl⟩ rfl hl.1 rfl (Nat.le_of_ble_eq_true rfl) dX7_tickOnce_134 ⟨Nat.zero_le _, Nat.zero_le _⟩) (fun H locs hI => ?_)
          refine lv_iconst (v := 3) hx hb dX7_tickOnce_137 (by decide) ?_
          refine lv_icmp_ne (tgt := 166) hx hb dX7_tickOnce_138 (by decide) (fun c31 => ?_) (fun c31 => ?_)
          · have h := x_iff h c31
            obtain ⟨x44, e45⟩ : ∃ z : Int32, z = (y2 + (1 : Int32)) := ⟨_, rfl⟩
            have h := x_let_at h e45
            refine lv_iinc (v := x44) (lv' := [(2, .int x44), (4, .int x23), (3, .int x20), (0, .ref (X.2.2 11 kr)), (1, .int y1)]) hx hb dX7_tickOnce_166 hl (k := 4) rfl (by rw [e45]; rfl) (by decide) rfl (fun ls hl => ?_)
            refine lv_goto (tgt := 64) hx hb dX7_tickOnce_169 (by decide) ?_
            exact ih v y1 x44 _ _ _ h hI (lv_sub hl [3, 4, 0] rfl)
          · have h := x_ift h c31
            refine lv_iload_n hx hb dX7_tickOnce_141 rfl (lv_at hl 1 rfl) ?_
            refine lv_iload hx hb dX7_tickOnce_142 (lv_at hl 0 rfl) ?_
            refine lv_iconst (v := 2) hx hb dX7_tickOnce_144 (by decide) ?_
            refine lv_idiv hx hb dX7_tickOnce_145 (by decide) ?_
            refine lv_icmp_eq (tgt := 161) hx hb dX7_tickOnce_146 (by decide) (fun c32 => ?_) (fun c32 => ?_)
            · have h := x_ift h c32
              refine lv_aload_n hx hb dX7_tickOnce_161 rfl (lv_at hl 2 rfl) ?_
              refine lv_iload_n hx hb dX7_tickOnce_162 rfl (lv_at hl 4 rfl) ?_
              obtain ⟨r33, h34, h⟩ := x_bnd h
              refine x_acv hI (x_runS (rest := []) F hI (mX7_want l X σ u kr hkm hkc _ v y2 r33 h34) g_X7_70 hd_X7_want ⟨by decide, by decide⟩ ⟨rfl, rfl⟩ rfl hl.1 rfl (Nat.le_of_ble_eq_true rfl) dX7_tickOnce_163 ⟨Nat.zero_le _, Nat.zero_le _⟩) (fun H locs hI => ?_)
              obtain ⟨x35, e36⟩ : ∃ z : Int32, z = (y2 + (1 : Int32)) := ⟨_, rfl⟩
              have h := x_let_at h e36
              refine lv_iinc (v := x35) (lv' := [(2, .int x35), (4, .int x23), (3, .int x20), (0, .ref (X.2.2 11 kr)), (1, .int y1)]) hx hb dX7_tickOnce_166 hl (k := 4) rfl (by rw [e36]; rfl) (by decide) rfl (fun ls hl => ?_)
              refine lv_goto (tgt := 64) hx hb dX7_tickOnce_169 (by decide) ?_
              exact ih r33 y1 x35 _ _ _ h hI (lv_sub hl [3, 4, 0] rfl)
            · have h := x_iff h c32
              refine lv_iload_n hx hb dX7_tickOnce_149 rfl (lv_at hl 1 rfl) ?_
              refine lv_bipush (v := 7) hx hb dX7_tickOnce_150 (by decide) ?_
              refine lv_iload hx hb dX7_tickOnce_152 (lv_at hl 0 rfl) ?_
              refine lv_imul hx hb dX7_tickOnce_154 ?_
              refine lv_bipush (v := 8) hx hb dX7_tickOnce_155 (by decide) ?_
              refine lv_idiv hx hb dX7_tickOnce_157 (by decide) ?_
              refine lv_icmp_ne (tgt := 166) hx hb dX7_tickOnce_158 (by decide) (fun c37 => ?_) (fun c37 => ?_)
              · have h := x_iff h c37
                obtain ⟨x42, e43⟩ : ∃ z : Int32, z = (y2 + (1 : Int32)) := ⟨_, rfl⟩
                have h := x_let_at h e43
                refine lv_iinc (v := x42) (lv' := [(2, .int x42), (4, .int x23), (3, .int x20), (0, .ref (X.2.2 11 kr)), (1, .int y1)]) hx hb dX7_tickOnce_166 hl (k := 4) rfl (by rw [e43]; rfl) (by decide) rfl (fun ls hl => ?_)
                refine lv_goto (tgt := 64) hx hb dX7_tickOnce_169 (by decide) ?_
                exact ih v y1 x42 _ _ _ h hI (lv_sub hl [3, 4, 0] rfl)
              · have h := x_ift h c37
                refine lv_aload_n hx hb dX7_tickOnce_161 rfl (lv_at hl 2 rfl) ?_
                refine lv_iload_n hx hb dX7_tickOnce_162 rfl (lv_at hl 4 rfl) ?_
                obtain ⟨r38, h39, h⟩ := x_bnd h
                refine x_acv hI (x_runS (rest := []) F hI (mX7_want l X σ u kr hkm hkc _ v y2 r38 h39) g_X7_70 hd_X7_want ⟨by decide, by decide⟩ ⟨rfl, rfl⟩ rfl hl.1 rfl (Nat.le_of_ble_eq_true rfl) dX7_tickOnce_163 ⟨Nat.zero_le _, Nat.zero_le _⟩) (fun H locs hI => ?_)
                obtain ⟨x40, e41⟩ : ∃ z : Int32, z = (y2 + (1 : Int32)) := ⟨_, rfl⟩
                have h := x_let_at h e41
                refine lv_iinc (v := x40) (lv' := [(2, .int x40), (4, .int x23), (3, .int x20), (0, .ref (X.2.2 11 kr)), (1, .int y1)]) hx hb dX7_tickOnce_166 hl (k := 4) rfl (by rw [e41]; rfl) (by decide) rfl (fun ls hl => ?_)
                refine lv_goto (tgt := 64) hx hb dX7_tickOnce_169 (by decide) ?_
                exact ih r38 y1 x40 _ _ _ h hI (lv_sub hl [3, 4, 0] rfl)
        · have h := x_iff h c28
          refine lv_aload_n hx hb dX7_tickOnce_110 rfl (lv_at hl 2 rfl) ?_
          refine lv_bipush (v := 8) hx hb dX7_tickOnce_111 (by decide) ?_
          refine lv_iload_n hx hb dX7_tickOnce_113 rfl (lv_at hl 4 rfl) ?_
          refine lv_imul hx hb dX7_tickOnce_114 ?_
          refine lv_iconst (v := 0) hx hb dX7_tickOnce_115 (by decide) ?_
          obtain ⟨g48, h⟩ := x_chk h
          refine xv_iast F hI hkm hkc g48 dX7_tickOnce_116 (fun H locs u46 e47 hI => ?_)
          have h := x_let_at h e47
          refine lv_aload_n hx hb dX7_tickOnce_117 rfl (lv_at hl 2 rfl) ?_
          refine lv_sipush (v := 561) hx hb dX7_tickOnce_118 (by decide) ?_
          refine lv_dup2_11 hx hb dX7_tickOnce_121 rfl rfl ?_
          refine xv_iald F hI hkm hkc (by decide) dX7_tickOnce_122 ?_
          refine lv_iconst (v := 1) hx hb dX7_tickOnce_123 (by decide) ?_
          refine lv_iadd hx hb dX7_tickOnce_124 ?_
          refine xv_iast F hI hkm hkc (by decide) dX7_tickOnce_125 (fun H locs u49 e50 hI => ?_)
          have h := x_let_at h e50
          obtain ⟨x51, e52⟩ : ∃ z : Int32, z = (y1 + (1 : Int32)) := ⟨_, rfl⟩
          have h := x_let_at h e52
          refine lv_iinc (v := x51) (lv' := [(1, .int x51), (4, .int x23), (3, .int x20), (0, .ref (X.2.2 11 kr)), (2, .int y2)]) hx hb dX7_tickOnce_126 hl (k := 3) rfl (by rw [e52]; rfl) (by decide) rfl (fun ls hl => ?_)
          refine lv_goto (tgt := 166) hx hb dX7_tickOnce_129 (by decide) ?_
          obtain ⟨x53, e54⟩ : ∃ z : Int32, z = (y2 + (1 : Int32)) := ⟨_, rfl⟩
          have h := x_let_at h e54
          refine lv_iinc (v := x53) (lv' := [(2, .int x53), (1, .int x51), (4, .int x23), (3, .int x20), (0, .ref (X.2.2 11 kr))]) hx hb dX7_tickOnce_166 hl (k := 4) rfl (by rw [e54]; rfl) (by decide) rfl (fun ls hl => ?_)
          refine lv_goto (tgt := 64) hx hb dX7_tickOnce_169 (by decide) ?_
          exact ih u49 x51 x53 _ _ _ h hI (lv_sub hl [4, 1, 0] rfl)
def fX7_tickOnce_b13 : Nat → x_V → Int32 → Int32 → Option (Int32 × x_V)
  | 0, _, _, _ => none
  | n + 1, v, y1, y2 => (if (16 : Int32) ≤ y2 then fX7_tickOnce_b64 400 v y1 (0 : Int32) else (Option.bind (fX7_state v y2) fun r4 => (if r4 ≤ 0 then x_let (y2 + (1 : Int32)) fun x7 => fX7_tickOnce_b13 n v y1 x7 else (if x_in (((96 : Int32) + ((6 : Int32) * y2)) + (1 : Int32)) 570 then (if (v (Int32.toNatClampNeg (554 : Int32))) < (v (Int32.toNatClampNeg (((96 : Int32) + ((6 : Int32) * y2)) + (1 : Int32)))) then x_let (y2 + (1 : Int32)) fun x11 => fX7_tickOnce_b13 n v y1 x11 else (if x_in ((96 : Int32) + ((6 : Int32) * y2)) 570 then x_let (upd v (Int32.toNatClampNeg ((96 : Int32) + ((6 : Int32) * y2))) (0 : Int32)) fun u13 => x_let (y2 + (1 : Int32)) fun x16 => fX7_tickOnce_b13 n u13 y1 x16 else none)) else none))))
set_option maxHeartbeats 4000000 in
set_option maxRecDepth 100000 in
theorem wX7_tickOnce_b13 {p : Program} {l : Launch} {e : Env} {s : State} {m : MethodId} {args : Array Value} {below : List Frame} {meth : Method} {c : Code} {X : x_T} {σ : x_S} {r : (Int32 × x_V)} {u : x_H} {kr : Nat} (hkm : (11, kr) ∈ x_ids) (hkc : ∀ v : x_V, x_cell X 11 kr v = .inl (X.2.1 0, 570, .inl v)) (F : x_F p s m args meth c cX7_tickOnce 5 RX7 (some .int)) : ∀ (n : Nat) (v : x_V) (y1 : Int32) (y2 : Int32) (H : Heap) (locs : List Loc) (ls : Array Slot), fX7_tickOnce_b13 n v y1 y2 = some r → x_I X (x_sh σ 11 (x_hs u kr v)) s H locs → lv_has ls 5 [(0, .ref (X.2.2 11 kr)), (1, .int y1), (2, .int y2)] → W p l e rm_X7_tickOnce s m args below meth c H locs 0 0 (MQ below (x_Qi X r.1 (x_sh σ 11 (x_hs u kr r.2)) s.heap.size) args s 0 0 (x_A X s.heap.size)) (F0 m 13 ls []) := by
  have hx := F.1
  have hb := F.2.1
  have hml := F.2.2.1
  have hown := F.2.2.2.1
  have hts := F.2.2.2.2.1
  intro n
  induction n with
  | zero =>
    intro v y1 y2 H locs ls h
    rw [fX7_tickOnce_b13] at h
    cases h
  | succ n ih =>
    intro v y1 y2 H locs ls h hI hl
    rw [fX7_tickOnce_b13] at h
    refine lv_iload_n hx hb dX7_tickOnce_13 rfl (lv_at hl 2 rfl) ?_
    refine lv_bipush (v := 16) hx hb dX7_tickOnce_14 (by decide) ?_
    refine lv_icmp_ge (tgt := 62) hx hb dX7_tickOnce_16 (by decide) (fun c3 => ?_) (fun c3 => ?_)
    · have h := x_ift h c3
      refine lv_iconst (v := 0) hx hb dX7_tickOnce_62 (by decide) ?_
      refine lv_istore_n (lv' := [(2, .int (0)), (0, .ref (X.2.2 11 kr)), (1, .int y1)]) hx hb dX7_tickOnce_63 rfl hl (by decide) rfl (fun ls hl => ?_)
      exact wX7_tickOnce_b64 hkm hkc F 400 v y1 (0 : Int32) _ _ _ h hI (lv_sub hl [1, 2, 0] rfl)
    · have h := x_iff h c3
      refine lv_aload_n hx hb dX7_tickOnce_19 rfl (lv_at hl 0 rfl) ?_
      refine lv_iload_n hx hb dX7_tickOnce_20 rfl (lv_at hl 2 rfl) ?_
      obtain ⟨r4, h5, h⟩ := x_bnd h
      refine x_aci hI (x_runS (rest := []) F hI (mX7_state l X σ u kr hkm hkc _ v y2 r4 h5) g_X7_41 hd_X7_state ⟨by decide, by decide⟩ ⟨rfl, rfl⟩ rfl hl.1 rfl (Nat.le_of_ble_eq_true rfl) dX7_tickOnce_21 ⟨Nat.zero_le _, Nat.zero_le _⟩) (fun H locs hI => ?_)
      refine lv_if_le (tgt := 56) hx hb dX7_tickOnce_24 (by decide) (fun c6 => ?_) (fun c6 => ?_)
      · have h := x_ift h c6
        obtain ⟨x7, e8⟩ : ∃ z : Int32, z = (y2 + (1 : Int32)) := ⟨_, rfl⟩
        have h := x_let_at h e8
        refine lv_iinc (v := x7) (lv' := [(2, .int x7), (0, .ref (X.2.2 11 kr)), (1, .int y1)]) hx hb dX7_tickOnce_56 hl (k := 2) rfl (by rw [e8]; rfl) (by decide) rfl (fun ls hl => ?_)
        refine lv_goto (tgt := 13) hx hb dX7_tickOnce_59 (by decide) ?_
        exact ih v y1 x7 _ _ _ h hI (lv_sub hl [1, 2, 0] rfl)
      · have h := x_iff h c6
        refine lv_aload_n hx hb dX7_tickOnce_27 rfl (lv_at hl 0 rfl) ?_
        refine lv_bipush (v := 96) hx hb dX7_tickOnce_28 (by decide) ?_
        refine lv_bipush (v := 6) hx hb dX7_tickOnce_30 (by decide) ?_
        refine lv_iload_n hx hb dX7_tickOnce_32 rfl (lv_at hl 2 rfl) ?_
        refine lv_imul hx hb dX7_tickOnce_33 ?_
        refine lv_iadd hx hb dX7_tickOnce_34 ?_
        refine lv_iconst (v := 1) hx hb dX7_tickOnce_35 (by decide) ?_
        refine lv_iadd hx hb dX7_tickOnce_36 ?_
        obtain ⟨g9, h⟩ := x_chk h
        refine xv_iald F hI hkm hkc g9 dX7_tickOnce_37 ?_
        refine lv_aload_n hx hb dX7_tickOnce_38 rfl (lv_at hl 0 rfl) ?_
        refine lv_sipush (v := 554) hx hb dX7_tickOnce_39 (by decide) ?_
        refine xv_iald F hI hkm hkc (by decide) dX7_tickOnce_42 ?_
        refine lv_icmp_gt (tgt := 56) hx hb dX7_tickOnce_43 (by decide) (fun c10 => ?_) (fun c10 => ?_)
        · have h := x_ift h c10
          obtain ⟨x11, e12⟩ : ∃ z : Int32, z = (y2 + (1 : Int32)) := ⟨_, rfl⟩
          have h := x_let_at h e12
          refine lv_iinc (v := x11) (lv' := [(2, .int x11), (0, .ref (X.2.2 11 kr)), (1, .int y1)]) hx hb dX7_tickOnce_56 hl (k := 2) rfl (by rw [e12]; rfl) (by decide) rfl (fun ls hl => ?_)
          refine lv_goto (tgt := 13) hx hb dX7_tickOnce_59 (by decide) ?_
          exact ih v y1 x11 _ _ _ h hI (lv_sub hl [1, 2, 0] rfl)
        · have h := x_iff h c10
          refine lv_aload_n hx hb dX7_tickOnce_46 rfl (lv_at hl 0 rfl) ?_
          refine lv_bipush (v := 96) hx hb dX7_tickOnce_47 (by decide) ?_
          refine lv_bipush (v := 6) hx hb dX7_tickOnce_49 (by decide) ?_
          refine lv_iload_n hx hb dX7_tickOnce_51 rfl (lv_at hl 2 rfl) ?_
          refine lv_imul hx hb dX7_tickOnce_52 ?_
          refine lv_iadd hx hb dX7_tickOnce_53 ?_
          refine lv_iconst (v := 0) hx hb dX7_tickOnce_54 (by decide) ?_
          obtain ⟨g15, h⟩ := x_chk h
          refine xv_iast F hI hkm hkc g15 dX7_tickOnce_55 (fun H locs u13 e14 hI => ?_)
          have h := x_let_at h e14
          obtain ⟨x16, e17⟩ : ∃ z : Int32, z = (y2 + (1 : Int32)) := ⟨_, rfl⟩
          have h := x_let_at h e17
          refine lv_iinc (v := x16) (lv' := [(2, .int x16), (0, .ref (X.2.2 11 kr)), (1, .int y1)]) hx hb dX7_tickOnce_56 hl (k := 2) rfl (by rw [e17]; rfl) (by decide) rfl (fun ls hl => ?_)
          refine lv_goto (tgt := 13) hx hb dX7_tickOnce_59 (by decide) ?_
          exact ih u13 y1 x16 _ _ _ h hI (lv_sub hl [1, 2, 0] rfl)
def fX7_tickOnce (v : x_V) : Option (Int32 × x_V) := x_let (upd v (Int32.toNatClampNeg (554 : Int32)) ((v (Int32.toNatClampNeg (554 : Int32))) + (1 : Int32))) fun u1 => fX7_tickOnce_b13 400 u1 (0 : Int32) (0 : Int32)
set_option maxHeartbeats 4000000 in
set_option maxRecDepth 100000 in
theorem mX7_tickOnce (l : Launch) (X : x_T) (σ : x_S) (u : x_H) (kr : Nat) (hkm : (11, kr) ∈ x_ids) (hkc : ∀ v : x_V, x_cell X 11 kr v = .inl (X.2.1 0, 570, .inl v)) (sz : Nat) (v : x_V) (r : (Int32 × x_V)) (h : fX7_tickOnce v  = some r) : Met l yX7_tickOnce (x_ws yX7_tickOnce cX7_tickOnce 5 (some .int)) rm_X7_tickOnce (x_Pc X (x_sh σ 11 (x_hs u kr v)) sz [.ref (X.2.2 11 kr)]) (x_Qi X r.1 (x_sh σ 11 (x_hs u kr r.2)) sz) 0 0 (x_A X sz) := by
  refine Met.ofW (cc := cX7_tickOnce) (maxL := 5) (ret := (some .int)) (by decide) rfl ?_
  intro p e s m args below meth c s₁ B hml hv
  obtain ⟨F, hI, rfl, rfl⟩ := x_begin B hml hv
  replace F : x_F p s m _ meth c cX7_tickOnce 5 RX7 (some .int) := F
  have hx := F.1
  have hb := F.2.1
  have hml := F.2.2.1
  have hown := F.2.2.2.1
  have hts := F.2.2.2.2.1
  refine x_entry (vs := [.ref (X.2.2 11 kr)]) (n := 5) (Nat.le_of_ble_eq_true rfl) (fun ls hl => ?_)
  replace hl : lv_has ls 5 [(0, .ref (X.2.2 11 kr))] := hl
  unfold fX7_tickOnce at h
  refine lv_iconst (v := 0) hx hb dX7_tickOnce_0 (by decide) ?_
  refine lv_istore_n (lv' := [(1, .int (0)), (0, .ref (X.2.2 11 kr))]) hx hb dX7_tickOnce_1 rfl hl (by decide) rfl (fun ls hl => ?_)
  refine lv_aload_n hx hb dX7_tickOnce_2 rfl (lv_at hl 1 rfl) ?_
  refine lv_sipush (v := 554) hx hb dX7_tickOnce_3 (by decide) ?_
  refine lv_dup2_11 hx hb dX7_tickOnce_6 rfl rfl ?_
  refine xv_iald F hI hkm hkc (by decide) dX7_tickOnce_7 ?_
  refine lv_iconst (v := 1) hx hb dX7_tickOnce_8 (by decide) ?_
  refine lv_iadd hx hb dX7_tickOnce_9 ?_
  refine xv_iast F hI hkm hkc (by decide) dX7_tickOnce_10 (fun H locs u1 e2 hI => ?_)
  have h := x_let_at h e2
  refine lv_iconst (v := 0) hx hb dX7_tickOnce_11 (by decide) ?_
  refine lv_istore_n (lv' := [(2, .int (0)), (1, .int (0)), (0, .ref (X.2.2 11 kr))]) hx hb dX7_tickOnce_12 rfl hl (by decide) rfl (fun ls hl => ?_)
  exact wX7_tickOnce_b13 hkm hkc F 400 u1 (0 : Int32) (0 : Int32) _ _ _ h hI (lv_sub hl [2, 1, 0] rfl)
abbrev rm_X7_goTicks : Room := { frames := 3, cells := 0, slots := 0, locals := 71 }
def fX7_goTicks_b4 : Nat → x_V → Int32 → Int32 → Int32 → Option (Int32 × x_V)
  | 0, _, _, _, _ => none
  | n + 1, v, y1, y2, y3 => (if y1 ≤ y3 then some (y2, v) else (Option.bind (fX7_tickOnce v ) fun r2 => x_let (y2 + r2.1) fun x4 => x_let (y3 + (1 : Int32)) fun x6 => fX7_goTicks_b4 n r2.2 y1 x4 x6))
set_option maxHeartbeats 4000000 in
set_option maxRecDepth 100000 in
theorem wX7_goTicks_b4 {p : Program} {l : Launch} {e : Env} {s : State} {m : MethodId} {args : Array Value} {below : List Frame} {meth : Method} {c : Code} {X : x_T} {σ : x_S} {r : (Int32 × x_V)} {u : x_H} {kr : Nat} (hkm : (11, kr) ∈ x_ids) (hkc : ∀ v : x_V, x_cell X 11 kr v = .inl (X.2.1 0, 570, .inl v)) (F : x_F p s m args meth c cX7_goTicks 4 RX7 (some .int)) : ∀ (n : Nat) (v : x_V) (y1 : Int32) (y2 : Int32) (y3 : Int32) (H : Heap) (locs : List Loc) (ls : Array Slot), fX7_goTicks_b4 n v y1 y2 y3 = some r → x_I X (x_sh σ 11 (x_hs u kr v)) s H locs → lv_has ls 4 [(0, .ref (X.2.2 11 kr)), (1, .int y1), (2, .int y2), (3, .int y3)] → W p l e rm_X7_goTicks s m args below meth c H locs 0 0 (MQ below (x_Qi X r.1 (x_sh σ 11 (x_hs u kr r.2)) s.heap.size) args s 0 0 (x_A X s.heap.size)) (F0 m 4 ls []) := by
  have hx := F.1
  have hb := F.2.1
  have hml := F.2.2.1
  have hown := F.2.2.2.1
  have hts := F.2.2.2.2.1
  intro n
  induction n with
  | zero =>
    intro v y1 y2 y3 H locs ls h
    rw [fX7_goTicks_b4] at h
    cases h
  | succ n ih =>
    intro v y1 y2 y3 H locs ls h hI hl
    rw [fX7_goTicks_b4] at h
    refine lv_iload_n hx hb dX7_goTicks_4 rfl (lv_at hl 3 rfl) ?_
    refine lv_iload_n hx hb dX7_goTicks_5 rfl (lv_at hl 1 rfl) ?_
    refine lv_icmp_ge (tgt := 22) hx hb dX7_goTicks_6 (by decide) (fun c1 => ?_) (fun c1 => ?_)
    · have h := x_ift h c1
      refine lv_iload_n hx hb dX7_goTicks_22 rfl (lv_at hl 2 rfl) ?_
      rw [x_some h]
      exact x_iret F hI dX7_goTicks_23
    · have h := x_iff h c1
      refine lv_iload_n hx hb dX7_goTicks_9 rfl (lv_at hl 2 rfl) ?_
      refine lv_aload_n hx hb dX7_goTicks_10 rfl (lv_at hl 0 rfl) ?_
      obtain ⟨r2, h3, h⟩ := x_bnd h
      refine x_aci hI (x_runS (rest := [.int y2]) F hI (mX7_tickOnce l X σ u kr hkm hkc _ v  r2 h3) g_X7_86 hd_X7_tickOnce ⟨by decide, by decide⟩ ⟨rfl, rfl⟩ rfl hl.1 rfl (Nat.le_of_ble_eq_true rfl) dX7_goTicks_11 ⟨Nat.zero_le _, Nat.zero_le _⟩) (fun H locs hI => ?_)
      refine lv_iadd hx hb dX7_goTicks_14 ?_
      refine lv_topi (fun x4 e5 => ?_)
      have h := x_let_at h e5
      refine lv_istore_n (lv' := [(2, .int x4), (0, .ref (X.2.2 11 kr)), (1, .int y1), (3, .int y3)]) hx hb dX7_goTicks_15 rfl hl (by decide) rfl (fun ls hl => ?_)
      obtain ⟨x6, e7⟩ : ∃ z : Int32, z = (y3 + (1 : Int32)) := ⟨_, rfl⟩
      have h := x_let_at h e7
      refine lv_iinc (v := x6) (lv' := [(3, .int x6), (2, .int x4), (0, .ref (X.2.2 11 kr)), (1, .int y1)]) hx hb dX7_goTicks_16 hl (k := 3) rfl (by rw [e7]; rfl) (by decide) rfl (fun ls hl => ?_)
      refine lv_goto (tgt := 4) hx hb dX7_goTicks_19 (by decide) ?_
      exact ih r2.2 y1 x4 x6 _ _ _ h hI (lv_sub hl [2, 3, 1, 0] rfl)
def fX7_goTicks (v : x_V) (a1 : Int32) : Option (Int32 × x_V) := fX7_goTicks_b4 400 v a1 (0 : Int32) (0 : Int32)
set_option maxHeartbeats 4000000 in
set_option maxRecDepth 100000 in
theorem mX7_goTicks (l : Launch) (X : x_T) (σ : x_S) (u : x_H) (kr : Nat) (hkm : (11, kr) ∈ x_ids) (hkc : ∀ v : x_V, x_cell X 11 kr v = .inl (X.2.1 0, 570, .inl v)) (sz : Nat) (v : x_V) (a1 : Int32) (r : (Int32 × x_V)) (h : fX7_goTicks v a1 = some r) : Met l yX7_goTicks (x_ws yX7_goTicks cX7_goTicks 4 (some .int)) rm_X7_goTicks (x_Pc X (x_sh σ 11 (x_hs u kr v)) sz [.ref (X.2.2 11 kr), .int a1]) (x_Qi X r.1 (x_sh σ 11 (x_hs u kr r.2)) sz) 0 0 (x_A X sz) := by
  refine Met.ofW (cc := cX7_goTicks) (maxL := 4) (ret := (some .int)) (by decide) rfl ?_
  intro p e s m args below meth c s₁ B hml hv
  obtain ⟨F, hI, rfl, rfl⟩ := x_begin B hml hv
  replace F : x_F p s m _ meth c cX7_goTicks 4 RX7 (some .int) := F
  have hx := F.1
  have hb := F.2.1
  have hml := F.2.2.1
  have hown := F.2.2.2.1
  have hts := F.2.2.2.2.1
  refine x_entry (vs := [.ref (X.2.2 11 kr), .int a1]) (n := 4) (Nat.le_of_ble_eq_true rfl) (fun ls hl => ?_)
  replace hl : lv_has ls 4 [(0, .ref (X.2.2 11 kr)), (1, .int a1)] := hl
  unfold fX7_goTicks at h
  refine lv_iconst (v := 0) hx hb dX7_goTicks_0 (by decide) ?_
  refine lv_istore_n (lv' := [(2, .int (0)), (0, .ref (X.2.2 11 kr)), (1, .int a1)]) hx hb dX7_goTicks_1 rfl hl (by decide) rfl (fun ls hl => ?_)
  refine lv_iconst (v := 0) hx hb dX7_goTicks_2 (by decide) ?_
  refine lv_istore_n (lv' := [(3, .int (0)), (2, .int (0)), (0, .ref (X.2.2 11 kr)), (1, .int a1)]) hx hb dX7_goTicks_3 rfl hl (by decide) rfl (fun ls hl => ?_)
  exact wX7_goTicks_b4 hkm hkc F 400 v a1 (0 : Int32) (0 : Int32) _ _ _ h hI (lv_sub hl [2, 3, 1, 0] rfl)
abbrev rm_X7_goSeek : Room := { frames := 1, cells := 0, slots := 0, locals := 26 }
def fX7_goSeek (v : x_V) (a1 : Int32) : Option (Int32 × x_V) := (if x_in ((8 : Int32) * a1) 570 then x_let (upd v (Int32.toNatClampNeg ((8 : Int32) * a1)) (1 : Int32)) fun u1 => (Option.bind (fX7_post u1 (0 : Int32) a1 (0 : Int32) (0 : Int32) (0 : Int32)) fun r4 => some ((r4.2 (Int32.toNatClampNeg (552 : Int32))), r4.2)) else none)
set_option maxHeartbeats 4000000 in
set_option maxRecDepth 100000 in
theorem mX7_goSeek (l : Launch) (X : x_T) (σ : x_S) (u : x_H) (kr : Nat) (hkm : (11, kr) ∈ x_ids) (hkc : ∀ v : x_V, x_cell X 11 kr v = .inl (X.2.1 0, 570, .inl v)) (sz : Nat) (v : x_V) (a1 : Int32) (r : (Int32 × x_V)) (h : fX7_goSeek v a1 = some r) : Met l yX7_goSeek (x_ws yX7_goSeek cX7_goSeek 3 (some .int)) rm_X7_goSeek (x_Pc X (x_sh σ 11 (x_hs u kr v)) sz [.ref (X.2.2 11 kr), .int a1]) (x_Qi X r.1 (x_sh σ 11 (x_hs u kr r.2)) sz) 0 0 (x_A X sz) := by
  refine Met.ofW (cc := cX7_goSeek) (maxL := 3) (ret := (some .int)) (by decide) rfl ?_
  intro p e s m args below meth c s₁ B hml hv
  obtain ⟨F, hI, rfl, rfl⟩ := x_begin B hml hv
  replace F : x_F p s m _ meth c cX7_goSeek 3 RX7 (some .int) := F
  have hx := F.1
  have hb := F.2.1
  have hml := F.2.2.1
  have hown := F.2.2.2.1
  have hts := F.2.2.2.2.1
  refine x_entry (vs := [.ref (X.2.2 11 kr), .int a1]) (n := 3) (Nat.le_of_ble_eq_true rfl) (fun ls hl => ?_)
  replace hl : lv_has ls 3 [(0, .ref (X.2.2 11 kr)), (1, .int a1)] := hl
  unfold fX7_goSeek at h
  refine lv_aload_n hx hb dX7_goSeek_0 rfl (lv_at hl 0 rfl) ?_
  refine lv_bipush (v := 8) hx hb dX7_goSeek_1 (by decide) ?_
  refine lv_iload_n hx hb dX7_goSeek_3 rfl (lv_at hl 1 rfl) ?_
  refine lv_imul hx hb dX7_goSeek_4 ?_
  refine lv_iconst (v := 1) hx hb dX7_goSeek_5 (by decide) ?_
  obtain ⟨g3, h⟩ := x_chk h
  refine xv_iast F hI hkm hkc g3 dX7_goSeek_6 (fun H locs u1 e2 hI => ?_)
  have h := x_let_at h e2
  refine lv_aload_n hx hb dX7_goSeek_7 rfl (lv_at hl 0 rfl) ?_
  refine lv_iconst (v := 0) hx hb dX7_goSeek_8 (by decide) ?_
  refine lv_iload_n hx hb dX7_goSeek_9 rfl (lv_at hl 1 rfl) ?_
  refine lv_iconst (v := 0) hx hb dX7_goSeek_10 (by decide) ?_
  refine lv_iconst (v := 0) hx hb dX7_goSeek_11 (by decide) ?_
  refine lv_iconst (v := 0) hx hb dX7_goSeek_12 (by decide) ?_
  obtain ⟨r4, h5, h⟩ := x_bnd h
  refine x_aci hI (x_runS (rest := []) F hI (mX7_post l X σ u kr hkm hkc _ u1 (0 : Int32) a1 (0 : Int32) (0 : Int32) (0 : Int32) r4 h5) g_X7_45 hd_X7_post ⟨by decide, by decide⟩ ⟨rfl, rfl⟩ rfl hl.1 rfl (Nat.le_of_ble_eq_true rfl) dX7_goSeek_13 ⟨Nat.zero_le _, Nat.zero_le _⟩) (fun H locs hI => ?_)
  refine lv_istore_n (lv' := [(2, .int r4.1), (0, .ref (X.2.2 11 kr)), (1, .int a1)]) hx hb dX7_goSeek_16 rfl hl (by decide) rfl (fun ls hl => ?_)
  refine lv_aload_n hx hb dX7_goSeek_17 rfl (lv_at hl 1 rfl) ?_
  refine lv_sipush (v := 552) hx hb dX7_goSeek_18 (by decide) ?_
  refine xv_iald F hI hkm hkc (by decide) dX7_goSeek_21 ?_
  rw [x_some h]
  exact x_iret F hI dX7_goSeek_22
abbrev rm_X7_goLeave : Room := { frames := 1, cells := 0, slots := 0, locals := 26 }
def fX7_goLeave (v : x_V) (a1 : Int32) : Option (Int32 × x_V) := (if x_in (((8 : Int32) * a1) + (1 : Int32)) 570 then (Option.bind (fX7_post v (6 : Int32) a1 (v (Int32.toNatClampNeg (((8 : Int32) * a1) + (1 : Int32)))) (0 : Int32) (0 : Int32)) fun r2 => (if x_in ((8 : Int32) * a1) 570 then x_let (upd r2.2 (Int32.toNatClampNeg ((8 : Int32) * a1)) (0 : Int32)) fun u4 => some ((u4 (Int32.toNatClampNeg (((8 : Int32) * a1) + (1 : Int32)))), u4) else none)) else none)
set_option maxHeartbeats 4000000 in
set_option maxRecDepth 100000 in
theorem mX7_goLeave (l : Launch) (X : x_T) (σ : x_S) (u : x_H) (kr : Nat) (hkm : (11, kr) ∈ x_ids) (hkc : ∀ v : x_V, x_cell X 11 kr v = .inl (X.2.1 0, 570, .inl v)) (sz : Nat) (v : x_V) (a1 : Int32) (r : (Int32 × x_V)) (h : fX7_goLeave v a1 = some r) : Met l yX7_goLeave (x_ws yX7_goLeave cX7_goLeave 3 (some .int)) rm_X7_goLeave (x_Pc X (x_sh σ 11 (x_hs u kr v)) sz [.ref (X.2.2 11 kr), .int a1]) (x_Qi X r.1 (x_sh σ 11 (x_hs u kr r.2)) sz) 0 0 (x_A X sz) := by
  refine Met.ofW (cc := cX7_goLeave) (maxL := 3) (ret := (some .int)) (by decide) rfl ?_
  intro p e s m args below meth c s₁ B hml hv
  obtain ⟨F, hI, rfl, rfl⟩ := x_begin B hml hv
  replace F : x_F p s m _ meth c cX7_goLeave 3 RX7 (some .int) := F
  have hx := F.1
  have hb := F.2.1
  have hml := F.2.2.1
  have hown := F.2.2.2.1
  have hts := F.2.2.2.2.1
  refine x_entry (vs := [.ref (X.2.2 11 kr), .int a1]) (n := 3) (Nat.le_of_ble_eq_true rfl) (fun ls hl => ?_)
  replace hl : lv_has ls 3 [(0, .ref (X.2.2 11 kr)), (1, .int a1)] := hl
  unfold fX7_goLeave at h
  refine lv_aload_n hx hb dX7_goLeave_0 rfl (lv_at hl 0 rfl) ?_
  refine lv_bipush (v := 6) hx hb dX7_goLeave_1 (by decide) ?_
  refine lv_iload_n hx hb dX7_goLeave_3 rfl (lv_at hl 1 rfl) ?_
  refine lv_aload_n hx hb dX7_goLeave_4 rfl (lv_at hl 0 rfl) ?_
  refine lv_bipush (v := 8) hx hb dX7_goLeave_5 (by decide) ?_
  refine lv_iload_n hx hb dX7_goLeave_7 rfl (lv_at hl 1 rfl) ?_
  refine lv_imul hx hb dX7_goLeave_8 ?_
  refine lv_iconst (v := 1) hx hb dX7_goLeave_9 (by decide) ?_
  refine lv_iadd hx hb dX7_goLeave_10 ?_
  obtain ⟨g1, h⟩ := x_chk h
  refine xv_iald F hI hkm hkc g1 dX7_goLeave_11 ?_
  refine lv_iconst (v := 0) hx hb dX7_goLeave_12 (by decide) ?_
  refine lv_iconst (v := 0) hx hb dX7_goLeave_13 (by decide) ?_
  obtain ⟨r2, h3, h⟩ := x_bnd h
  refine x_aci hI (x_runS (rest := []) F hI (mX7_post l X σ u kr hkm hkc _ v (6 : Int32) a1 (v (Int32.toNatClampNeg (((8 : Int32) * a1) + (1 : Int32)))) (0 : Int32) (0 : Int32) r2 h3) g_X7_45 hd_X7_post ⟨by decide, by decide⟩ ⟨rfl, rfl⟩ rfl hl.1 rfl (Nat.le_of_ble_eq_true rfl) dX7_goLeave_14 ⟨Nat.zero_le _, Nat.zero_le _⟩) (fun H locs hI => ?_)
  refine lv_istore_n (lv' := [(2, .int r2.1), (0, .ref (X.2.2 11 kr)), (1, .int a1)]) hx hb dX7_goLeave_17 rfl hl (by decide) rfl (fun ls hl => ?_)
  refine lv_aload_n hx hb dX7_goLeave_18 rfl (lv_at hl 1 rfl) ?_
  refine lv_bipush (v := 8) hx hb dX7_goLeave_19 (by decide) ?_
  refine lv_iload_n hx hb dX7_goLeave_21 rfl (lv_at hl 2 rfl) ?_
  refine lv_imul hx hb dX7_goLeave_22 ?_
  refine lv_iconst (v := 0) hx hb dX7_goLeave_23 (by decide) ?_
  obtain ⟨g6, h⟩ := x_chk h
  refine xv_iast F hI hkm hkc g6 dX7_goLeave_24 (fun H locs u4 e5 hI => ?_)
  have h := x_let_at h e5
  refine lv_aload_n hx hb dX7_goLeave_25 rfl (lv_at hl 1 rfl) ?_
  refine lv_bipush (v := 8) hx hb dX7_goLeave_26 (by decide) ?_
  refine lv_iload_n hx hb dX7_goLeave_28 rfl (lv_at hl 2 rfl) ?_
  refine lv_imul hx hb dX7_goLeave_29 ?_
  refine lv_iconst (v := 1) hx hb dX7_goLeave_30 (by decide) ?_
  refine lv_iadd hx hb dX7_goLeave_31 ?_
  refine xv_iald F hI hkm hkc g1 dX7_goLeave_32 ?_
  rw [x_some h]
  exact x_iret F hI dX7_goLeave_33
abbrev rm_X7_inRooms : Room := { frames := 1, cells := 0, slots := 0, locals := 21 }
def fX7_inRooms_b4 : Nat → x_V → Int32 → Int32 → Option Int32
  | 0, _, _, _ => none
  | n + 1, v, y1, y2 => (if (12 : Int32) ≤ y2 then some (y1) else (Option.bind (fX7_doing v y2) fun r2 => (if r2 = (3 : Int32) then x_let (y1 + (1 : Int32)) fun x5 => x_let (y2 + (1 : Int32)) fun x7 => fX7_inRooms_b4 n v x5 x7 else x_let (y1 + (0 : Int32)) fun x9 => x_let (y2 + (1 : Int32)) fun x11 => fX7_inRooms_b4 n v x9 x11)))
set_option maxHeartbeats 4000000 in
set_option maxRecDepth 100000 in
theorem wX7_inRooms_b4 {p : Program} {l : Launch} {e : Env} {s : State} {m : MethodId} {args : Array Value} {below : List Frame} {meth : Method} {c : Code} {X : x_T} {σ : x_S} {r : Int32} {u : x_H} {kr : Nat} (hkm : (11, kr) ∈ x_ids) (hkc : ∀ v : x_V, x_cell X 11 kr v = .inl (X.2.1 0, 570, .inl v)) (F : x_F p s m args meth c cX7_inRooms 3 RX7 (some .int)) : ∀ (n : Nat) (v : x_V) (y1 : Int32) (y2 : Int32) (H : Heap) (locs : List Loc) (ls : Array Slot), fX7_inRooms_b4 n v y1 y2 = some r → x_I X (x_sh σ 11 (x_hs u kr v)) s H locs → lv_has ls 3 [(0, .ref (X.2.2 11 kr)), (1, .int y1), (2, .int y2)] → W p l e rm_X7_inRooms s m args below meth c H locs 0 0 (MQ below (x_Qi X r (x_sh σ 11 (x_hs u kr v)) s.heap.size) args s 0 0 (x_A X s.heap.size)) (F0 m 4 ls []) := by
  have hx := F.1
  have hb := F.2.1
  have hml := F.2.2.1
  have hown := F.2.2.2.1
  have hts := F.2.2.2.2.1
  intro n
  induction n with
  | zero =>
    intro v y1 y2 H locs ls h
    rw [fX7_inRooms_b4] at h
    cases h
  | succ n ih =>
    intro v y1 y2 H locs ls h hI hl
    rw [fX7_inRooms_b4] at h
    refine lv_iload_n hx hb dX7_inRooms_4 rfl (lv_at hl 2 rfl) ?_
    refine lv_bipush (v := 12) hx hb dX7_inRooms_5 (by decide) ?_
    refine lv_icmp_ge (tgt := 33) hx hb dX7_inRooms_7 (by decide) (fun c1 => ?_) (fun c1 => ?_)
    · have h := x_ift h c1
      refine lv_iload_n hx hb dX7_inRooms_33 rfl (lv_at hl 1 rfl) ?_
      rw [x_some h]
      exact x_iret F hI dX7_inRooms_34
    · have h := x_iff h c1
      refine lv_iload_n hx hb dX7_inRooms_10 rfl (lv_at hl 1 rfl) ?_
      refine lv_aload_n hx hb dX7_inRooms_11 rfl (lv_at hl 0 rfl) ?_
      refine lv_iload_n hx hb dX7_inRooms_12 rfl (lv_at hl 2 rfl) ?_
      obtain ⟨r2, h3, h⟩ := x_bnd h
      refine x_aci hI (x_runS (rest := [.int y1]) F hI (mX7_doing l X σ u kr hkm hkc _ v y2 r2 h3) g_X7_60 hd_X7_doing ⟨by decide, by decide⟩ ⟨rfl, rfl⟩ rfl hl.1 rfl (Nat.le_of_ble_eq_true rfl) dX7_inRooms_13 ⟨Nat.zero_le _, Nat.zero_le _⟩) (fun H locs hI => ?_)
      refine lv_iconst (v := 3) hx hb dX7_inRooms_16 (by decide) ?_
      refine lv_icmp_ne (tgt := 24) hx hb dX7_inRooms_17 (by decide) (fun c4 => ?_) (fun c4 => ?_)
      · have h := x_iff h c4
        refine lv_iconst (v := 0) hx hb dX7_inRooms_24 (by decide) ?_
        refine lv_iadd hx hb dX7_inRooms_25 ?_
        refine lv_topi (fun x9 e10 => ?_)
        have h := x_let_at h e10
        refine lv_istore_n (lv' := [(1, .int x9), (0, .ref (X.2.2 11 kr)), (2, .int y2)]) hx hb dX7_inRooms_26 rfl hl (by decide) rfl (fun ls hl => ?_)
        obtain ⟨x11, e12⟩ : ∃ z : Int32, z = (y2 + (1 : Int32)) := ⟨_, rfl⟩
        have h := x_let_at h e12
        refine lv_iinc (v := x11) (lv' := [(2, .int x11), (1, .int x9), (0, .ref (X.2.2 11 kr))]) hx hb dX7_inRooms_27 hl (k := 2) rfl (by rw [e12]; rfl) (by decide) rfl (fun ls hl => ?_)
        refine lv_goto (tgt := 4) hx hb dX7_inRooms_30 (by decide) ?_
        exact ih v x9 x11 _ _ _ h hI (lv_sub hl [2, 1, 0] rfl)
      · have h := x_ift h c4
        refine lv_iconst (v := 1) hx hb dX7_inRooms_20 (by decide) ?_
        refine lv_goto (tgt := 25) hx hb dX7_inRooms_21 (by decide) ?_
        refine lv_iadd hx hb dX7_inRooms_25 ?_
        refine lv_topi (fun x5 e6 => ?_)
        have h := x_let_at h e6
        refine lv_istore_n (lv' := [(1, .int x5), (0, .ref (X.2.2 11 kr)), (2, .int y2)]) hx hb dX7_inRooms_26 rfl hl (by decide) rfl (fun ls hl => ?_)
        obtain ⟨x7, e8⟩ : ∃ z : Int32, z = (y2 + (1 : Int32)) := ⟨_, rfl⟩
        have h := x_let_at h e8
        refine lv_iinc (v := x7) (lv' := [(2, .int x7), (1, .int x5), (0, .ref (X.2.2 11 kr))]) hx hb dX7_inRooms_27 hl (k := 2) rfl (by rw [e8]; rfl) (by decide) rfl (fun ls hl => ?_)
        refine lv_goto (tgt := 4) hx hb dX7_inRooms_30 (by decide) ?_
        exact ih v x5 x7 _ _ _ h hI (lv_sub hl [2, 1, 0] rfl)
def fX7_inRooms (v : x_V) : Option Int32 := fX7_inRooms_b4 400 v (0 : Int32) (0 : Int32)
set_option maxHeartbeats 4000000 in
set_option maxRecDepth 100000 in
theorem mX7_inRooms (l : Launch) (X : x_T) (σ : x_S) (u : x_H) (kr : Nat) (hkm : (11, kr) ∈ x_ids) (hkc : ∀ v : x_V, x_cell X 11 kr v = .inl (X.2.1 0, 570, .inl v)) (sz : Nat) (v : x_V) (r : Int32) (h : fX7_inRooms v  = some r) : Met l yX7_inRooms (x_ws yX7_inRooms cX7_inRooms 3 (some .int)) rm_X7_inRooms (x_Pc X (x_sh σ 11 (x_hs u kr v)) sz [.ref (X.2.2 11 kr)]) (x_Qi X r (x_sh σ 11 (x_hs u kr v)) sz) 0 0 (x_A X sz) := by
  refine Met.ofW (cc := cX7_inRooms) (maxL := 3) (ret := (some .int)) (by decide) rfl ?_
  intro p e s m args below meth c s₁ B hml hv
  obtain ⟨F, hI, rfl, rfl⟩ := x_begin B hml hv
  replace F : x_F p s m _ meth c cX7_inRooms 3 RX7 (some .int) := F
  have hx := F.1
  have hb := F.2.1
  have hml := F.2.2.1
  have hown := F.2.2.2.1
  have hts := F.2.2.2.2.1
  refine x_entry (vs := [.ref (X.2.2 11 kr)]) (n := 3) (Nat.le_of_ble_eq_true rfl) (fun ls hl => ?_)
  replace hl : lv_has ls 3 [(0, .ref (X.2.2 11 kr))] := hl
  unfold fX7_inRooms at h
  refine lv_iconst (v := 0) hx hb dX7_inRooms_0 (by decide) ?_
  refine lv_istore_n (lv' := [(1, .int (0)), (0, .ref (X.2.2 11 kr))]) hx hb dX7_inRooms_1 rfl hl (by decide) rfl (fun ls hl => ?_)
  refine lv_iconst (v := 0) hx hb dX7_inRooms_2 (by decide) ?_
  refine lv_istore_n (lv' := [(2, .int (0)), (1, .int (0)), (0, .ref (X.2.2 11 kr))]) hx hb dX7_inRooms_3 rfl hl (by decide) rfl (fun ls hl => ?_)
  exact wX7_inRooms_b4 hkm hkc F 400 v (0 : Int32) (0 : Int32) _ _ _ h hI (lv_sub hl [2, 1, 0] rfl)
