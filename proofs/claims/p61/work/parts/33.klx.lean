abbrev rm_X6_requireGuest : Room := { frames := 1, cells := 0, slots := 0, locals := 20 }
def fX6_requireGuest (a1 : Int32) : Option Unit := (Option.bind (fX6_isGuest a1) fun r1 => (if r1 = 0 then none else some ()))
set_option maxHeartbeats 4000000 in
set_option maxRecDepth 100000 in
theorem mX6_requireGuest (l : Launch) (X : x_T) (σ : x_S) (sz : Nat) (a1 : Int32) (r : Unit) (h : fX6_requireGuest a1 = some r) : Met l yX6_requireGuest (x_ws yX6_requireGuest cX6_requireGuest 1 none) rm_X6_requireGuest (x_Pc X σ sz [.int a1]) (x_Qv X σ sz) 0 0 (x_A X sz) := by
  refine Met.ofW (cc := cX6_requireGuest) (maxL := 1) (ret := none) (by decide) rfl ?_
  intro p e s m args below meth c s₁ B hml hv
  obtain ⟨F, hI, rfl, rfl⟩ := x_begin B hml hv
  replace F : x_F p s m _ meth c cX6_requireGuest 1 RX6 none := F
  have hx := F.1
  have hb := F.2.1
  have hml := F.2.2.1
  have hown := F.2.2.2.1
  have hts := F.2.2.2.2.1
  refine x_entry (vs := [.int a1]) (n := 1) (Nat.le_of_ble_eq_true rfl) (fun ls hl => ?_)
  replace hl : lv_has ls 1 [(0, .int a1)] := hl
  unfold fX6_requireGuest at h
  refine lv_iload_n hx hb dX6_requireGuest_0 rfl (lv_at hl 0 rfl) ?_
  obtain ⟨r1, h2, h⟩ := x_bnd h
  refine x_aci hI (x_runS (rest := []) F hI (mX6_isGuest l X σ _ a1 r1 h2) g_X6_274 hd_X6_isGuest ⟨by decide, by decide⟩ ⟨rfl, rfl⟩ rfl hl.1 rfl (Nat.le_of_ble_eq_true rfl) dX6_requireGuest_1 ⟨Nat.zero_le _, Nat.zero_le _⟩) (fun H locs hI => ?_)
  refine lv_if_ne (tgt := 18) hx hb dX6_requireGuest_4 (by decide) (fun c3 => ?_) (fun c3 => ?_)
  · have h := x_iff h c3
    exact x_vret F hI dX6_requireGuest_18
  · have h := x_ift h c3
    cases h
abbrev rx_X6_requireGuest : Room := { frames := 6, cells := 1, slots := 6, locals := 82 }
def eX6_requireGuest (a1 : Int32) : Option Nat := (Option.bind (fX6_isGuest a1) fun r1 => (if r1 = 0 then some 0 else none))
set_option maxHeartbeats 4000000 in
set_option maxRecDepth 100000 in
theorem xX6_requireGuest (l : Launch) (hl0 : l.stackTraces = false) (X : x_T) (σ : x_S) (sz : Nat) (a1 : Int32) (r : Nat) (h : eX6_requireGuest a1 = some r) : vx_Met l yX6_requireGuest (x_ws yX6_requireGuest cX6_requireGuest 1 none) rx_X6_requireGuest (x_PcT X σ sz [.int a1]) (xt_Qv X sz) (xt_C X r σ sz) 1 6 (x_A X sz) := by
  refine vx_ofW (cc := cX6_requireGuest) (maxL := 1) (ret := none) (by decide) rfl ?_
  intro p e s m args below meth c s₁ B hml hnt hv
  obtain ⟨F, Z, hI, rfl, rfl⟩ := xt_begin hl0 B hml hnt hv
  replace F : x_F p s m _ meth c cX6_requireGuest 1 RX6 none := F
  have hx := F.1
  have hb := F.2.1
  have hml := F.2.2.1
  have hown := F.2.2.2.1
  have hts := F.2.2.2.2.1
  refine x_entry (vs := [.int a1]) (n := 1) (Nat.le_of_ble_eq_true rfl) (fun ls hl => ?_)
  replace hl : lv_has ls 1 [(0, .int a1)] := hl
  unfold eX6_requireGuest at h
  refine lv_iload_n hx hb dX6_requireGuest_0 rfl (lv_at hl 0 rfl) ?_
  obtain ⟨r1, h2, h⟩ := x_bnd h
  refine x_aci hI (x_runS (rest := []) F hI (mX6_isGuest l X σ _ a1 r1 h2) g_X6_274 hd_X6_isGuest ⟨by decide, by decide⟩ ⟨rfl, rfl⟩ rfl hl.1 rfl (Nat.le_of_ble_eq_true rfl) dX6_requireGuest_1 ⟨Nat.zero_le _, Nat.zero_le _⟩) (fun H locs hI => ?_)
  refine lv_if_ne (tgt := 18) hx hb dX6_requireGuest_4 (by decide) (fun c3 => ?_) (fun c3 => ?_)
  · have h := x_iff h c3
    cases h
  · have h := x_ift h c3
    rw [x_some h]
    exact xt_throwW (ex := 0) (is := 279) (text := "there is no such guest") F Z hI xt_ok0 (by decide +kernel) hl.1 ⟨by decide, by decide, by decide, by decide⟩ dX6_requireGuest_7 dX6_requireGuest_10 dX6_requireGuest_11 dX6_requireGuest_14 dX6_requireGuest_17
abbrev rm_X6_require : Room := { frames := 0, cells := 0, slots := 0, locals := 0 }
def fX6_require (a1 : Int32) : Option Unit := (if a1 = 0 then none else some ())
set_option maxHeartbeats 4000000 in
set_option maxRecDepth 100000 in
theorem mX6_require (l : Launch) (X : x_T) (σ : x_S) (sz : Nat) (a1 : Int32) (r : Unit) (h : fX6_require a1 = some r) : Met l yX6_require (x_ws yX6_require cX6_require 1 none) rm_X6_require (x_Pc X σ sz [.int a1]) (x_Qv X σ sz) 0 0 (x_A X sz) := by
  refine Met.ofW (cc := cX6_require) (maxL := 1) (ret := none) (by decide) rfl ?_
  intro p e s m args below meth c s₁ B hml hv
  obtain ⟨F, hI, rfl, rfl⟩ := x_begin B hml hv
  replace F : x_F p s m _ meth c cX6_require 1 RX6 none := F
  have hx := F.1
  have hb := F.2.1
  have hml := F.2.2.1
  have hown := F.2.2.2.1
  have hts := F.2.2.2.2.1
  refine x_entry (vs := [.int a1]) (n := 1) (Nat.le_of_ble_eq_true rfl) (fun ls hl => ?_)
  replace hl : lv_has ls 1 [(0, .int a1)] := hl
  unfold fX6_require at h
  refine lv_iload_n hx hb dX6_require_0 rfl (lv_at hl 0 rfl) ?_
  refine lv_if_ne (tgt := 15) hx hb dX6_require_1 (by decide) (fun c1 => ?_) (fun c1 => ?_)
  · have h := x_iff h c1
    exact x_vret F hI dX6_require_15
  · have h := x_ift h c1
    cases h
abbrev rx_X6_require : Room := { frames := 6, cells := 1, slots := 6, locals := 82 }
def eX6_require (a1 : Int32) : Option Nat := (if a1 = 0 then some 2 else none)
set_option maxHeartbeats 4000000 in
set_option maxRecDepth 100000 in
theorem xX6_require (l : Launch) (hl0 : l.stackTraces = false) (X : x_T) (σ : x_S) (sz : Nat) (a1 : Int32) (r : Nat) (h : eX6_require a1 = some r) : vx_Met l yX6_require (x_ws yX6_require cX6_require 1 none) rx_X6_require (x_PcT X σ sz [.int a1]) (xt_Qv X sz) (xt_C X r σ sz) 1 6 (x_A X sz) := by
  refine vx_ofW (cc := cX6_require) (maxL := 1) (ret := none) (by decide) rfl ?_
  intro p e s m args below meth c s₁ B hml hnt hv
  obtain ⟨F, Z, hI, rfl, rfl⟩ := xt_begin hl0 B hml hnt hv
  replace F : x_F p s m _ meth c cX6_require 1 RX6 none := F
  have hx := F.1
  have hb := F.2.1
  have hml := F.2.2.1
  have hown := F.2.2.2.1
  have hts := F.2.2.2.2.1
  refine x_entry (vs := [.int a1]) (n := 1) (Nat.le_of_ble_eq_true rfl) (fun ls hl => ?_)
  replace hl : lv_has ls 1 [(0, .int a1)] := hl
  unfold eX6_require at h
  refine lv_iload_n hx hb dX6_require_0 rfl (lv_at hl 0 rfl) ?_
  refine lv_if_ne (tgt := 15) hx hb dX6_require_1 (by decide) (fun c1 => ?_) (fun c1 => ?_)
  · have h := x_iff h c1
    cases h
  · have h := x_ift h c1
    rw [x_some h]
    exact xt_throwW (ex := 2) (is := 296) (text := "this cannot be done now") F Z hI xt_ok2 (by decide +kernel) hl.1 ⟨by decide, by decide, by decide, by decide⟩ dX6_require_4 dX6_require_7 dX6_require_8 dX6_require_11 dX6_require_14
abbrev rm_X6_seek : Room := { frames := 5, cells := 0, slots := 0, locals := 110 }
def fX6_seek_j24 (σ : x_S) (y1 : Int32) (z0 : Int32) : Option (Int32 × x_S) := (Option.bind (fX6_require z0) fun r5 => (Option.bind (fX5_push σ ) fun r7 => (Option.bind (fX2_beginSeeking (r7 0) y1) fun r9 => x_let (x_sh r7 0 r9) fun τ11 => some ((τ11 0 3 0), τ11))))
set_option maxHeartbeats 4000000 in
set_option maxRecDepth 100000 in
theorem wX6_seek_j24 {p : Program} {l : Launch} {e : Env} {s : State} {m : MethodId} {args : Array Value} {below : List Frame} {meth : Method} {c : Code} {X : x_T} {r : (Int32 × x_S)} (F : x_F p s m args meth c cX6_seek 2 RX6 (some .int)) (σ : x_S) (y1 : Int32) (z0 : Int32) (H : Heap) (locs : List Loc) (ls : Array Slot) (h : fX6_seek_j24 σ y1 z0 = some r) (hI : x_I X σ s H locs) (hl : lv_has ls 2 [(0, .ref (X.2.2 10 32)), (1, .int y1)]) : W p l e rm_X6_seek s m args below meth c H locs 0 0 (MQ below (x_Qi X r.1 r.2 s.heap.size) args s 0 0 (x_A X s.heap.size)) (F0 m 24 ls [.int z0]) := by
  have hx := F.1
  have hb := F.2.1
  have hml := F.2.2.1
  have hown := F.2.2.2.1
  have hts := F.2.2.2.2.1
  unfold fX6_seek_j24 at h
  obtain ⟨r5, h6, h⟩ := x_bnd h
  refine x_acv hI (x_runS (rest := []) F hI (mX6_require l X σ _ z0 r5 h6) g_X6_55 hd_X6_require ⟨by decide, by decide⟩ ⟨rfl, rfl⟩ rfl hl.1 rfl (Nat.le_of_ble_eq_true rfl) dX6_seek_24 ⟨Nat.zero_le _, Nat.zero_le _⟩) (fun H locs hI => ?_)
  refine lv_aload_n hx hb dX6_seek_27 rfl (lv_at hl 0 rfl) ?_
  refine xsg_6_2 F hI (x_inO (by decide)) u_fl_X6_22 dX6_seek_28 ?_
  refine lv_aload_n hx hb dX6_seek_31 rfl (lv_at hl 0 rfl) ?_
  refine xsg_6_0 F hI (x_inO (by decide)) u_fl_X6_12 dX6_seek_32 ?_
  obtain ⟨r7, h8, h⟩ := x_bnd h
  refine x_acv hI (x_runV (rest := []) F hI (mX5_push l X _ σ  r7 h8) g_X6_59 ⟨rfl, hd_X5_push⟩ ⟨by decide, by decide⟩ ⟨rfl, rfl⟩ (x_inO (by decide)) rfl rfl rfl rfl hl.1 rfl (Nat.le_of_ble_eq_true rfl) dX6_seek_35 ⟨Nat.zero_le _, Nat.zero_le _⟩) (fun H locs hI => ?_)
  refine lv_aload_n hx hb dX6_seek_38 rfl (lv_at hl 0 rfl) ?_
  refine xsg_6_0 F hI (x_inO (by decide)) u_fl_X6_12 dX6_seek_39 ?_
  refine lv_iload_n hx hb dX6_seek_42 rfl (lv_at hl 1 rfl) ?_
  obtain ⟨r9, h10, h⟩ := x_bnd h
  have hI := x_toH 0 hI
  refine x_acv hI (x_runV (rest := []) F hI (mX2_beginSeeking l X r7 0 (show 0 < 10 by decide) _ (r7 0) y1 r9 h10) g_X6_63 ⟨rfl, hd_X2_beginSeeking⟩ ⟨by decide, by decide⟩ ⟨rfl, rfl⟩ (x_inH (show 0 < 10 by decide) (by decide)) rfl rfl rfl rfl hl.1 rfl (Nat.le_of_ble_eq_true rfl) dX6_seek_43 ⟨Nat.zero_le _, Nat.zero_le _⟩) (fun H locs hI => ?_)
  obtain ⟨τ11, e12⟩ : ∃ z : x_S, z = (x_sh r7 0 r9) := ⟨_, rfl⟩
  rw [← e12] at hI
  have h := x_let_at h e12
  refine lv_aload_n hx hb dX6_seek_46 rfl (lv_at hl 0 rfl) ?_
  refine xsg_6_0 F hI (x_inO (by decide)) u_fl_X6_12 dX6_seek_47 ?_
  refine xsg_2_2 F hI (x_inH (show 0 < 10 by decide) (by decide)) u_fl_X6_66 dX6_seek_50 ?_
  refine xsg_4_6 F hI (x_inH (show 0 < 10 by decide) (by decide)) u_fl_X6_70 dX6_seek_53 ?_
  rw [x_some h]
  exact x_iret F hI dX6_seek_56
def fX6_seek (σ : x_S) (a1 : Int32) : Option (Int32 × x_S) := (Option.bind (fX6_requireGuest a1) fun r1 => (if x_in a1 12 then (if (σ 0 5 (Int32.toNatClampNeg a1)) = 0 then fX6_seek_j24 σ a1 (1 : Int32) else fX6_seek_j24 σ a1 (0 : Int32)) else none))
set_option maxHeartbeats 4000000 in
set_option maxRecDepth 100000 in
theorem mX6_seek (l : Launch) (X : x_T) (sz : Nat) (σ : x_S) (a1 : Int32) (r : (Int32 × x_S)) (h : fX6_seek σ a1 = some r) : Met l yX6_seek (x_ws yX6_seek cX6_seek 2 (some .int)) rm_X6_seek (x_Pc X σ sz [.ref (X.2.2 10 32), .int a1]) (x_Qi X r.1 r.2 sz) 0 0 (x_A X sz) := by
  refine Met.ofW (cc := cX6_seek) (maxL := 2) (ret := (some .int)) (by decide) rfl ?_
  intro p e s m args below meth c s₁ B hml hv
  obtain ⟨F, hI, rfl, rfl⟩ := x_begin B hml hv
  replace F : x_F p s m _ meth c cX6_seek 2 RX6 (some .int) := F
  have hx := F.1
  have hb := F.2.1
  have hml := F.2.2.1
  have hown := F.2.2.2.1
  have hts := F.2.2.2.2.1
  refine x_entry (vs := [.ref (X.2.2 10 32), .int a1]) (n := 2) (Nat.le_of_ble_eq_true rfl) (fun ls hl => ?_)
  replace hl : lv_has ls 2 [(0, .ref (X.2.2 10 32)), (1, .int a1)] := hl
  unfold fX6_seek at h
  refine lv_iload_n hx hb dX6_seek_0 rfl (lv_at hl 1 rfl) ?_
  obtain ⟨r1, h2, h⟩ := x_bnd h
  refine x_acv hI (x_runS (rest := []) F hI (mX6_requireGuest l X σ _ a1 r1 h2) g_X6_41 hd_X6_requireGuest ⟨by decide, by decide⟩ ⟨rfl, rfl⟩ rfl hl.1 rfl (Nat.le_of_ble_eq_true rfl) dX6_seek_1 ⟨Nat.zero_le _, Nat.zero_le _⟩) (fun H locs hI => ?_)
  refine lv_aload_n hx hb dX6_seek_4 rfl (lv_at hl 0 rfl) ?_
  refine xsg_6_0 F hI (x_inO (by decide)) u_fl_X6_12 dX6_seek_5 ?_
  refine xsg_2_0 F hI (x_inH (show 0 < 10 by decide) (by decide)) u_fl_X6_45 dX6_seek_8 ?_
  refine xsg_1_0 F hI (x_inH (show 0 < 10 by decide) (by decide)) u_fl_X6_49 dX6_seek_11 ?_
  refine lv_iload_n hx hb dX6_seek_14 rfl (lv_at hl 1 rfl) ?_
  obtain ⟨g3, h⟩ := x_chk h
  refine x_iald (n := 12) F hI (x_inH (show 0 < 10 by decide) (by decide)) (fun _ => rfl) g3 dX6_seek_15 ?_
  refine lv_if_ne (tgt := 23) hx hb dX6_seek_16 (by decide) (fun c4 => ?_) (fun c4 => ?_)
  · have h := x_iff h c4
    refine lv_iconst (v := 0) hx hb dX6_seek_23 (by decide) ?_
    exact wX6_seek_j24 F σ a1 (0 : Int32) _ _ _ h hI (lv_sub hl [0, 1] rfl)
  · have h := x_ift h c4
    refine lv_iconst (v := 1) hx hb dX6_seek_19 (by decide) ?_
    refine lv_goto (tgt := 24) hx hb dX6_seek_20 (by decide) ?_
    exact wX6_seek_j24 F σ a1 (1 : Int32) _ _ _ h hI (lv_sub hl [0, 1] rfl)
abbrev rx_X6_seek : Room := { frames := 7, cells := 1, slots := 6, locals := 110 }
def eX6_seek (σ : x_S) (a1 : Int32) : Option (Nat × x_S) := (x_or (eX6_requireGuest a1) (fun q1 => some (q1, σ)) (Option.bind (fX6_requireGuest a1) fun r3 => (if x_in a1 12 then (if (σ 0 5 (Int32.toNatClampNeg a1)) = 0 then (x_or (eX6_require (1 : Int32)) (fun q7 => some (q7, σ)) (Option.bind (fX6_require (1 : Int32)) fun r9 => none)) else (x_or (eX6_require (0 : Int32)) (fun q11 => some (q11, σ)) (Option.bind (fX6_require (0 : Int32)) fun r13 => none))) else none)))
set_option maxHeartbeats 4000000 in
set_option maxRecDepth 100000 in
theorem xX6_seek (l : Launch) (hl0 : l.stackTraces = false) (X : x_T) (sz : Nat) (σ : x_S) (a1 : Int32) (r : (Nat × x_S)) (h : eX6_seek σ a1 = some r) : vx_Met l yX6_seek (x_ws yX6_seek cX6_seek 2 (some .int)) rx_X6_seek (x_PcT X σ sz [.ref (X.2.2 10 32), .int a1]) (xt_Qi X sz) (xt_C X r.1 r.2 sz) 1 6 (x_A X sz) := by
  refine vx_ofW (cc := cX6_seek) (maxL := 2) (ret := (some .int)) (by decide) rfl ?_
  intro p e s m args below meth c s₁ B hml hnt hv
  obtain ⟨F, Z, hI, rfl, rfl⟩ := xt_begin hl0 B hml hnt hv
  replace F : x_F p s m _ meth c cX6_seek 2 RX6 (some .int) := F
  have hx := F.1
  have hb := F.2.1
  have hml := F.2.2.1
  have hown := F.2.2.2.1
  have hts := F.2.2.2.2.1
  refine x_entry (vs := [.ref (X.2.2 10 32), .int a1]) (n := 2) (Nat.le_of_ble_eq_true rfl) (fun ls hl => ?_)
  replace hl : lv_has ls 2 [(0, .ref (X.2.2 10 32)), (1, .int a1)] := hl
  unfold eX6_seek at h
  refine lv_iload_n hx hb dX6_seek_0 rfl (lv_at hl 1 rfl) ?_
  rcases x_or_el h with ⟨q1, h2, h⟩ | ⟨-, h⟩
  · rw [x_some h]
    exact xt_acv F Z hI (xt_runS (rest := []) F Z.2.1 hI (xX6_requireGuest l Z.1 X σ _ a1 q1 h2) g_X6_41 hd_X6_requireGuest ⟨by decide, by decide⟩ ⟨rfl, rfl⟩ rfl hl.1 rfl (Nat.le_of_ble_eq_true rfl) dX6_seek_1 ⟨by decide, by decide⟩)
  · obtain ⟨r3, h4, h⟩ := x_bnd h
    refine x_acv hI (x_runS (rest := []) F hI (mX6_requireGuest l X σ _ a1 r3 h4) g_X6_41 hd_X6_requireGuest ⟨by decide, by decide⟩ ⟨rfl, rfl⟩ rfl hl.1 rfl (Nat.le_of_ble_eq_true rfl) dX6_seek_1 ⟨Nat.zero_le _, Nat.zero_le _⟩) (fun H locs hI => ?_)
    refine lv_aload_n hx hb dX6_seek_4 rfl (lv_at hl 0 rfl) ?_
    refine xsg_6_0 F hI (x_inO (by decide)) u_fl_X6_12 dX6_seek_5 ?_
    refine xsg_2_0 F hI (x_inH (show 0 < 10 by decide) (by decide)) u_fl_X6_45 dX6_seek_8 ?_
    refine xsg_1_0 F hI (x_inH (show 0 < 10 by decide) (by decide)) u_fl_X6_49 dX6_seek_11 ?_
    refine lv_iload_n hx hb dX6_seek_14 rfl (lv_at hl 1 rfl) ?_
    obtain ⟨g5, h⟩ := x_chk h
    refine x_iald (n := 12) F hI (x_inH (show 0 < 10 by decide) (by decide)) (fun _ => rfl) g5 dX6_seek_15 ?_
    refine lv_if_ne (tgt := 23) hx hb dX6_seek_16 (by decide) (fun c6 => ?_) (fun c6 => ?_)
    · have h := x_iff h c6
      refine lv_iconst (v := 0) hx hb dX6_seek_23 (by decide) ?_
      rcases x_or_el h with ⟨q11, h12, h⟩ | ⟨-, h⟩
      · rw [x_some h]
        exact xt_acv F Z hI (xt_runS (rest := []) F Z.2.1 hI (xX6_require l Z.1 X σ _ (0 : Int32) q11 h12) g_X6_55 hd_X6_require ⟨by decide, by decide⟩ ⟨rfl, rfl⟩ rfl hl.1 rfl (Nat.le_of_ble_eq_true rfl) dX6_seek_24 ⟨by decide, by decide⟩)
      · obtain ⟨r13, h14, h⟩ := x_bnd h
        refine x_acv hI (x_runS (rest := []) F hI (mX6_require l X σ _ (0 : Int32) r13 h14) g_X6_55 hd_X6_require ⟨by decide, by decide⟩ ⟨rfl, rfl⟩ rfl hl.1 rfl (Nat.le_of_ble_eq_true rfl) dX6_seek_24 ⟨Nat.zero_le _, Nat.zero_le _⟩) (fun H locs hI => ?_)
        cases h
    · have h := x_ift h c6
      refine lv_iconst (v := 1) hx hb dX6_seek_19 (by decide) ?_
      refine lv_goto (tgt := 24) hx hb dX6_seek_20 (by decide) ?_
      rcases x_or_el h with ⟨q7, h8, h⟩ | ⟨-, h⟩
      · rw [x_some h]
        exact xt_acv F Z hI (xt_runS (rest := []) F Z.2.1 hI (xX6_require l Z.1 X σ _ (1 : Int32) q7 h8) g_X6_55 hd_X6_require ⟨by decide, by decide⟩ ⟨rfl, rfl⟩ rfl hl.1 rfl (Nat.le_of_ble_eq_true rfl) dX6_seek_24 ⟨by decide, by decide⟩)
      · obtain ⟨r9, h10, h⟩ := x_bnd h
        refine x_acv hI (x_runS (rest := []) F hI (mX6_require l X σ _ (1 : Int32) r9 h10) g_X6_55 hd_X6_require ⟨by decide, by decide⟩ ⟨rfl, rfl⟩ rfl hl.1 rfl (Nat.le_of_ble_eq_true rfl) dX6_seek_24 ⟨Nat.zero_le _, Nat.zero_le _⟩) (fun H locs hI => ?_)
        cases h
abbrev rm_X6_leave : Room := { frames := 5, cells := 0, slots := 0, locals := 110 }
def fX6_leave_j25 (σ : x_S) (y1 : Int32) (z0 : Int32) : Option (Int32 × x_S) := (Option.bind (fX6_require z0) fun r5 => (Option.bind (fX5_push σ ) fun r7 => (if x_in y1 12 then x_let (r7 0 6 (Int32.toNatClampNeg y1)) fun x10 => (Option.bind (fX2_leaveRoom (r7 0) y1) fun r12 => x_let (x_sh r7 0 r12) fun τ14 => some (x10, τ14)) else none)))
set_option maxHeartbeats 4000000 in
set_option maxRecDepth 100000 in
theorem wX6_leave_j25 {p : Program} {l : Launch} {e : Env} {s : State} {m : MethodId} {args : Array Value} {below : List Frame} {meth : Method} {c : Code} {X : x_T} {r : (Int32 × x_S)} (F : x_F p s m args meth c cX6_leave 3 RX6 (some .int)) (σ : x_S) (y1 : Int32) (z0 : Int32) (H : Heap) (locs : List Loc) (ls : Array Slot) (h : fX6_leave_j25 σ y1 z0 = some r) (hI : x_I X σ s H locs) (hl : lv_has ls 3 [(0, .ref (X.2.2 10 32)), (1, .int y1)]) : W p l e rm_X6_leave s m args below meth c H locs 0 0 (MQ below (x_Qi X r.1 r.2 s.heap.size) args s 0 0 (x_A X s.heap.size)) (F0 m 25 ls [.int z0]) := by
  have hx := F.1
  have hb := F.2.1
  have hml := F.2.2.1
  have hown := F.2.2.2.1
  have hts := F.2.2.2.2.1
  unfold fX6_leave_j25 at h
  obtain ⟨r5, h6, h⟩ := x_bnd h
  refine x_acv hI (x_runS (rest := []) F hI (mX6_require l X σ _ z0 r5 h6) g_X6_55 hd_X6_require ⟨by decide, by decide⟩ ⟨rfl, rfl⟩ rfl hl.1 rfl (Nat.le_of_ble_eq_true rfl) dX6_leave_25 ⟨Nat.zero_le _, Nat.zero_le _⟩) (fun H locs hI => ?_)
  refine lv_aload_n hx hb dX6_leave_28 rfl (lv_at hl 0 rfl) ?_
  refine xsg_6_2 F hI (x_inO (by decide)) u_fl_X6_22 dX6_leave_29 ?_
  refine lv_aload_n hx hb dX6_leave_32 rfl (lv_at hl 0 rfl) ?_
  refine xsg_6_0 F hI (x_inO (by decide)) u_fl_X6_12 dX6_leave_33 ?_
  obtain ⟨r7, h8, h⟩ := x_bnd h
  refine x_acv hI (x_runV (rest := []) F hI (mX5_push l X _ σ  r7 h8) g_X6_59 ⟨rfl, hd_X5_push⟩ ⟨by decide, by decide⟩ ⟨rfl, rfl⟩ (x_inO (by decide)) rfl rfl rfl rfl hl.1 rfl (Nat.le_of_ble_eq_true rfl) dX6_leave_36 ⟨Nat.zero_le _, Nat.zero_le _⟩) (fun H locs hI => ?_)
  refine lv_aload_n hx hb dX6_leave_39 rfl (lv_at hl 0 rfl) ?_
  refine xsg_6_0 F hI (x_inO (by decide)) u_fl_X6_12 dX6_leave_40 ?_
  refine xsg_2_0 F hI (x_inH (show 0 < 10 by decide) (by decide)) u_fl_X6_45 dX6_leave_43 ?_
  refine xsg_1_1 F hI (x_inH (show 0 < 10 by decide) (by decide)) u_fl_X6_76 dX6_leave_46 ?_
  refine lv_iload_n hx hb dX6_leave_49 rfl (lv_at hl 1 rfl) ?_
  obtain ⟨g9, h⟩ := x_chk h
  refine x_iald (n := 12) F hI (x_inH (show 0 < 10 by decide) (by decide)) (fun _ => rfl) g9 dX6_leave_50 ?_
  refine lv_topi (fun x10 e11 => ?_)
  have h := x_let_at h e11
  refine lv_istore_n (lv' := [(2, .int x10), (0, .ref (X.2.2 10 32)), (1, .int y1)]) hx hb dX6_leave_51 rfl hl (by decide) rfl (fun ls hl => ?_)
  refine lv_aload_n hx hb dX6_leave_52 rfl (lv_at hl 1 rfl) ?_
  refine xsg_6_0 F hI (x_inO (by decide)) u_fl_X6_12 dX6_leave_53 ?_
  refine lv_iload_n hx hb dX6_leave_56 rfl (lv_at hl 2 rfl) ?_
  obtain ⟨r12, h13, h⟩ := x_bnd h
  have hI := x_toH 0 hI
  refine x_acv hI (x_runV (rest := []) F hI (mX2_leaveRoom l X r7 0 (show 0 < 10 by decide) _ (r7 0) y1 r12 h13) g_X6_79 ⟨rfl, hd_X2_leaveRoom⟩ ⟨by decide, by decide⟩ ⟨rfl, rfl⟩ (x_inH (show 0 < 10 by decide) (by decide)) rfl rfl rfl rfl hl.1 rfl (Nat.le_of_ble_eq_true rfl) dX6_leave_57 ⟨Nat.zero_le _, Nat.zero_le _⟩) (fun H locs hI => ?_)
  obtain ⟨τ14, e15⟩ : ∃ z : x_S, z = (x_sh r7 0 r12) := ⟨_, rfl⟩
  rw [← e15] at hI
  have h := x_let_at h e15
  refine lv_iload_n hx hb dX6_leave_60 rfl (lv_at hl 0 rfl) ?_
  rw [x_some h]
  exact x_iret F hI dX6_leave_61
def fX6_leave (σ : x_S) (a1 : Int32) : Option (Int32 × x_S) := (Option.bind (fX6_requireGuest a1) fun r1 => (if x_in a1 12 then (if (σ 0 5 (Int32.toNatClampNeg a1)) = (3 : Int32) then fX6_leave_j25 σ a1 (1 : Int32) else fX6_leave_j25 σ a1 (0 : Int32)) else none))
set_option maxHeartbeats 4000000 in
set_option maxRecDepth 100000 in
theorem mX6_leave (l : Launch) (X : x_T) (sz : Nat) (σ : x_S) (a1 : Int32) (r : (Int32 × x_S)) (h : fX6_leave σ a1 = some r) : Met l yX6_leave (x_ws yX6_leave cX6_leave 3 (some .int)) rm_X6_leave (x_Pc X σ sz [.ref (X.2.2 10 32), .int a1]) (x_Qi X r.1 r.2 sz) 0 0 (x_A X sz) := by
  refine Met.ofW (cc := cX6_leave) (maxL := 3) (ret := (some .int)) (by decide) rfl ?_
  intro p e s m args below meth c s₁ B hml hv
  obtain ⟨F, hI, rfl, rfl⟩ := x_begin B hml hv
  replace F : x_F p s m _ meth c cX6_leave 3 RX6 (some .int) := F
  have hx := F.1
  have hb := F.2.1
  have hml := F.2.2.1
  have hown := F.2.2.2.1
  have hts := F.2.2.2.2.1
  refine x_entry (vs := [.ref (X.2.2 10 32), .int a1]) (n := 3) (Nat.le_of_ble_eq_true rfl) (fun ls hl => ?_)
  replace hl : lv_has ls 3 [(0, .ref (X.2.2 10 32)), (1, .int a1)] := hl
  unfold fX6_leave at h
  refine lv_iload_n hx hb dX6_leave_0 rfl (lv_at hl 1 rfl) ?_
  obtain ⟨r1, h2, h⟩ := x_bnd h
  refine x_acv hI (x_runS (rest := []) F hI (mX6_requireGuest l X σ _ a1 r1 h2) g_X6_41 hd_X6_requireGuest ⟨by decide, by decide⟩ ⟨rfl, rfl⟩ rfl hl.1 rfl (Nat.le_of_ble_eq_true rfl) dX6_leave_1 ⟨Nat.zero_le _, Nat.zero_le _⟩) (fun H locs hI => ?_)
  refine lv_aload_n hx hb dX6_leave_4 rfl (lv_at hl 0 rfl) ?_
  refine xsg_6_0 F hI (x_inO (by decide)) u_fl_X6_12 dX6_leave_5 ?_
  refine xsg_2_0 F hI (x_inH (show 0 < 10 by decide) (by decide)) u_fl_X6_45 dX6_leave_8 ?_
  refine xsg_1_0 F hI (x_inH (show 0 < 10 by decide) (by decide)) u_fl_X6_49 dX6_leave_11 ?_
  refine lv_iload_n hx hb dX6_leave_14 rfl (lv_at hl 1 rfl) ?_
  obtain ⟨g3, h⟩ := x_chk h
  refine x_iald (n := 12) F hI (x_inH (show 0 < 10 by decide) (by decide)) (fun _ => rfl) g3 dX6_leave_15 ?_
  refine lv_iconst (v := 3) hx hb dX6_leave_16 (by decide) ?_
  refine lv_icmp_ne (tgt := 24) hx hb dX6_leave_17 (by decide) (fun c4 => ?_) (fun c4 => ?_)
  · have h := x_iff h c4
    refine lv_iconst (v := 0) hx hb dX6_leave_24 (by decide) ?_
    exact wX6_leave_j25 F σ a1 (0 : Int32) _ _ _ h hI (lv_sub hl [0, 1] rfl)
  · have h := x_ift h c4
    refine lv_iconst (v := 1) hx hb dX6_leave_20 (by decide) ?_
    refine lv_goto (tgt := 25) hx hb dX6_leave_21 (by decide) ?_
    exact wX6_leave_j25 F σ a1 (1 : Int32) _ _ _ h hI (lv_sub hl [0, 1] rfl)
abbrev rx_X6_leave : Room := { frames := 7, cells := 1, slots := 6, locals := 110 }
def eX6_leave (σ : x_S) (a1 : Int32) : Option (Nat × x_S) := (x_or (eX6_requireGuest a1) (fun q1 => some (q1, σ)) (Option.bind (fX6_requireGuest a1) fun r3 => (if x_in a1 12 then (if (σ 0 5 (Int32.toNatClampNeg a1)) = (3 : Int32) then (x_or (eX6_require (1 : Int32)) (fun q7 => some (q7, σ)) (Option.bind (fX6_require (1 : Int32)) fun r9 => none)) else (x_or (eX6_require (0 : Int32)) (fun q11 => some (q11, σ)) (Option.bind (fX6_require (0 : Int32)) fun r13 => none))) else none)))
set_option maxHeartbeats 4000000 in
set_option maxRecDepth 100000 in
theorem xX6_leave (l : Launch) (hl0 : l.stackTraces = false) (X : x_T) (sz : Nat) (σ : x_S) (a1 : Int32) (r : (Nat × x_S)) (h : eX6_leave σ a1 = some r) : vx_Met l yX6_leave (x_ws yX6_leave cX6_leave 3 (some .int)) rx_X6_leave (x_PcT X σ sz [.ref (X.2.2 10 32), .int a1]) (xt_Qi X sz) (xt_C X r.1 r.2 sz) 1 6 (x_A X sz) := by
  refine vx_ofW (cc := cX6_leave) (maxL := 3) (ret := (some .int)) (by decide) rfl ?_
  intro p e s m args below meth c s₁ B hml hnt hv
  obtain ⟨F, Z, hI, rfl, rfl⟩ := xt_begin hl0 B hml hnt hv
  replace F : x_F p s m _ meth c cX6_leave 3 RX6 (some .int) := F
  have hx := F.1
  have hb := F.2.1
  have hml := F.2.2.1
  have hown := F.2.2.2.1
  have hts := F.2.2.2.2.1
  refine x_entry (vs := [.ref (X.2.2 10 32), .int a1]) (n := 3) (Nat.le_of_ble_eq_true rfl) (fun ls hl => ?_)
  replace hl : lv_has ls 3 [(0, .ref (X.2.2 10 32)), (1, .int a1)] := hl
  unfold eX6_leave at h
  refine lv_iload_n hx hb dX6_leave_0 rfl (lv_at hl 1 rfl) ?_
  rcases x_or_el h with ⟨q1, h2, h⟩ | ⟨-, h⟩
  · rw [x_some h]
    exact xt_acv F Z hI (xt_runS (rest := []) F Z.2.1 hI (xX6_requireGuest l Z.1 X σ _ a1 q1 h2) g_X6_41 hd_X6_requireGuest ⟨by decide, by decide⟩ ⟨rfl, rfl⟩ rfl hl.1 rfl (Nat.le_of_ble_eq_true rfl) dX6_leave_1 ⟨by decide, by decide⟩)
  · obtain ⟨r3, h4, h⟩ := x_bnd h
    refine x_acv hI (x_runS (rest := []) F hI (mX6_requireGuest l X σ _ a1 r3 h4) g_X6_41 hd_X6_requireGuest ⟨by decide, by decide⟩ ⟨rfl, rfl⟩ rfl hl.1 rfl (Nat.le_of_ble_eq_true rfl) dX6_leave_1 ⟨Nat.zero_le _, Nat.zero_le _⟩) (fun H locs hI => ?_)
    refine lv_aload_n hx hb dX6_leave_4 rfl (lv_at hl 0 rfl) ?_
    refine xsg_6_0 F hI (x_inO (by decide)) u_fl_X6_12 dX6_leave_5 ?_
    refine xsg_2_0 F hI (x_inH (show 0 < 10 by decide) (by decide)) u_fl_X6_45 dX6_leave_8 ?_
    refine xsg_1_0 F hI (x_inH (show 0 < 10 by decide) (by decide)) u_fl_X6_49 dX6_leave_11 ?_
    refine lv_iload_n hx hb dX6_leave_14 rfl (lv_at hl 1 rfl) ?_
    obtain ⟨g5, h⟩ := x_chk h
    refine x_iald (n := 12) F hI (x_inH (show 0 < 10 by decide) (by decide)) (fun _ => rfl) g5 dX6_leave_15 ?_
    refine lv_iconst (v := 3) hx hb dX6_leave_16 (by decide) ?_
    refine lv_icmp_ne (tgt := 24) hx hb dX6_leave_17 (by decide) (fun c6 => ?_) (fun c6 => ?_)
    · have h := x_iff h c6
      refine lv_iconst (v := 0) hx hb dX6_leave_24 (by decide) ?_
      rcases x_or_el h with ⟨q11, h12, h⟩ | ⟨-, h⟩
      · rw [x_some h]
        exact xt_acv F Z hI (xt_runS (rest := []) F Z.2.1 hI (xX6_require l Z.1 X σ _ (0 : Int32) q11 h12) g_X6_55 hd_X6_require ⟨by decide, by decide⟩ ⟨rfl, rfl⟩ rfl hl.1 rfl (Nat.le_of_ble_eq_true rfl) dX6_leave_25 ⟨by decide, by decide⟩)
      · obtain ⟨r13, h14, h⟩ := x_bnd h
        refine x_acv hI (x_runS (rest := []) F hI (mX6_require l X σ _ (0 : Int32) r13 h14) g_X6_55 hd_X6_require ⟨by decide, by decide⟩ ⟨rfl, rfl⟩ rfl hl.1 rfl (Nat.le_of_ble_eq_true rfl) dX6_leave_25 ⟨Nat.zero_le _, Nat.zero_le _⟩) (fun H locs hI => ?_)
        cases h
    · have h := x_ift h c6
      refine lv_iconst (v := 1) hx hb dX6_leave_20 (by decide) ?_
      refine lv_goto (tgt := 25) hx hb dX6_leave_21 (by decide) ?_
      rcases x_or_el h with ⟨q7, h8, h⟩ | ⟨-, h⟩
      · rw [x_some h]
        exact xt_acv F Z hI (xt_runS (rest := []) F Z.2.1 hI (xX6_require l Z.1 X σ _ (1 : Int32) q7 h8) g_X6_55 hd_X6_require ⟨by decide, by decide⟩ ⟨rfl, rfl⟩ rfl hl.1 rfl (Nat.le_of_ble_eq_true rfl) dX6_leave_25 ⟨by decide, by decide⟩)
      · obtain ⟨r9, h10, h⟩ := x_bnd h
        refine x_acv hI (x_runS (rest := []) F hI (mX6_require l X σ _ (1 : Int32) r9 h10) g_X6_55 hd_X6_require ⟨by decide, by decide⟩ ⟨rfl, rfl⟩ rfl hl.1 rfl (Nat.le_of_ble_eq_true rfl) dX6_leave_25 ⟨Nat.zero_le _, Nat.zero_le _⟩) (fun H locs hI => ?_)
        cases h
abbrev rm_X6_giveUp : Room := { frames := 5, cells := 0, slots := 0, locals := 110 }
def fX6_giveUp_j32 (σ : x_S) (y1 : Int32) (y2 : Int32) (z0 : Int32) : Option (Int32 × x_S) := (Option.bind (fX6_require z0) fun r8 => (Option.bind (fX5_push σ ) fun r10 => (Option.bind (fX1_rest (r10 0) y1) fun r12 => x_let (x_sh r10 0 r12) fun τ14 => some (y2, τ14))))
set_option maxHeartbeats 4000000 in
set_option maxRecDepth 100000 in
theorem wX6_giveUp_j32 {p : Program} {l : Launch} {e : Env} {s : State} {m : MethodId} {args : Array Value} {below : List Frame} {meth : Method} {c : Code} {X : x_T} {r : (Int32 × x_S)} (F : x_F p s m args meth c cX6_giveUp 3 RX6 (some .int)) (σ : x_S) (y1 : Int32) (y2 : Int32) (z0 : Int32) (H : Heap) (locs : List Loc) (ls : Array Slot) (h : fX6_giveUp_j32 σ y1 y2 z0 = some r) (hI : x_I X σ s H locs) (hl : lv_has ls 3 [(0, .ref (X.2.2 10 32)), (1, .int y1), (2, .int y2)]) : W p l e rm_X6_giveUp s m args below meth c H locs 0 0 (MQ below (x_Qi X r.1 r.2 s.heap.size) args s 0 0 (x_A X s.heap.size)) (F0 m 32 ls [.int z0]) := by
  have hx := F.1
  have hb := F.2.1
  have hml := F.2.2.1
  have hown := F.2.2.2.1
  have hts := F.2.2.2.2.1
  unfold fX6_giveUp_j32 at h
  obtain ⟨r8, h9, h⟩ := x_bnd h
  refine x_acv hI (x_runS (rest := []) F hI (mX6_require l X σ _ z0 r8 h9) g_X6_55 hd_X6_require ⟨by decide, by decide⟩ ⟨rfl, rfl⟩ rfl hl.1 rfl (Nat.le_of_ble_eq_true rfl) dX6_giveUp_32 ⟨Nat.zero_le _, Nat.zero_le _⟩) (fun H locs hI => ?_)
  refine lv_aload_n hx hb dX6_giveUp_35 rfl (lv_at hl 0 rfl) ?_
  refine xsg_6_2 F hI (x_inO (by decide)) u_fl_X6_22 dX6_giveUp_36 ?_
  refine lv_aload_n hx hb dX6_giveUp_39 rfl (lv_at hl 0 rfl) ?_
  refine xsg_6_0 F hI (x_inO (by decide)) u_fl_X6_12 dX6_giveUp_40 ?_
  obtain ⟨r10, h11, h⟩ := x_bnd h
  refine x_acv hI (x_runV (rest := []) F hI (mX5_push l X _ σ  r10 h11) g_X6_59 ⟨rfl, hd_X5_push⟩ ⟨by decide, by decide⟩ ⟨rfl, rfl⟩ (x_inO (by decide)) rfl rfl rfl rfl hl.1 rfl (Nat.le_of_ble_eq_true rfl) dX6_giveUp_43 ⟨Nat.zero_le _, Nat.zero_le _⟩) (fun H locs hI => ?_)
  refine lv_aload_n hx hb dX6_giveUp_46 rfl (lv_at hl 0 rfl) ?_
  refine xsg_6_0 F hI (x_inO (by decide)) u_fl_X6_12 dX6_giveUp_47 ?_
  refine xsg_2_0 F hI (x_inH (show 0 < 10 by decide) (by decide)) u_fl_X6_45 dX6_giveUp_50 ?_
  refine lv_iload_n hx hb dX6_giveUp_53 rfl (lv_at hl 1 rfl) ?_
  obtain ⟨r12, h13, h⟩ := x_bnd h
  have hI := x_toH 0 hI
  refine x_acv hI (x_runV (rest := []) F hI (mX1_rest l X r10 0 (show 0 < 10 by decide) _ (r10 0) y1 r12 h13) g_X6_82 ⟨rfl, hd_X1_rest⟩ ⟨by decide, by decide⟩ ⟨rfl, rfl⟩ (x_inH (show 0 < 10 by decide) (by decide)) rfl rfl rfl rfl hl.1 rfl (Nat.le_of_ble_eq_true rfl) dX6_giveUp_54 ⟨Nat.zero_le _, Nat.zero_le _⟩) (fun H locs hI => ?_)
  obtain ⟨τ14, e15⟩ : ∃ z : x_S, z = (x_sh r10 0 r12) := ⟨_, rfl⟩
  rw [← e15] at hI
  have h := x_let_at h e15
  refine lv_iload_n hx hb dX6_giveUp_57 rfl (lv_at hl 2 rfl) ?_
  rw [x_some h]
  exact x_iret F hI dX6_giveUp_58
def fX6_giveUp_j27 (σ : x_S) (y1 : Int32) (y2 : Int32) : Option (Int32 × x_S) := fX6_giveUp_j32 σ y1 y2 (1 : Int32)
set_option maxHeartbeats 4000000 in
set_option maxRecDepth 100000 in
theorem wX6_giveUp_j27 {p : Program} {l : Launch} {e : Env} {s : State} {m : MethodId} {args : Array Value} {below : List Frame} {meth : Method} {c : Code} {X : x_T} {r : (Int32 × x_S)} (F : x_F p s m args meth c cX6_giveUp 3 RX6 (some .int)) (σ : x_S) (y1 : Int32) (y2 : Int32) (H : Heap) (locs : List Loc) (ls : Array Slot) (h : fX6_giveUp_j27 σ y1 y2 = some r) (hI : x_I X σ s H locs) (hl : lv_has ls 3 [(0, .ref (X.2.2 10 32)), (1, .int y1), (2, .int y2)]) : W p l e rm_X6_giveUp s m args below meth c H locs 0 0 (MQ below (x_Qi X r.1 r.2 s.heap.size) args s 0 0 (x_A X s.heap.size)) (F0 m 27 ls []) := by
  have hx := F.1
  have hb := F.2.1
  have hml := F.2.2.1
  have hown := F.2.2.2.1
  have hts := F.2.2.2.2.1
  unfold fX6_giveUp_j27 at h
  refine lv_iconst (v := 1) hx hb dX6_giveUp_27 (by decide) ?_
  refine lv_goto (tgt := 32) hx hb dX6_giveUp_28 (by decide) ?_
  exact wX6_giveUp_j32 F σ y1 y2 (1 : Int32) _ _ _ h hI (lv_sub hl [0, 1, 2] rfl)
def fX6_giveUp (σ : x_S) (a1 : Int32) : Option (Int32 × x_S) := (Option.bind (fX6_requireGuest a1) fun r1 => (if x_in a1 12 then x_let (σ 0 5 (Int32.toNatClampNeg a1)) fun x4 => (if x4 = (1 : Int32) then fX6_giveUp_j27 σ a1 x4 else (if x4 = (2 : Int32) then fX6_giveUp_j27 σ a1 x4 else fX6_giveUp_j32 σ a1 x4 (0 : Int32))) else none))
set_option maxHeartbeats 4000000 in
set_option maxRecDepth 100000 in
theorem mX6_giveUp (l : Launch) (X : x_T) (sz : Nat) (σ : x_S) (a1 : Int32) (r : (Int32 × x_S)) (h : fX6_giveUp σ a1 = some r) : Met l yX6_giveUp (x_ws yX6_giveUp cX6_giveUp 3 (some .int)) rm_X6_giveUp (x_Pc X σ sz [.ref (X.2.2 10 32), .int a1]) (x_Qi X r.1 r.2 sz) 0 0 (x_A X sz) := by
  refine Met.ofW (cc := cX6_giveUp) (maxL := 3) (ret := (some .int)) (by decide) rfl ?_
  intro p e s m args below meth c s₁ B hml hv
  obtain ⟨F, hI, rfl, rfl⟩ := x_begin B hml hv
  replace F : x_F p s m _ meth c cX6_giveUp 3 RX6 (some .int) := F
  have hx := F.1
  have hb := F.2.1
  have hml := F.2.2.1
  have hown := F.2.2.2.1
  have hts := F.2.2.2.2.1
  refine x_entry (vs := [.ref (X.2.2 10 32), .int a1]) (n := 3) (Nat.le_of_ble_eq_true rfl) (fun ls hl => ?_)
  replace hl : lv_has ls 3 [(0, .ref (X.2.2 10 32)), (1, .int a1)] := hl
  unfold fX6_giveUp at h
  refine lv_iload_n hx hb dX6_giveUp_0 rfl (lv_at hl 1 rfl) ?_
  obtain ⟨r1, h2, h⟩ := x_bnd h
  refine x_acv hI (x_runS (rest := []) F hI (mX6_requireGuest l X σ _ a1 r1 h2) g_X6_41 hd_X6_requireGuest ⟨by decide, by decide⟩ ⟨rfl, rfl⟩ rfl hl.1 rfl (Nat.le_of_ble_eq_true rfl) dX6_giveUp_1 ⟨Nat.zero_le _, Nat.zero_le _⟩) (fun H locs hI => ?_)
  refine lv_aload_n hx hb dX6_giveUp_4 rfl (lv_at hl 0 rfl) ?_
  refine xsg_6_0 F hI (x_inO (by decide)) u_fl_X6_12 dX6_giveUp_5 ?_
  refine xsg_2_0 F hI (x_inH (show 0 < 10 by decide) (by decide)) u_fl_X6_45 dX6_giveUp_8 ?_
  refine xsg_1_0 F hI (x_inH (show 0 < 10 by decide) (by decide)) u_fl_X6_49 dX6_giveUp_11 ?_
  refine lv_iload_n hx hb dX6_giveUp_14 rfl (lv_at hl 1 rfl) ?_
  obtain ⟨g3, h⟩ := x_chk h
  refine x_iald (n := 12) F hI (x_inH (show 0 < 10 by decide) (by decide)) (fun _ => rfl) g3 dX6_giveUp_15 ?_
  refine lv_topi (fun x4 e5 => ?_)
  have h := x_let_at h e5
  refine lv_istore_n (lv' := [(2, .int x4), (0, .ref (X.2.2 10 32)), (1, .int a1)]) hx hb dX6_giveUp_16 rfl hl (by decide) rfl (fun ls hl => ?_)
  refine lv_iload_n hx hb dX6_giveUp_17 rfl (lv_at hl 0 rfl) ?_
  refine lv_iconst (v := 1) hx hb dX6_giveUp_18 (by decide) ?_
  refine lv_icmp_eq (tgt := 27) hx hb dX6_giveUp_19 (by decide) (fun c6 => ?_) (fun c6 => ?_)
  · have h := x_ift h c6
    exact wX6_giveUp_j27 F σ a1 x4 _ _ _ h hI (lv_sub hl [1, 2, 0] rfl)
  · have h := x_iff h c6
    refine lv_iload_n hx hb dX6_giveUp_22 rfl (lv_at hl 0 rfl) ?_
    refine lv_iconst (v := 2) hx hb dX6_giveUp_23 (by decide) ?_
    refine lv_icmp_ne (tgt := 31) hx hb dX6_giveUp_24 (by decide) (fun c7 => ?_) (fun c7 => ?_)
    · have h := x_iff h c7
      refine lv_iconst (v := 0) hx hb dX6_giveUp_31 (by decide) ?_
      exact wX6_giveUp_j32 F σ a1 x4 (0 : Int32) _ _ _ h hI (lv_sub hl [1, 2, 0] rfl)
    · have h := x_ift h c7
      exact wX6_giveUp_j27 F σ a1 x4 _ _ _ h hI (lv_sub hl [1, 2, 0] rfl)
abbrev rx_X6_giveUp : Room := { frames := 7, cells := 1, slots := 6, locals := 110 }
def eX6_giveUp (σ : x_S) (a1 : Int32) : Option (Nat × x_S) := (x_or (eX6_requireGuest a1) (fun q1 => some (q1, σ)) (Option.bind (fX6_requireGuest a1) fun r3 => (if x_in a1 12 then x_let (σ 0 5 (Int32.toNatClampNeg a1)) fun x6 => (if x6 = (1 : Int32) then (x_or (eX6_require (1 : Int32)) (fun q9 => some (q9, σ)) (Option.bind (fX6_require (1 : Int32)) fun r11 => none)) else (if x6 = (2 : Int32) then (x_or (eX6_require (1 : Int32)) (fun q14 => some (q14, σ)) (Option.bind (fX6_require (1 : Int32)) fun r16 => none)) else (x_or (eX6_require (0 : Int32)) (fun q18 => some (q18, σ)) (Option.bind (fX6_require (0 : Int32)) fun r20 => none)))) else none)))
set_option maxHeartbeats 4000000 in
set_option maxRecDepth 100000 in
theorem xX6_giveUp (l : Launch) (hl0 : l.stackTraces = false) (X : x_T) (sz : Nat) (σ : x_S) (a1 : Int32) (r : (Nat × x_S)) (h : eX6_giveUp σ a1 = some r) : vx_Met l yX6_giveUp (x_ws yX6_giveUp cX6_giveUp 3 (some .int)) rx_X6_giveUp (x_PcT X σ sz [.ref (X.2.2 10 32), .int a1]) (xt_Qi X sz) (xt_C X r.1 r.2 sz) 1 6 (x_A X sz) := by
  refine vx_ofW (cc := cX6_giveUp) (maxL := 3) (ret := (some .int)) (by decide) rfl ?_
  intro p e s m args below meth c s₁ B hml hnt hv
  obtain ⟨F, Z, hI, rfl, rfl⟩ := xt_begin hl0 B hml hnt hv
  replace F : x_F p s m _ meth c cX6_giveUp 3 RX6 (some .int) := F
  have hx := F.1
  have hb := F.2.1
  have hml := F.2.2.1
  have hown := F.2.2.2.1
  have hts := F.2.2.2.2.1
  refine x_entry (vs := [.ref (X.2.2 10 32), .int a1]) (n := 3) (Nat.le_of_ble_eq_true rfl) (fun ls hl => ?_)
  replace hl : lv_has ls 3 [(0, .ref (X.2.2 10 32)), (1, .int a1)] := hl
  unfold eX6_giveUp at h
  refine lv_iload_n hx hb dX6_giveUp_0 rfl (lv_at hl 1 rfl) ?_
  rcases x_or_el h with ⟨q1, h2, h⟩ | ⟨-, h⟩
  · rw [x_some h]
    exact xt_acv F Z hI (xt_runS (rest := []) F Z.2.1 hI (xX6_requireGuest l Z.1 X σ _ a1 q1 h2) g_X6_41 hd_X6_requireGuest ⟨by decide, by decide⟩ ⟨rfl, rfl⟩ rfl hl.1 rfl (Nat.le_of_ble_eq_true rfl) dX6_giveUp_1 ⟨by decide, by decide⟩)
  · obtain ⟨r3, h4, h⟩ := x_bnd h
    refine x_acv hI (x_runS (rest := []) F hI (mX6_requireGuest l X σ _ a1 r3 h4) g_X6_41 hd_X6_requireGuest ⟨by decide, by decide⟩ ⟨rfl, rfl⟩ rfl hl.1 rfl (Nat.le_of_ble_eq_true rfl) dX6_giveUp_1 ⟨Nat.zero_le _, Nat.zero_le _⟩) (fun H locs hI => ?_)
    refine lv_aload_n hx hb dX6_giveUp_4 rfl (lv_at hl 0 rfl) ?_
    refine xsg_6_0 F hI (x_inO (by decide)) u_fl_X6_12 dX6_giveUp_5 ?_
    refine xsg_2_0 F hI (x_inH (show 0 < 10 by decide) (by decide)) u_fl_X6_45 dX6_giveUp_8 ?_
    refine xsg_1_0 F hI (x_inH (show 0 < 10 by decide) (by decide)) u_fl_X6_49 dX6_giveUp_11 ?_
    refine lv_iload_n hx hb dX6_giveUp_14 rfl (lv_at hl 1 rfl) ?_
    obtain ⟨g5, h⟩ := x_chk h
    refine x_iald (n := 12) F hI (x_inH (show 0 < 10 by decide) (by decide)) (fun _ => rfl) g5 dX6_giveUp_15 ?_
    refine lv_topi (fun x6 e7 => ?_)
    have h := x_let_at h e7
    refine lv_istore_n (lv' := [(2, .int x6), (0, .ref (X.2.2 10 32)), (1, .int a1)]) hx hb dX6_giveUp_16 rfl hl (by decide) rfl (fun ls hl => ?_)
    refine lv_iload_n hx hb dX6_giveUp_17 rfl (lv_at hl 0 rfl) ?_
    refine lv_iconst (v := 1) hx hb dX6_giveUp_18 (by decide) ?_
    refine lv_icmp_eq (tgt := 27) hx hb dX6_giveUp_19 (by decide) (fun c8 => ?_) (fun c8 => ?_)
    · have h := x_ift h c8
      refine lv_iconst (v := 1) hx hb dX6_giveUp_27 (by decide) ?_
      refine lv_goto (tgt := 32) hx hb dX6_giveUp_28 (by decide) ?_
      rcases x_or_el h with ⟨q9, h10, h⟩ | ⟨-, h⟩
      · rw [x_some h]
        exact xt_acv F Z hI (xt_runS (rest := []) F Z.2.1 hI (xX6_require l Z.1 X σ _ (1 : Int32) q9 h10) g_X6_55 hd_X6_require ⟨by decide, by decide⟩ ⟨rfl, rfl⟩ rfl hl.1 rfl (Nat.le_of_ble_eq_true rfl) dX6_giveUp_32 ⟨by decide, by decide⟩)
      · obtain ⟨r11, h12, h⟩ := x_bnd h
        refine x_acv hI (x_runS (rest := []) F hI (mX6_require l X σ _ (1 : Int32) r11 h12) g_X6_55 hd_X6_require ⟨by decide, by decide⟩ ⟨rfl, rfl⟩ rfl hl.1 rfl (Nat.le_of_ble_eq_true rfl) dX6_giveUp_32 ⟨Nat.zero_le _, Nat.zero_le _⟩) (fun H locs hI => ?_)
        cases h
    · have h := x_iff h c8
      refine lv_iload_n hx hb dX6_giveUp_22 rfl (lv_at hl 0 rfl) ?_
      refine lv_iconst (v := 2) hx hb dX6_giveUp_23 (by decide) ?_
      refine lv_icmp_ne (tgt := 31) hx hb dX6_giveUp_24 (by decide) (fun c13 => ?_) (fun c13 => ?_)
      · have h := x_iff h c13
        refine lv_iconst (v := 0) hx hb dX6_giveUp_31 (by decide) ?_
        rcases x_or_el h with ⟨q18, h19, h⟩ | ⟨-, h⟩
        · rw [x_some h]
          exact xt_acv F Z hI (xt_runS (rest := []) F Z.2.1 hI (xX6_require l Z.1 X σ _ (0 : Int32) q18 h19) g_X6_55 hd_X6_require ⟨by decide, by decide⟩ ⟨rfl, rfl⟩ rfl hl.1 rfl (Nat.le_of_ble_eq_true rfl) dX6_giveUp_32 ⟨by decide, by decide⟩)
        · obtain ⟨r20, h21, h⟩ := x_bnd h
          refine x_acv hI (x_runS (rest := []) F hI (mX6_require l X σ _ (0 : Int32) r20 h21) g_X6_55 hd_X6_require ⟨by decide, by decide⟩ ⟨rfl, rfl⟩ rfl hl.1 rfl (Nat.le_of_ble_eq_true rfl) dX6_giveUp_32 ⟨Nat.zero_le _, Nat.zero_le _⟩) (fun H locs hI => ?_)
          cases h
      · have h := x_ift h c13
        refine lv_iconst (v := 1) hx hb dX6_giveUp_27 (by decide) ?_
        refine lv_goto (tgt := 32) hx hb dX6_giveUp_28 (by decide) ?_
        rcases x_or_el h with ⟨q14, h15, h⟩ | ⟨-, h⟩
        · rw [x_some h]
          exact xt_acv F Z hI (xt_runS (rest := []) F Z.2.1 hI (xX6_require l Z.1 X σ _ (1 : Int32) q14 h15) g_X6_55 hd_X6_require ⟨by decide, by decide⟩ ⟨rfl, rfl⟩ rfl hl.1 rfl (Nat.le_of_ble_eq_true rfl) dX6_giveUp_32 ⟨by decide, by decide⟩)
        · obtain ⟨r16, h17, h⟩ := x_bnd h
          refine x_acv hI (x_runS (rest := []) F hI (mX6_require l X σ _ (1 : Int32) r16 h17) g_X6_55 hd_X6_require ⟨by decide, by decide⟩ ⟨rfl, rfl⟩ rfl hl.1 rfl (Nat.le_of_ble_eq_true rfl) dX6_giveUp_32 ⟨Nat.zero_le _, Nat.zero_le _⟩) (fun H locs hI => ?_)
          cases h
abbrev rm_X6_renew : Room := { frames := 5, cells := 0, slots := 0, locals := 110 }
def fX6_renew_j25 (σ : x_S) (y1 : Int32) (z0 : Int32) : Option (Int32 × x_S) := (Option.bind (fX6_require z0) fun r5 => (Option.bind (fX5_push σ ) fun r7 => (Option.bind (fX2_sendWant (r7 0) y1) fun r9 => x_let (x_sh r7 0 r9) fun τ11 => some ((τ11 0 3 0), τ11))))
set_option maxHeartbeats 4000000 in
set_option maxRecDepth 100000 in
theorem wX6_renew_j25 {p : Program} {l : Launch} {e : Env} {s : State} {m : MethodId} {args : Array Value} {below : List Frame} {meth : Method} {c : Code} {X : x_T} {r : (Int32 × x_S)} (F : x_F p s m args meth c cX6_renew 2 RX6 (some .int)) (σ : x_S) (y1 : Int32) (z0 : Int32) (H : Heap) (locs : List Loc) (ls : Array Slot) (h : fX6_renew_j25 σ y1 z0 = some r) (hI : x_I X σ s H locs) (hl : lv_has ls 2 [(0, .ref (X.2.2 10 32)), (1, .int y1)]) : W p l e rm_X6_renew s m args below meth c H locs 0 0 (MQ below (x_Qi X r.1 r.2 s.heap.size) args s 0 0 (x_A X s.heap.size)) (F0 m 25 ls [.int z0]) := by
  have hx := F.1
  have hb := F.2.1
  have hml := F.2.2.1
  have hown := F.2.2.2.1
  have hts := F.2.2.2.2.1
  unfold fX6_renew_j25 at h
  obtain ⟨r5, h6, h⟩ := x_bnd h
  refine x_acv hI (x_runS (rest := []) F hI (mX6_require l X σ _ z0 r5 h6) g_X6_55 hd_X6_require ⟨by decide, by decide⟩ ⟨rfl, rfl⟩ rfl hl.1 rfl (Nat.le_of_ble_eq_true rfl) dX6_renew_25 ⟨Nat.zero_le _, Nat.zero_le _⟩) (fun H locs hI => ?_)
  refine lv_aload_n hx hb dX6_renew_28 rfl (lv_at hl 0 rfl) ?_
  refine xsg_6_2 F hI (x_inO (by decide)) u_fl_X6_22 dX6_renew_29 ?_
  refine lv_aload_n hx hb dX6_renew_32 rfl (lv_at hl 0 rfl) ?_
  refine xsg_6_0 F hI (x_inO (by decide)) u_fl_X6_12 dX6_renew_33 ?_
  obtain ⟨r7, h8, h⟩ := x_bnd h
  refine x_acv hI (x_runV (rest := []) F hI (mX5_push l X _ σ  r7 h8) g_X6_59 ⟨rfl, hd_X5_push⟩ ⟨by decide, by decide⟩ ⟨rfl, rfl⟩ (x_inO (by decide)) rfl rfl rfl rfl hl.1 rfl (Nat.le_of_ble_eq_true rfl) dX6_renew_36 ⟨Nat.zero_le _, Nat.zero_le _⟩) (fun H locs hI => ?_)
  refine lv_aload_n hx hb dX6_renew_39 rfl (lv_at hl 0 rfl) ?_
  refine xsg_6_0 F hI (x_inO (by decide)) u_fl_X6_12 dX6_renew_40 ?_
  refine lv_iload_n hx hb dX6_renew_43 rfl (lv_at hl 1 rfl) ?_
  obtain ⟨r9, h10, h⟩ := x_bnd h
  have hI := x_toH 0 hI
  refine x_acv hI (x_runV (rest := []) F hI (mX2_sendWant l X r7 0 (show 0 < 10 by decide) _ (r7 0) y1 r9 h10) g_X6_85 ⟨rfl, hd_X2_sendWant⟩ ⟨by decide, by decide⟩ ⟨rfl, rfl⟩ (x_inH (show 0 < 10 by decide) (by decide)) rfl rfl rfl rfl hl.1 rfl (Nat.le_of_ble_eq_true rfl) dX6_renew_44 ⟨Nat.zero_le _, Nat.zero_le _⟩) (fun H locs hI => ?_)
  obtain ⟨τ11, e12⟩ : ∃ z : x_S, z = (x_sh r7 0 r9) := ⟨_, rfl⟩
  rw [← e12] at hI
  have h := x_let_at h e12
  refine lv_aload_n hx hb dX6_renew_47 rfl (lv_at hl 0 rfl) ?_
  refine xsg_6_0 F hI (x_inO (by decide)) u_fl_X6_12 dX6_renew_48 ?_
  refine xsg_2_2 F hI (x_inH (show 0 < 10 by decide) (by decide)) u_fl_X6_66 dX6_renew_51 ?_
  refine xsg_4_6 F hI (x_inH (show 0 < 10 by decide) (by decide)) u_fl_X6_70 dX6_renew_54 ?_
  rw [x_some h]
  exact x_iret F hI dX6_renew_57
def fX6_renew (σ : x_S) (a1 : Int32) : Option (Int32 × x_S) := (Option.bind (fX6_requireGuest a1) fun r1 => (if x_in a1 12 then (if (σ 0 5 (Int32.toNatClampNeg a1)) = (3 : Int32) then fX6_renew_j25 σ a1 (1 : Int32) else fX6_renew_j25 σ a1 (0 : Int32)) else none))
set_option maxHeartbeats 4000000 in
set_option maxRecDepth 100000 in
theorem mX6_renew (l : Launch) (X : x_T) (sz : Nat) (σ : x_S) (a1 : Int32) (r : (Int32 × x_S)) (h : fX6_renew σ a1 = some r) : Met l yX6_renew (x_ws yX6_renew cX6_renew 2 (some .int)) rm_X6_renew (x_Pc X σ sz [.ref (X.2.2 10 32), .int a1]) (x_Qi X r.1 r.2 sz) 0 0 (x_A X sz) := by
  refine Met.ofW (cc := cX6_renew) (maxL := 2) (ret := (some .int)) (by decide) rfl ?_
  intro p e s m args below meth c s₁ B hml hv
  obtain ⟨F, hI, rfl, rfl⟩ := x_begin B hml hv
  replace F : x_F p s m _ meth c cX6_renew 2 RX6 (some .int) := F
  have hx := F.1
  have hb := F.2.1
  have hml := F.2.2.1
  have hown := F.2.2.2.1
  have hts := F.2.2.2.2.1
  refine x_entry (vs := [.ref (X.2.2 10 32), .int a1]) (n := 2) (Nat.le_of_ble_eq_true rfl) (fun ls hl => ?_)
  replace hl : lv_has ls 2 [(0, .ref (X.2.2 10 32)), (1, .int a1)] := hl
  unfold fX6_renew at h
  refine lv_iload_n hx hb dX6_renew_0 rfl (lv_at hl 1 rfl) ?_
  obtain ⟨r1, h2, h⟩ := x_bnd h
  refine x_acv hI (x_runS (rest := []) F hI (mX6_requireGuest l X σ _ a1 r1 h2) g_X6_41 hd_X6_requireGuest ⟨by decide, by decide⟩ ⟨rfl, rfl⟩ rfl hl.1 rfl (Nat.le_of_ble_eq_true rfl) dX6_renew_1 ⟨Nat.zero_le _, Nat.zero_le _⟩) (fun H locs hI => ?_)
  refine lv_aload_n hx hb dX6_renew_4 rfl (lv_at hl 0 rfl) ?_
  refine xsg_6_0 F hI (x_inO (by decide)) u_fl_X6_12 dX6_renew_5 ?_
  refine xsg_2_0 F hI (x_inH (show 0 < 10 by decide) (by decide)) u_fl_X6_45 dX6_renew_8 ?_
  refine xsg_1_0 F hI (x_inH (show 0 < 10 by decide) (by decide)) u_fl_X6_49 dX6_renew_11 ?_
  refine lv_iload_n hx hb dX6_renew_14 rfl (lv_at hl 1 rfl) ?_
  obtain ⟨g3, h⟩ := x_chk h
  refine x_iald (n := 12) F hI (x_inH (show 0 < 10 by decide) (by decide)) (fun _ => rfl) g3 dX6_renew_15 ?_
  refine lv_iconst (v := 3) hx hb dX6_renew_16 (by decide) ?_
  refine lv_icmp_ne (tgt := 24) hx hb dX6_renew_17 (by decide) (fun c4 => ?_) (fun c4 => ?_)
  · have h := x_iff h c4
    refine lv_iconst (v := 0) hx hb dX6_renew_24 (by decide) ?_
    exact wX6_renew_j25 F σ a1 (0 : Int32) _ _ _ h hI (lv_sub hl [0, 1] rfl)
  · have h := x_ift h c4
    refine lv_iconst (v := 1) hx hb dX6_renew_20 (by decide) ?_
    refine lv_goto (tgt := 25) hx hb dX6_renew_21 (by decide) ?_
    exact wX6_renew_j25 F σ a1 (1 : Int32) _ _ _ h hI (lv_sub hl [0, 1] rfl)
abbrev rx_X6_renew : Room := { frames := 7, cells := 1, slots := 6, locals := 110 }
def eX6_renew (σ : x_S) (a1 : Int32) : Option (Nat × x_S) := (x_or (eX6_requireGuest a1) (fun q1 => some (q1, σ)) (Option.bind (fX6_requireGuest a1) fun r3 => (if x_in a1 12 then (if (σ 0 5 (Int32.toNatClampNeg a1)) = (3 : Int32) then (x_or (eX6_require (1 : Int32)) (fun q7 => some (q7, σ)) (Option.bind (fX6_require (1 : Int32)) fun r9 => none)) else (x_or (eX6_require (0 : Int32)) (fun q11 => some (q11, σ)) (Option.bind (fX6_require (0 : Int32)) fun r13 => none))) else none)))
set_option maxHeartbeats 4000000 in
set_option maxRecDepth 100000 in
theorem xX6_renew (l : Launch) (hl0 : l.stackTraces = false) (X : x_T) (sz : Nat) (σ : x_S) (a1 : Int32) (r : (Nat × x_S)) (h : eX6_renew σ a1 = some r) : vx_Met l yX6_renew (x_ws yX6_renew cX6_renew 2 (some .int)) rx_X6_renew (x_PcT X σ sz [.ref (X.2.2 10 32), .int a1]) (xt_Qi X sz) (xt_C X r.1 r.2 sz) 1 6 (x_A X sz) := by
  refine vx_ofW (cc := cX6_renew) (maxL := 2) (ret := (some .int)) (by decide) rfl ?_
  intro p e s m args below meth c s₁ B hml hnt hv
  obtain ⟨F, Z, hI, rfl, rfl⟩ := xt_begin hl0 B hml hnt hv
  replace F : x_F p s m _ meth c cX6_renew 2 RX6 (some .int) := F
  have hx := F.1
  have hb := F.2.1
  have hml := F.2.2.1
  have hown := F.2.2.2.1
  have hts := F.2.2.2.2.1
  refine x_entry (vs := [.ref (X.2.2 10 32), .int a1]) (n := 2) (Nat.le_of_ble_eq_true rfl) (fun ls hl => ?_)
  replace hl : lv_has ls 2 [(0, .ref (X.2.2 10 32)), (1, .int a1)] := hl
  unfold eX6_renew at h
  refine lv_iload_n hx hb dX6_renew_0 rfl (lv_at hl 1 rfl) ?_
  rcases x_or_el h with ⟨q1, h2, h⟩ | ⟨-, h⟩
  · rw [x_some h]
    exact xt_acv F Z hI (xt_runS (rest := []) F Z.2.1 hI (xX6_requireGuest l Z.1 X σ _ a1 q1 h2) g_X6_41 hd_X6_requireGuest ⟨by decide, by decide⟩ ⟨rfl, rfl⟩ rfl hl.1 rfl (Nat.le_of_ble_eq_true rfl) dX6_renew_1 ⟨by decide, by decide⟩)
  · obtain ⟨r3, h4, h⟩ := x_bnd h
    refine x_acv hI (x_runS (rest := []) F hI (mX6_requireGuest l X σ _ a1 r3 h4) g_X6_41 hd_X6_requireGuest ⟨by decide, by decide⟩ ⟨rfl, rfl⟩ rfl hl.1 rfl (Nat.le_of_ble_eq_true rfl) dX6_renew_1 ⟨Nat.zero_le _, Nat.zero_le _⟩) (fun H locs hI => ?_)
    refine lv_aload_n hx hb dX6_renew_4 rfl (lv_at hl 0 rfl) ?_
    refine xsg_6_0 F hI (x_inO (by decide)) u_fl_X6_12 dX6_renew_5 ?_
    refine xsg_2_0 F hI (x_inH (show 0 < 10 by decide) (by decide)) u_fl_X6_45 dX6_renew_8 ?_
    refine xsg_1_0 F hI (x_inH (show 0 < 10 by decide) (by decide)) u_fl_X6_49 dX6_renew_11 ?_
    refine lv_iload_n hx hb dX6_renew_14 rfl (lv_at hl 1 rfl) ?_
    obtain ⟨g5, h⟩ := x_chk h
    refine x_iald (n := 12) F hI (x_inH (show 0 < 10 by decide) (by decide)) (fun _ => rfl) g5 dX6_renew_15 ?_
    refine lv_iconst (v := 3) hx hb dX6_renew_16 (by decide) ?_
    refine lv_icmp_ne (tgt := 24) hx hb dX6_renew_17 (by decide) (fun c6 => ?_) (fun c6 => ?_)
    · have h := x_iff h c6
      refine lv_iconst (v := 0) hx hb dX6_renew_24 (by decide) ?_
      rcases x_or_el h with ⟨q11, h12, h⟩ | ⟨-, h⟩
      · rw [x_some h]
        exact xt_acv F Z hI (xt_runS (rest := []) F Z.2.1 hI (xX6_require l Z.1 X σ _ (0 : Int32) q11 h12) g_X6_55 hd_X6_require ⟨by decide, by decide⟩ ⟨rfl, rfl⟩ rfl hl.1 rfl (Nat.le_of_ble_eq_true rfl) dX6_renew_25 ⟨by decide, by decide⟩)
      · obtain ⟨r13, h14, h⟩ := x_bnd h
        refine x_acv hI (x_runS (rest := []) F hI (mX6_require l X σ _ (0 : Int32) r13 h14) g_X6_55 hd_X6_require ⟨by decide, by decide⟩ ⟨rfl, rfl⟩ rfl hl.1 rfl (Nat.le_of_ble_eq_true rfl) dX6_renew_25 ⟨Nat.zero_le _, Nat.zero_le _⟩) (fun H locs hI => ?_)
        cases h
    · have h := x_ift h c6
      refine lv_iconst (v := 1) hx hb dX6_renew_20 (by decide) ?_
      refine lv_goto (tgt := 25) hx hb dX6_renew_21 (by decide) ?_
      rcases x_or_el h with ⟨q7, h8, h⟩ | ⟨-, h⟩
      · rw [x_some h]
        exact xt_acv F Z hI (xt_runS (rest := []) F Z.2.1 hI (xX6_require l Z.1 X σ _ (1 : Int32) q7 h8) g_X6_55 hd_X6_require ⟨by decide, by decide⟩ ⟨rfl, rfl⟩ rfl hl.1 rfl (Nat.le_of_ble_eq_true rfl) dX6_renew_25 ⟨by decide, by decide⟩)
      · obtain ⟨r9, h10, h⟩ := x_bnd h
        refine x_acv hI (x_runS (rest := []) F hI (mX6_require l X σ _ (1 : Int32) r9 h10) g_X6_55 hd_X6_require ⟨by decide, by decide⟩ ⟨rfl, rfl⟩ rfl hl.1 rfl (Nat.le_of_ble_eq_true rfl) dX6_renew_25 ⟨Nat.zero_le _, Nat.zero_le _⟩) (fun H locs hI => ?_)
        cases h
abbrev rm_X6_requireRoom : Room := { frames := 1, cells := 0, slots := 0, locals := 20 }
def fX6_requireRoom (a1 : Int32) : Option Unit := (Option.bind (fX6_isRoom a1) fun r1 => (if r1 = 0 then none else some ()))
set_option maxHeartbeats 4000000 in
set_option maxRecDepth 100000 in
theorem mX6_requireRoom (l : Launch) (X : x_T) (σ : x_S) (sz : Nat) (a1 : Int32) (r : Unit) (h : fX6_requireRoom a1 = some r) : Met l yX6_requireRoom (x_ws yX6_requireRoom cX6_requireRoom 1 none) rm_X6_requireRoom (x_Pc X σ sz [.int a1]) (x_Qv X σ sz) 0 0 (x_A X sz) := by
  refine Met.ofW (cc := cX6_requireRoom) (maxL := 1) (ret := none) (by decide) rfl ?_
  intro p e s m args below meth c s₁ B hml hv
  obtain ⟨F, hI, rfl, rfl⟩ := x_begin B hml hv
  replace F : x_F p s m _ meth c cX6_requireRoom 1 RX6 none := F
  have hx := F.1
  have hb := F.2.1
  have hml := F.2.2.1
  have hown := F.2.2.2.1
  have hts := F.2.2.2.2.1
  refine x_entry (vs := [.int a1]) (n := 1) (Nat.le_of_ble_eq_true rfl) (fun ls hl => ?_)
  replace hl : lv_has ls 1 [(0, .int a1)] := hl
  unfold fX6_requireRoom at h
  refine lv_iload_n hx hb dX6_requireRoom_0 rfl (lv_at hl 0 rfl) ?_
  obtain ⟨r1, h2, h⟩ := x_bnd h
  refine x_aci hI (x_runS (rest := []) F hI (mX6_isRoom l X σ _ a1 r1 h2) g_X6_282 hd_X6_isRoom ⟨by decide, by decide⟩ ⟨rfl, rfl⟩ rfl hl.1 rfl (Nat.le_of_ble_eq_true rfl) dX6_requireRoom_1 ⟨Nat.zero_le _, Nat.zero_le _⟩) (fun H locs hI => ?_)
  refine lv_if_ne (tgt := 18) hx hb dX6_requireRoom_4 (by decide) (fun c3 => ?_) (fun c3 => ?_)
  · have h := x_iff h c3
    exact x_vret F hI dX6_requireRoom_18
  · have h := x_ift h c3
    cases h
abbrev rx_X6_requireRoom : Room := { frames := 6, cells := 1, slots := 6, locals := 82 }
def eX6_requireRoom (a1 : Int32) : Option Nat := (Option.bind (fX6_isRoom a1) fun r1 => (if r1 = 0 then some 0 else none))
set_option maxHeartbeats 4000000 in
set_option maxRecDepth 100000 in
theorem xX6_requireRoom (l : Launch) (hl0 : l.stackTraces = false) (X : x_T) (σ : x_S) (sz : Nat) (a1 : Int32) (r : Nat) (h : eX6_requireRoom a1 = some r) : vx_Met l yX6_requireRoom (x_ws yX6_requireRoom cX6_requireRoom 1 none) rx_X6_requireRoom (x_PcT X σ sz [.int a1]) (xt_Qv X sz) (xt_C X r σ sz) 1 6 (x_A X sz) := by
  refine vx_ofW (cc := cX6_requireRoom) (maxL := 1) (ret := none) (by decide) rfl ?_
  intro p e s m args below meth c s₁ B hml hnt hv
  obtain ⟨F, Z, hI, rfl, rfl⟩ := xt_begin hl0 B hml hnt hv
  replace F : x_F p s m _ meth c cX6_requireRoom 1 RX6 none := F
  have hx := F.1
  have hb := F.2.1
  have hml := F.2.2.1
  have hown := F.2.2.2.1
  have hts := F.2.2.2.2.1
  refine x_entry (vs := [.int a1]) (n := 1) (Nat.le_of_ble_eq_true rfl) (fun ls hl => ?_)
  replace hl : lv_has ls 1 [(0, .int a1)] := hl
  unfold eX6_requireRoom at h
  refine lv_iload_n hx hb dX6_requireRoom_0 rfl (lv_at hl 0 rfl) ?_
  obtain ⟨r1, h2, h⟩ := x_bnd h
  refine x_aci hI (x_runS (rest := []) F hI (mX6_isRoom l X σ _ a1 r1 h2) g_X6_282 hd_X6_isRoom ⟨by decide, by decide⟩ ⟨rfl, rfl⟩ rfl hl.1 rfl (Nat.le_of_ble_eq_true rfl) dX6_requireRoom_1 ⟨Nat.zero_le _, Nat.zero_le _⟩) (fun H locs hI => ?_)
  refine lv_if_ne (tgt := 18) hx hb dX6_requireRoom_4 (by decide) (fun c3 => ?_) (fun c3 => ?_)
  · have h := x_iff h c3
    cases h
  · have h := x_ift h c3
    rw [x_some h]
    exact xt_throwW (ex := 0) (is := 285) (text := "there is no such room") F Z hI xt_ok0 (by decide +kernel) hl.1 ⟨by decide, by decide, by decide, by decide⟩ dX6_requireRoom_7 dX6_requireRoom_10 dX6_requireRoom_11 dX6_requireRoom_14 dX6_requireRoom_17
abbrev rm_X6_reserve : Room := { frames := 5, cells := 0, slots := 0, locals := 110 }
def fX6_reserve_j29 (σ : x_S) (y1 : Int32) (y2 : Int32) (z0 : Int32) : Option x_S := (Option.bind (fX6_require z0) fun r7 => (Option.bind (fX5_push σ ) fun r9 => (Option.bind (fX3_dropReservation (r9 0) y1) fun r11 => x_let (x_sh r9 0 r11.2) fun τ13 => (if x_in y2 16 then x_let (x_sh τ13 0 (x_hu (τ13 0) 16 (Int32.toNatClampNeg y2) y1)) fun τ15 => some (τ15) else none))))
set_option maxHeartbeats 4000000 in
set_option maxRecDepth 100000 in
theorem wX6_reserve_j29 {p : Program} {l : Launch} {e : Env} {s : State} {m : MethodId} {args : Array Value} {below : List Frame} {meth : Method} {c : Code} {X : x_T} {r : x_S} (F : x_F p s m args meth c cX6_reserve 3 RX6 none) (σ : x_S) (y1 : Int32) (y2 : Int32) (z0 : Int32) (H : Heap) (locs : List Loc) (ls : Array Slot) (h : fX6_reserve_j29 σ y1 y2 z0 = some r) (hI : x_I X σ s H locs) (hl : lv_has ls 3 [(0, .ref (X.2.2 10 32)), (1, .int y1), (2, .int y2)]) : W p l e rm_X6_reserve s m args below meth c H locs 0 0 (MQ below (x_Qv X r s.heap.size) args s 0 0 (x_A X s.heap.size)) (F0 m 29 ls [.int z0]) := by
  have hx := F.1
  have hb := F.2.1
  have hml := F.2.2.1
  have hown := F.2.2.2.1
  have hts := F.2.2.2.2.1
  unfold fX6_reserve_j29 at h
  obtain ⟨r7, h8, h⟩ := x_bnd h
  refine x_acv hI (x_runS (rest := []) F hI (mX6_require l X σ _ z0 r7 h8) g_X6_55 hd_X6_require ⟨by decide, by decide⟩ ⟨rfl, rfl⟩ rfl hl.1 rfl (Nat.le_of_ble_eq_true rfl) dX6_reserve_29 ⟨Nat.zero_le _, Nat.zero_le _⟩) (fun H locs hI => ?_)
  refine lv_aload_n hx hb dX6_reserve_32 rfl (lv_at hl 0 rfl) ?_
  refine xsg_6_2 F hI (x_inO (by decide)) u_fl_X6_22 dX6_reserve_33 ?_
  refine lv_aload_n hx hb dX6_reserve_36 rfl (lv_at hl 0 rfl) ?_
  refine xsg_6_0 F hI (x_inO (by decide)) u_fl_X6_12 dX6_reserve_37 ?_
  obtain ⟨r9, h10, h⟩ := x_bnd h
  refine x_acv hI (x_runV (rest := []) F hI (mX5_push l X _ σ  r9 h10) g_X6_59 ⟨rfl, hd_X5_push⟩ ⟨by decide, by decide⟩ ⟨rfl, rfl⟩ (x_inO (by decide)) rfl rfl rfl rfl hl.1 rfl (Nat.le_of_ble_eq_true rfl) dX6_reserve_40 ⟨Nat.zero_le _, Nat.zero_le _⟩) (fun H locs hI => ?_)
  refine lv_aload_n hx hb dX6_reserve_43 rfl (lv_at hl 0 rfl) ?_
  refine xsg_6_0 F hI (x_inO (by decide)) u_fl_X6_12 dX6_reserve_44 ?_
  refine xsg_2_1 F hI (x_inH (show 0 < 10 by decide) (by decide)) u_fl_X6_91 dX6_reserve_47 ?_
  refine lv_iload_n hx hb dX6_reserve_50 rfl (lv_at hl 1 rfl) ?_
  obtain ⟨r11, h12, h⟩ := x_bnd h
  have hI := x_toH 0 hI
  refine x_aci hI (x_runV (rest := []) F hI (mX3_dropReservation l X r9 0 (show 0 < 10 by decide) _ (r9 0) y1 r11 h12) g_X6_100 ⟨rfl, hd_X3_dropReservation⟩ ⟨by decide, by decide⟩ ⟨rfl, rfl⟩ (x_inH (show 0 < 10 by decide) (by decide)) rfl rfl rfl rfl hl.1 rfl (Nat.le_of_ble_eq_true rfl) dX6_reserve_51 ⟨Nat.zero_le _, Nat.zero_le _⟩) (fun H locs hI => ?_)
  obtain ⟨τ13, e14⟩ : ∃ z : x_S, z = (x_sh r9 0 r11.2) := ⟨_, rfl⟩
  rw [← e14] at hI
  have h := x_let_at h e14
  refine lv_pop hx hb dX6_reserve_54 rfl ?_
  refine lv_aload_n hx hb dX6_reserve_55 rfl (lv_at hl 0 rfl) ?_
  refine xsg_6_0 F hI (x_inO (by decide)) u_fl_X6_12 dX6_reserve_56 ?_
  refine xsg_2_1 F hI (x_inH (show 0 < 10 by decide) (by decide)) u_fl_X6_91 dX6_reserve_59 ?_
  refine xsg_3_4 F hI (x_inH (show 0 < 10 by decide) (by decide)) u_fl_X6_95 dX6_reserve_62 ?_
  refine lv_iload_n hx hb dX6_reserve_65 rfl (lv_at hl 2 rfl) ?_
  refine lv_iload_n hx hb dX6_reserve_66 rfl (lv_at hl 1 rfl) ?_
  obtain ⟨g17, h⟩ := x_chk h
  refine x_iast (n := 16) F hI (x_inH (show 0 < 10 by decide) (by decide)) (fun _ => rfl) g17 dX6_reserve_67 (fun H locs hI => ?_)
  obtain ⟨τ15, e16⟩ : ∃ z : x_S, z = (x_sh τ13 0 (x_hu (τ13 0) 16 (Int32.toNatClampNeg y2) y1)) := ⟨_, rfl⟩
  rw [← e16] at hI
  have h := x_let_at h e16
  rw [x_some h]
  exact x_vret F hI dX6_reserve_68
def fX6_reserve (σ : x_S) (a1 : Int32) (a2 : Int32) : Option x_S := (Option.bind (fX6_requireGuest a1) fun r1 => (Option.bind (fX6_requireRoom a2) fun r3 => (if x_in a2 16 then (if (σ 0 16 (Int32.toNatClampNeg a2)) = (-1 : Int32) then fX6_reserve_j29 σ a1 a2 (1 : Int32) else fX6_reserve_j29 σ a1 a2 (0 : Int32)) else none)))
set_option maxHeartbeats 4000000 in
set_option maxRecDepth 100000 in
theorem mX6_reserve (l : Launch) (X : x_T) (sz : Nat) (σ : x_S) (a1 : Int32) (a2 : Int32) (r : x_S) (h : fX6_reserve σ a1 a2 = some r) : Met l yX6_reserve (x_ws yX6_reserve cX6_reserve 3 none) rm_X6_reserve (x_Pc X σ sz [.ref (X.2.2 10 32), .int a1, .int a2]) (x_Qv X r sz) 0 0 (x_A X sz) := by
  refine Met.ofW (cc := cX6_reserve) (maxL := 3) (ret := none) (by decide) rfl ?_
  intro p e s m args below meth c s₁ B hml hv
  obtain ⟨F, hI, rfl, rfl⟩ := x_begin B hml hv
  replace F : x_F p s m _ meth c cX6_reserve 3 RX6 none := F
  have hx := F.1
  have hb := F.2.1
  have hml := F.2.2.1
  have hown := F.2.2.2.1
  have hts := F.2.2.2.2.1
  refine x_entry (vs := [.ref (X.2.2 10 32), .int a1, .int a2]) (n := 3) (Nat.le_of_ble_eq_true rfl) (fun ls hl => ?_)
  replace hl : lv_has ls 3 [(0, .ref (X.2.2 10 32)), (1, .int a1), (2, .int a2)] := hl
  unfold fX6_reserve at h
  refine lv_iload_n hx hb dX6_reserve_0 rfl (lv_at hl 1 rfl) ?_
  obtain ⟨r1, h2, h⟩ := x_bnd h
  refine x_acv hI (x_runS (rest := []) F hI (mX6_requireGuest l X σ _ a1 r1 h2) g_X6_41 hd_X6_requireGuest ⟨by decide, by decide⟩ ⟨rfl, rfl⟩ rfl hl.1 rfl (Nat.le_of_ble_eq_true rfl) dX6_reserve_1 ⟨Nat.zero_le _, Nat.zero_le _⟩) (fun H locs hI => ?_)
  refine lv_iload_n hx hb dX6_reserve_4 rfl (lv_at hl 2 rfl) ?_
  obtain ⟨r3, h4, h⟩ := x_bnd h
  refine x_acv hI (x_runS (rest := []) F hI (mX6_requireRoom l X σ _ a2 r3 h4) g_X6_88 hd_X6_requireRoom ⟨by decide, by decide⟩ ⟨rfl, rfl⟩ rfl hl.1 rfl (Nat.le_of_ble_eq_true rfl) dX6_reserve_5 ⟨Nat.zero_le _, Nat.zero_le _⟩) (fun H locs hI => ?_)
  refine lv_aload_n hx hb dX6_reserve_8 rfl (lv_at hl 0 rfl) ?_
  refine xsg_6_0 F hI (x_inO (by decide)) u_fl_X6_12 dX6_reserve_9 ?_
  refine xsg_2_1 F hI (x_inH (show 0 < 10 by decide) (by decide)) u_fl_X6_91 dX6_reserve_12 ?_
  refine xsg_3_4 F hI (x_inH (show 0 < 10 by decide) (by decide)) u_fl_X6_95 dX6_reserve_15 ?_
  refine lv_iload_n hx hb dX6_reserve_18 rfl (lv_at hl 2 rfl) ?_
  obtain ⟨g5, h⟩ := x_chk h
  refine x_iald (n := 16) F hI (x_inH (show 0 < 10 by decide) (by decide)) (fun _ => rfl) g5 dX6_reserve_19 ?_
  refine lv_iconst (v := (-1)) hx hb dX6_reserve_20 (by decide) ?_
  refine lv_icmp_ne (tgt := 28) hx hb dX6_reserve_21 (by decide) (fun c6 => ?_) (fun c6 => ?_)
  · have h := x_iff h c6
    refine lv_iconst (v := 0) hx hb dX6_reserve_28 (by decide) ?_
    exact wX6_reserve_j29 F σ a1 a2 (0 : Int32) _ _ _ h hI (lv_sub hl [0, 1, 2] rfl)
  · have h := x_ift h c6
    refine lv_iconst (v := 1) hx hb dX6_reserve_24 (by decide) ?_
    refine lv_goto (tgt := 29) hx hb dX6_reserve_25 (by decide) ?_
    exact wX6_reserve_j29 F σ a1 a2 (1 : Int32) _ _ _ h hI (lv_sub hl [0, 1, 2] rfl)
abbrev rx_X6_reserve : Room := { frames := 7, cells := 1, slots := 6, locals := 110 }
def eX6_reserve (σ : x_S) (a1 : Int32) (a2 : Int32) : Option (Nat × x_S) := (x_or (eX6_requireGuest a1) (fun q1 => some (q1, σ)) (Option.bind (fX6_requireGuest a1) fun r3 => (x_or (eX6_requireRoom a2) (fun q5 => some (q5, σ)) (Option.bind (fX6_requireRoom a2) fun r7 => (if x_in a2 16 then (if (σ 0 16 (Int32.toNatClampNeg a2)) = (-1 : Int32) then (x_or (eX6_require (1 : Int32)) (fun q11 => some (q11, σ)) (Option.bind (fX6_require (1 : Int32)) fun r13 => none)) else (x_or (eX6_require (0 : Int32)) (fun q15 => some (q15, σ)) (Option.bind (fX6_require (0 : Int32)) fun r17 => none))) else none)))))
set_option maxHeartbeats 4000000 in
set_option maxRecDepth 100000 in
theorem xX6_reserve (l : Launch) (hl0 : l.stackTraces = false) (X : x_T) (sz : Nat) (σ : x_S) (a1 : Int32) (a2 : Int32) (r : (Nat × x_S)) (h : eX6_reserve σ a1 a2 = some r) : vx_Met l yX6_reserve (x_ws yX6_reserve cX6_reserve 3 none) rx_X6_reserve (x_PcT X σ sz [.ref (X.2.2 10 32), .int a1, .int a2]) (xt_Qv X sz) (xt_C X r.1 r.2 sz) 1 6 (x_A X sz) := by
  refine vx_ofW (cc := cX6_reserve) (maxL := 3) (ret := none) (by decide) rfl ?_
  intro p e s m args below meth c s₁ B hml hnt hv
  obtain ⟨F, Z, hI, rfl, rfl⟩ := xt_begin hl0 B hml hnt hv
  replace F : x_F p s m _ meth c cX6_reserve 3 RX6 none := F
  have hx := F.1
  have hb := F.2.1
  have hml := F.2.2.1
  have hown := F.2.2.2.1
  have hts := F.2.2.2.2.1
  refine x_entry (vs := [.ref (X.2.2 10 32), .int a1, .int a2]) (n := 3) (Nat.le_of_ble_eq_true rfl) (fun ls hl => ?_)
  replace hl : lv_has ls 3 [(0, .ref (X.2.2 10 32)), (1, .int a1), (2, .int a2)] := hl
  unfold eX6_reserve at h
  refine lv_iload_n hx hb dX6_reserve_0 rfl (lv_at hl 1 rfl) ?_
  rcases x_or_el h with ⟨q1, h2, h⟩ | ⟨-, h⟩
  · rw [x_some h]
    exact xt_acv F Z hI (xt_runS (rest := []) F Z.2.1 hI (xX6_requireGuest l Z.1 X σ _ a1 q1 h2) g_X6_41 hd_X6_requireGuest ⟨by decide, by decide⟩ ⟨rfl, rfl⟩ rfl hl.1 rfl (Nat.le_of_ble_eq_true rfl) dX6_reserve_1 ⟨by decide, by decide⟩)
  · obtain ⟨r3, h4, h⟩ := x_bnd h
    refine x_acv hI (x_runS (rest := []) F hI (mX6_requireGuest l X σ _ a1 r3 h4) g_X6_41 hd_X6_requireGuest ⟨by decide, by decide⟩ ⟨rfl, rfl⟩ rfl hl.1 rfl (Nat.le_of_ble_eq_true rfl) dX6_reserve_1 ⟨Nat.zero_le _, Nat.zero_le _⟩) (fun H locs hI => ?_)
    refine lv_iload_n hx hb dX6_reserve_4 rfl (lv_at hl 2 rfl) ?_
    rcases x_or_el h with ⟨q5, h6, h⟩ | ⟨-, h⟩
    · rw [x_some h]
      exact xt_acv F Z hI (xt_runS (rest := []) F Z.2.1 hI (xX6_requireRoom l Z.1 X σ _ a2 q5 h6) g_X6_88 hd_X6_requireRoom ⟨by decide, by decide⟩ ⟨rfl, rfl⟩ rfl hl.1 rfl (Nat.le_of_ble_eq_true rfl) dX6_reserve_5 ⟨by decide, by decide⟩)
    · obtain ⟨r7, h8, h⟩ := x_bnd h
      refine x_acv hI (x_runS (rest := []) F hI (mX6_requireRoom l X σ _ a2 r7 h8) g_X6_88 hd_X6_requireRoom ⟨by decide, by decide⟩ ⟨rfl, rfl⟩ rfl hl.1 rfl (Nat.le_of_ble_eq_true rfl) dX6_reserve_5 ⟨Nat.zero_le _, Nat.zero_le _⟩) (fun H locs hI => ?_)
      refine lv_aload_n hx hb dX6_reserve_8 rfl (lv_at hl 0 rfl) ?_
      refine xsg_6_0 F hI (x_inO (by decide)) u_fl_X6_12 dX6_reserve_9 ?_
      refine xsg_2_1 F hI (x_inH (show 0 < 10 by decide) (by decide)) u_fl_X6_91 dX6_reserve_12 ?_
      refine xsg_3_4 F hI (x_inH (show 0 < 10 by decide) (by decide)) u_fl_X6_95 dX6_reserve_15 ?_
      refine lv_iload_n hx hb dX6_reserve_18 rfl (lv_at hl 2 rfl) ?_
      obtain ⟨g9, h⟩ := x_chk h
      refine x_iald (n := 16) F hI (x_inH (show 0 < 10 by decide) (by decide)) (fun _ => rfl) g9 dX6_reserve_19 ?_
      refine lv_iconst (v := (-1)) hx hb dX6_reserve_20 (by decide) ?_
      refine lv_icmp_ne (tgt := 28) hx hb dX6_reserve_21 (by decide) (fun c10 => ?_) (fun c10 => ?_)
      · have h := x_iff h c10
        refine lv_iconst (v := 0) hx hb dX6_reserve_28 (by decide) ?_
        rcases x_or_el h with ⟨q15, h16, h⟩ | ⟨-, h⟩
        · rw [x_some h]
          exact xt_acv F Z hI (xt_runS (rest := []) F Z.2.1 hI (xX6_require l Z.1 X σ _ (0 : Int32) q15 h16) g_X6_55 hd_X6_require ⟨by decide, by decide⟩ ⟨rfl, rfl⟩ rfl hl.1 rfl (Nat.le_of_ble_eq_true rfl) dX6_reserve_29 ⟨by decide, by decide⟩)
        · obtain ⟨r17, h18, h⟩ := x_bnd h
          refine x_acv hI (x_runS (rest := []) F hI (mX6_require l X σ _ (0 : Int32) r17 h18) g_X6_55 hd_X6_require ⟨by decide, by decide⟩ ⟨rfl, rfl⟩ rfl hl.1 rfl (Nat.le_of_ble_eq_true rfl) dX6_reserve_29 ⟨Nat.zero_le _, Nat.zero_le _⟩) (fun H locs hI => ?_)
          cases h
      · have h := x_ift h c10
        refine lv_iconst (v := 1) hx hb dX6_reserve_24 (by decide) ?_
        refine lv_goto (tgt := 29) hx hb dX6_reserve_25 (by decide) ?_
        rcases x_or_el h with ⟨q11, h12, h⟩ | ⟨-, h⟩
        · rw [x_some h]
          exact xt_acv F Z hI (xt_runS (rest := []) F Z.2.1 hI (xX6_require l Z.1 X σ _ (1 : Int32) q11 h12) g_X6_55 hd_X6_require ⟨by decide, by decide⟩ ⟨rfl, rfl⟩ rfl hl.1 rfl (Nat.le_of_ble_eq_true rfl) dX6_reserve_29 ⟨by decide, by decide⟩)
        · obtain ⟨r13, h14, h⟩ := x_bnd h
          refine x_acv hI (x_runS (rest := []) F hI (mX6_require l X σ _ (1 : Int32) r13 h14) g_X6_55 hd_X6_require ⟨by decide, by decide⟩ ⟨rfl, rfl⟩ rfl hl.1 rfl (Nat.le_of_ble_eq_true rfl) dX6_reserve_29 ⟨Nat.zero_le _, Nat.zero_le _⟩) (fun H locs hI => ?_)
          cases h
abbrev rm_X6_unreserve : Room := { frames := 5, cells := 0, slots := 0, locals := 110 }
def fX6_unreserve (σ : x_S) (a1 : Int32) : Option (Int32 × x_S) := (Option.bind (fX6_requireGuest a1) fun r1 => (Option.bind (fX3_reservedRoom (σ 0) a1) fun r3 => (if r3 = (-1 : Int32) then (Option.bind (fX6_require (0 : Int32)) fun r6 => (Option.bind (fX5_push σ ) fun r8 => (Option.bind (fX3_dropReservation (r8 0) a1) fun r10 => x_let (x_sh r8 0 r10.2) fun τ12 => some (r10.1, τ12)))) else (Option.bind (fX6_require (1 : Int32)) fun r14 => (Option.bind (fX5_push σ ) fun r16 => (Option.bind (fX3_dropReservation (r16 0) a1) fun r18 => x_let (x_sh r16 0 r18.2) fun τ20 => some (r18.1, τ20)))))))
set_option maxHeartbeats 4000000 in
set_option maxRecDepth 100000 in
theorem mX6_unreserve (l : Launch) (X : x_T) (sz : Nat) (σ : x_S) (a1 : Int32) (r : (Int32 × x_S)) (h : fX6_unreserve σ a1 = some r) : Met l yX6_unreserve (x_ws yX6_unreserve cX6_unreserve 2 (some .int)) rm_X6_unreserve (x_Pc X σ sz [.ref (X.2.2 10 32), .int a1]) (x_Qi X r.1 r.2 sz) 0 0 (x_A X sz) := by
  refine Met.ofW (cc := cX6_unreserve) (maxL := 2) (ret := (some .int)) (by decide) rfl ?_
  intro p e s m args below meth c s₁ B hml hv
  obtain ⟨F, hI, rfl, rfl⟩ := x_begin B hml hv
  replace F : x_F p s m _ meth c cX6_unreserve 2 RX6 (some .int) := F
  have hx := F.1
  have hb := F.2.1
  have hml := F.2.2.1
  have hown := F.2.2.2.1
  have hts := F.2.2.2.2.1
  refine x_entry (vs := [.ref (X.2.2 10 32), .int a1]) (n := 2) (Nat.le_of_ble_eq_true rfl) (fun ls hl => ?_)
  replace hl : lv_has ls 2 [(0, .ref (X.2.2 10 32)), (1, .int a1)] := hl
  unfold fX6_unreserve at h
  refine lv_iload_n hx hb dX6_unreserve_0 rfl (lv_at hl 1 rfl) ?_
  obtain ⟨r1, h2, h⟩ := x_bnd h
  refine x_acv hI (x_runS (rest := []) F hI (mX6_requireGuest l X σ _ a1 r1 h2) g_X6_41 hd_X6_requireGuest ⟨by decide, by decide⟩ ⟨rfl, rfl⟩ rfl hl.1 rfl (Nat.le_of_ble_eq_true rfl) dX6_unreserve_1 ⟨Nat.zero_le _, Nat.zero_le _⟩) (fun H locs hI => ?_)
  refine lv_aload_n hx hb dX6_unreserve_4 rfl (lv_at hl 0 rfl) ?_
  refine xsg_6_0 F hI (x_inO (by decide)) u_fl_X6_12 dX6_unreserve_5 ?_
  refine xsg_2_1 F hI (x_inH (show 0 < 10 by decide) (by decide)) u_fl_X6_91 dX6_unreserve_8 ?_
  refine lv_iload_n hx hb dX6_unreserve_11 rfl (lv_at hl 1 rfl) ?_
  obtain ⟨r3, h4, h⟩ := x_bnd h
  have hI := x_toH 0 hI
  refine x_aci hI (x_runV (rest := []) F hI (mX3_reservedRoom l X σ 0 (show 0 < 10 by decide) _ (σ 0) a1 r3 h4) g_X6_104 ⟨rfl, hd_X3_reservedRoom⟩ ⟨by decide, by decide⟩ ⟨rfl, rfl⟩ (x_inH (show 0 < 10 by decide) (by decide)) rfl rfl rfl rfl hl.1 rfl (Nat.le_of_ble_eq_true rfl) dX6_unreserve_12 ⟨Nat.zero_le _, Nat.zero_le _⟩) (fun H locs hI => ?_)
  rw [x_sh_self] at hI
  refine lv_iconst (v := (-1)) hx hb dX6_unreserve_15 (by decide) ?_
  refine lv_icmp_eq (tgt := 23) hx hb dX6_unreserve_16 (by decide) (fun c5 => ?_) (fun c5 => ?_)
  · have h := x_ift h c5
    refine lv_iconst (v := 0) hx hb dX6_unreserve_23 (by decide) ?_
    obtain ⟨r6, h7, h⟩ := x_bnd h
    refine x_acv hI (x_runS (rest := []) F hI (mX6_require l X σ _ (0 : Int32) r6 h7) g_X6_55 hd_X6_require ⟨by decide, by decide⟩ ⟨rfl, rfl⟩ rfl hl.1 rfl (Nat.le_of_ble_eq_true rfl) dX6_unreserve_24 ⟨Nat.zero_le _, Nat.zero_le _⟩) (fun H locs hI => ?_)
    refine lv_aload_n hx hb dX6_unreserve_27 rfl (lv_at hl 0 rfl) ?_
    refine xsg_6_2 F hI (x_inO (by decide)) u_fl_X6_22 dX6_unreserve_28 ?_
    refine lv_aload_n hx hb dX6_unreserve_31 rfl (lv_at hl 0 rfl) ?_
    refine xsg_6_0 F hI (x_inO (by decide)) u_fl_X6_12 dX6_unreserve_32 ?_
    obtain ⟨r8, h9, h⟩ := x_bnd h
    refine x_acv hI (x_runV (rest := []) F hI (mX5_push l X _ σ  r8 h9) g_X6_59 ⟨rfl, hd_X5_push⟩ ⟨by decide, by decide⟩ ⟨rfl, rfl⟩ (x_inO (by decide)) rfl rfl rfl rfl hl.1 rfl (Nat.le_of_ble_eq_true rfl) dX6_unreserve_35 ⟨Nat.zero_le _, Nat.zero_le _⟩) (fun H locs hI => ?_)
    refine lv_aload_n hx hb dX6_unreserve_38 rfl (lv_at hl 0 rfl) ?_
    refine xsg_6_0 F hI (x_inO (by decide)) u_fl_X6_12 dX6_unreserve_39 ?_
    refine xsg_2_1 F hI (x_inH (show 0 < 10 by decide) (by decide)) u_fl_X6_91 dX6_unreserve_42 ?_
    refine lv_iload_n hx hb dX6_unreserve_45 rfl (lv_at hl 1 rfl) ?_
    obtain ⟨r10, h11, h⟩ := x_bnd h
    have hI := x_toH 0 hI
    refine x_aci hI (x_runV (rest := []) F hI (mX3_dropReservation l X r8 0 (show 0 < 10 by decide) _ (r8 0) a1 r10 h11) g_X6_100 ⟨rfl, hd_X3_dropReservation⟩ ⟨by decide, by decide⟩ ⟨rfl, rfl⟩ (x_inH (show 0 < 10 by decide) (by decide)) rfl rfl rfl rfl hl.1 rfl (Nat.le_of_ble_eq_true rfl) dX6_unreserve_46 ⟨Nat.zero_le _, Nat.zero_le _⟩) (fun H locs hI => ?_)
    obtain ⟨τ12, e13⟩ : ∃ z : x_S, z = (x_sh r8 0 r10.2) := ⟨_, rfl⟩
    rw [← e13] at hI
    have h := x_let_at h e13
    rw [x_some h]
    exact x_iret F hI dX6_unreserve_49
  · have h := x_iff h c5
    refine lv_iconst (v := 1) hx hb dX6_unreserve_19 (by decide) ?_
    refine lv_goto (tgt := 24) hx hb dX6_unreserve_20 (by decide) ?_
    obtain ⟨r14, h15, h⟩ := x_bnd h
    refine x_acv hI (x_runS (rest := []) F hI (mX6_require l X σ _ (1 : Int32) r14 h15) g_X6_55 hd_X6_require ⟨by decide, by decide⟩ ⟨rfl, rfl⟩ rfl hl.1 rfl (Nat.le_of_ble_eq_true rfl) dX6_unreserve_24 ⟨Nat.zero_le _, Nat.zero_le _⟩) (fun H locs hI => ?_)
    refine lv_aload_n hx hb dX6_unreserve_27 rfl (lv_at hl 0 rfl) ?_
    refine xsg_6_2 F hI (x_inO (by decide)) u_fl_X6_22 dX6_unreserve_28 ?_
    refine lv_aload_n hx hb dX6_unreserve_31 rfl (lv_at hl 0 rfl) ?_
    refine xsg_6_0 F hI (x_inO (by decide)) u_fl_X6_12 dX6_unreserve_32 ?_
    obtain ⟨r16, h17, h⟩ := x_bnd h
    refine x_acv hI (x_runV (rest := []) F hI (mX5_push l X _ σ  r16 h17) g_X6_59 ⟨rfl, hd_X5_push⟩ ⟨by decide, by decide⟩ ⟨rfl, rfl⟩ (x_inO (by decide)) rfl rfl rfl rfl hl.1 rfl (Nat.le_of_ble_eq_true rfl) dX6_unreserve_35 ⟨Nat.zero_le _, Nat.zero_le _⟩) (fun H locs hI => ?_)
    refine lv_aload_n hx hb dX6_unreserve_38 rfl (lv_at hl 0 rfl) ?_
    refine xsg_6_0 F hI (x_inO (by decide)) u_fl_X6_12 dX6_unreserve_39 ?_
    refine xsg_2_1 F hI (x_inH (show 0 < 10 by decide) (by decide)) u_fl_X6_91 dX6_unreserve_42 ?_
    refine lv_iload_n hx hb dX6_unreserve_45 rfl (lv_at hl 1 rfl) ?_
    obtain ⟨r18, h19, h⟩ := x_bnd h
    have hI := x_toH 0 hI
    refine x_aci hI (x_runV (rest := []) F hI (mX3_dropReservation l X r16 0 (show 0 < 10 by decide) _ (r16 0) a1 r18 h19) g_X6_100 ⟨rfl, hd_X3_dropReservation⟩ ⟨by decide, by decide⟩ ⟨rfl, rfl⟩ (x_inH (show 0 < 10 by decide) (by decide)) rfl rfl rfl rfl hl.1 rfl (Nat.le_of_ble_eq_true rfl) dX6_unreserve_46 ⟨Nat.zero_le _, Nat.zero_le _⟩) (fun H locs hI => ?_)
    obtain ⟨τ20, e21⟩ : ∃ z : x_S, z = (x_sh r16 0 r18.2) := ⟨_, rfl⟩
    rw [← e21] at hI
    have h := x_let_at h e21
    rw [x_some h]
    exact x_iret F hI dX6_unreserve_49
abbrev rx_X6_unreserve : Room := { frames := 7, cells := 1, slots := 6, locals := 110 }
def eX6_unreserve (σ : x_S) (a1 : Int32) : Option (Nat × x_S) := (x_or (eX6_requireGuest a1) (fun q1 => some (q1, σ)) (Option.bind (fX6_requireGuest a1) fun r3 => (Option.bind (fX3_reservedRoom (σ 0) a1) fun r5 => (if r5 = (-1 : Int32) then (x_or (eX6_require (0 : Int32)) (fun q8 => some (q8, σ)) (Option.bind (fX6_require (0 : Int32)) fun r10 => none)) else (x_or (eX6_require (1 : Int32)) (fun q12 => some (q12, σ)) (Option.bind (fX6_require (1 : Int32)) fun r14 => none))))))
set_option maxHeartbeats 4000000 in
set_option maxRecDepth 100000 in
theorem xX6_unreserve (l : Launch) (hl0 : l.stackTraces = false) (X : x_T) (sz : Nat) (σ : x_S) (a1 : Int32) (r : (Nat × x_S)) (h : eX6_unreserve σ a1 = some r) : vx_Met l yX6_unreserve (x_ws yX6_unreserve cX6_unreserve 2 (some .int)) rx_X6_unreserve (x_PcT X σ sz [.ref (X.2.2 10 32), .int a1]) (xt_Qi X sz) (xt_C X r.1 r.2 sz) 1 6 (x_A X sz) := by
  refine vx_ofW (cc := cX6_unreserve) (maxL := 2) (ret := (some .int)) (by decide) rfl ?_
  intro p e s m args below meth c s₁ B hml hnt hv
  obtain ⟨F, Z, hI, rfl, rfl⟩ := xt_begin hl0 B hml hnt hv
  replace F : x_F p s m _ meth c cX6_unreserve 2 RX6 (some .int) := F
  have hx := F.1
  have hb := F.2.1
  have hml := F.2.2.1
  have hown := F.2.2.2.1
  have hts := F.2.2.2.2.1
  refine x_entry (vs := [.ref (X.2.2 10 32), .int a1]) (n := 2) (Nat.le_of_ble_eq_true rfl) (fun ls hl => ?_)
  replace hl : lv_has ls 2 [(0, .ref (X.2.2 10 32)), (1, .int a1)] := hl
  unfold eX6_unreserve at h
  refine lv_iload_n hx hb dX6_unreserve_0 rfl (lv_at hl 1 rfl) ?_
  rcases x_or_el h with ⟨q1, h2, h⟩ | ⟨-, h⟩
  · rw [x_some h]
    exact xt_acv F Z hI (xt_runS (rest := []) F Z.2.1 hI (xX6_requireGuest l Z.1 X σ _ a1 q1 h2) g_X6_41 hd_X6_requireGuest ⟨by decide, by decide⟩ ⟨rfl, rfl⟩ rfl hl.1 rfl (Nat.le_of_ble_eq_true rfl) dX6_unreserve_1 ⟨by decide, by decide⟩)
  · obtain ⟨r3, h4, h⟩ := x_bnd h
    refine x_acv hI (x_runS (rest := []) F hI (mX6_requireGuest l X σ _ a1 r3 h4) g_X6_41 hd_X6_requireGuest ⟨by decide, by decide⟩ ⟨rfl, rfl⟩ rfl hl.1 rfl (Nat.le_of_ble_eq_true rfl) dX6_unreserve_1 ⟨Nat.zero_le _, Nat.zero_le _⟩) (fun H locs hI => ?_)
    refine lv_aload_n hx hb dX6_unreserve_4 rfl (lv_at hl 0 rfl) ?_
    refine xsg_6_0 F hI (x_inO (by decide)) u_fl_X6_12 dX6_unreserve_5 ?_
    refine xsg_2_1 F hI (x_inH (show 0 < 10 by decide) (by decide)) u_fl_X6_91 dX6_unreserve_8 ?_
    refine lv_iload_n hx hb dX6_unreserve_11 rfl (lv_at hl 1 rfl) ?_
    obtain ⟨r5, h6, h⟩ := x_bnd h
    have hI := x_toH 0 hI
    refine x_aci hI (x_runV (rest := []) F hI (mX3_reservedRoom l X σ 0 (show 0 < 10 by decide) _ (σ 0) a1 r5 h6) g_X6_104 ⟨rfl, hd_X3_reservedRoom⟩ ⟨by decide, by decide⟩ ⟨rfl, rfl⟩ (x_inH (show 0 < 10 by decide) (by decide)) rfl rfl rfl rfl hl.1 rfl (Nat.le_of_ble_eq_true rfl) dX6_unreserve_12 ⟨Nat.zero_le _, Nat.zero_le _⟩) (fun H locs hI => ?_)
    rw [x_sh_self] at hI
    refine lv_iconst (v := (-1)) hx hb dX6_unreserve_15 (by decide) ?_
    refine lv_icmp_eq (tgt := 23) hx hb dX6_unreserve_16 (by decide) (fun c7 => ?_) (fun c7 => ?_)
    · have h := x_ift h c7
      refine lv_iconst (v := 0) hx hb dX6_unreserve_23 (by decide) ?_
      rcases x_or_el h with ⟨q8, h9, h⟩ | ⟨-, h⟩
      · rw [x_some h]
        exact xt_acv F Z hI (xt_runS (rest := []) F Z.2.1 hI (xX6_require l Z.1 X σ _ (0 : Int32) q8 h9) g_X6_55 hd_X6_require ⟨by decide, by decide⟩ ⟨rfl, rfl⟩ rfl hl.1 rfl (Nat.le_of_ble_eq_true rfl) dX6_unreserve_24 ⟨by decide, by decide⟩)
      · obtain ⟨r10, h11, h⟩ := x_bnd h
        refine x_acv hI (x_runS (rest := []) F hI (mX6_require l X σ _ (0 : Int32) r10 h11) g_X6_55 hd_X6_require ⟨by decide, by decide⟩ ⟨rfl, rfl⟩ rfl hl.1 rfl (Nat.le_of_ble_eq_true rfl) dX6_unreserve_24 ⟨Nat.zero_le _, Nat.zero_le _⟩) (fun H locs hI => ?_)
        cases h
    · have h := x_iff h c7
      refine lv_iconst (v := 1) hx hb dX6_unreserve_19 (by decide) ?_
      refine lv_goto (tgt := 24) hx hb dX6_unreserve_20 (by decide) ?_
      rcases x_or_el h with ⟨q12, h13, h⟩ | ⟨-, h⟩
      · rw [x_some h]
        exact xt_acv F Z hI (xt_runS (rest := []) F Z.2.1 hI (xX6_require l Z.1 X σ _ (1 : Int32) q12 h13) g_X6_55 hd_X6_require ⟨by decide, by decide⟩ ⟨rfl, rfl⟩ rfl hl.1 rfl (Nat.le_of_ble_eq_true rfl) dX6_unreserve_24 ⟨by decide, by decide⟩)
      · obtain ⟨r14, h15, h⟩ := x_bnd h
        refine x_acv hI (x_runS (rest := []) F hI (mX6_require l X σ _ (1 : Int32) r14 h15) g_X6_55 hd_X6_require ⟨by decide, by decide⟩ ⟨rfl, rfl⟩ rfl hl.1 rfl (Nat.le_of_ble_eq_true rfl) dX6_unreserve_24 ⟨Nat.zero_le _, Nat.zero_le _⟩) (fun H locs hI => ?_)
        cases h
abbrev rm_X6_turnGhost : Room := { frames := 5, cells := 0, slots := 0, locals := 110 }
def fX6_turnGhost (σ : x_S) (a1 : Int32) : Option (Int32 × x_S) := (Option.bind (fX6_requireRoom a1) fun r1 => (Option.bind (fX5_push σ ) fun r3 => x_let (x_sh r3 0 (x_hu (r3 0) 2 0 ((r3 0 2 0) ^^^ ((1 : Int32) <<< (a1 &&& 31))))) fun τ5 => (Option.bind (fX3_ghostIn (τ5 0) a1) fun r7 => if vp_nar .boolean r7 = r7 then some (r7, τ5) else none)))
set_option maxHeartbeats 4000000 in
set_option maxRecDepth 100000 in
theorem mX6_turnGhost (l : Launch) (X : x_T) (sz : Nat) (σ : x_S) (a1 : Int32) (r : (Int32 × x_S)) (h : fX6_turnGhost σ a1 = some r) : Met l yX6_turnGhost (x_ws yX6_turnGhost cX6_turnGhost 2 (some .boolean)) rm_X6_turnGhost (x_Pc X σ sz [.ref (X.2.2 10 32), .int a1]) (x_Qi X r.1 r.2 sz) 0 0 (x_A X sz) := by
  refine Met.ofW (cc := cX6_turnGhost) (maxL := 2) (ret := (some .boolean)) (by decide) rfl ?_
  intro p e s m args below meth c s₁ B hml hv
  obtain ⟨F, hI, rfl, rfl⟩ := x_begin B hml hv
  replace F : x_F p s m _ meth c cX6_turnGhost 2 RX6 (some .boolean) := F
  have hx := F.1
  have hb := F.2.1
  have hml := F.2.2.1
  have hown := F.2.2.2.1
  have hts := F.2.2.2.2.1
  refine x_entry (vs := [.ref (X.2.2 10 32), .int a1]) (n := 2) (Nat.le_of_ble_eq_true rfl) (fun ls hl => ?_)
  replace hl : lv_has ls 2 [(0, .ref (X.2.2 10 32)), (1, .int a1)] := hl
  unfold fX6_turnGhost at h
  refine lv_iload_n hx hb dX6_turnGhost_0 rfl (lv_at hl 1 rfl) ?_
  obtain ⟨r1, h2, h⟩ := x_bnd h
  refine x_acv hI (x_runS (rest := []) F hI (mX6_requireRoom l X σ _ a1 r1 h2) g_X6_88 hd_X6_requireRoom ⟨by decide, by decide⟩ ⟨rfl, rfl⟩ rfl hl.1 rfl (Nat.le_of_ble_eq_true rfl) dX6_turnGhost_1 ⟨Nat.zero_le _, Nat.zero_le _⟩) (fun H locs hI => ?_)
  refine lv_aload_n hx hb dX6_turnGhost_4 rfl (lv_at hl 0 rfl) ?_
  refine xsg_6_2 F hI (x_inO (by decide)) u_fl_X6_22 dX6_turnGhost_5 ?_
  refine lv_aload_n hx hb dX6_turnGhost_8 rfl (lv_at hl 0 rfl) ?_
  refine xsg_6_0 F hI (x_inO (by decide)) u_fl_X6_12 dX6_turnGhost_9 ?_
  obtain ⟨r3, h4, h⟩ := x_bnd h
  refine x_acv hI (x_runV (rest := []) F hI (mX5_push l X _ σ  r3 h4) g_X6_59 ⟨rfl, hd_X5_push⟩ ⟨by decide, by decide⟩ ⟨rfl, rfl⟩ (x_inO (by decide)) rfl rfl rfl rfl hl.1 rfl (Nat.le_of_ble_eq_true rfl) dX6_turnGhost_12 ⟨Nat.zero_le _, Nat.zero_le _⟩) (fun H locs hI => ?_)
  refine lv_aload_n hx hb dX6_turnGhost_15 rfl (lv_at hl 0 rfl) ?_
  refine xsg_6_0 F hI (x_inO (by decide)) u_fl_X6_12 dX6_turnGhost_16 ?_
  refine xsg_2_1 F hI (x_inH (show 0 < 10 by decide) (by decide)) u_fl_X6_91 dX6_turnGhost_19 ?_
  refine lv_dup hx hb dX6_turnGhost_22 rfl ?_
  refine xsg_3_7 F hI (x_inH (show 0 < 10 by decide) (by decide)) u_fl_X6_107 dX6_turnGhost_23 ?_
  refine lv_iconst (v := 1) hx hb dX6_turnGhost_26 (by decide) ?_
  refine lv_iload_n hx hb dX6_turnGhost_27 rfl (lv_at hl 1 rfl) ?_
  refine lv_ishl hx hb dX6_turnGhost_28 ?_
  refine lv_ixor hx hb dX6_turnGhost_29 ?_
  refine xsp_3_7 F hI (x_inH (show 0 < 10 by decide) (by decide)) u_fl_X6_107 dX6_turnGhost_30 (fun H locs hI => ?_)
  obtain ⟨τ5, e6⟩ : ∃ z : x_S, z = (x_sh r3 0 (x_hu (r3 0) 2 0 ((r3 0 2 0) ^^^ ((1 : Int32) <<< (a1 &&& 31))))) := ⟨_, rfl⟩
  rw [← e6] at hI
  have h := x_let_at h e6
  refine lv_aload_n hx hb dX6_turnGhost_33 rfl (lv_at hl 0 rfl) ?_
  refine xsg_6_0 F hI (x_inO (by decide)) u_fl_X6_12 dX6_turnGhost_34 ?_
  refine xsg_2_1 F hI (x_inH (show 0 < 10 by decide) (by decide)) u_fl_X6_91 dX6_turnGhost_37 ?_
  refine lv_iload_n hx hb dX6_turnGhost_40 rfl (lv_at hl 1 rfl) ?_
  obtain ⟨r7, h8, h⟩ := x_bnd h
  have hI := x_toH 0 hI
  refine x_aci hI (x_runV (rest := []) F hI (mX3_ghostIn l X τ5 0 (show 0 < 10 by decide) _ (τ5 0) a1 r7 h8) g_X6_110 ⟨rfl, hd_X3_ghostIn⟩ ⟨by decide, by decide⟩ ⟨rfl, rfl⟩ (x_inH (show 0 < 10 by decide) (by decide)) rfl rfl rfl rfl hl.1 rfl (Nat.le_of_ble_eq_true rfl) dX6_turnGhost_41 ⟨Nat.zero_le _, Nat.zero_le _⟩) (fun H locs hI => ?_)
  rw [x_sh_self] at hI
  obtain ⟨g, h⟩ := x_chk h
  rw [x_some h]
  exact x_zret (v := r7) F hI g dX6_turnGhost_44
abbrev rx_X6_turnGhost : Room := { frames := 7, cells := 1, slots := 6, locals := 110 }
def eX6_turnGhost (σ : x_S) (a1 : Int32) : Option (Nat × x_S) := (x_or (eX6_requireRoom a1) (fun q1 => some (q1, σ)) (Option.bind (fX6_requireRoom a1) fun r3 => none))
set_option maxHeartbeats 4000000 in
set_option maxRecDepth 100000 in
theorem xX6_turnGhost (l : Launch) (hl0 : l.stackTraces = false) (X : x_T) (sz : Nat) (σ : x_S) (a1 : Int32) (r : (Nat × x_S)) (h : eX6_turnGhost σ a1 = some r) : vx_Met l yX6_turnGhost (x_ws yX6_turnGhost cX6_turnGhost 2 (some .boolean)) rx_X6_turnGhost (x_PcT X σ sz [.ref (X.2.2 10 32), .int a1]) (xt_Qi X sz) (xt_C X r.1 r.2 sz) 1 6 (x_A X sz) := by
  refine vx_ofW (cc := cX6_turnGhost) (maxL := 2) (ret := (some .boolean)) (by decide) rfl ?_
  intro p e s m args below meth c s₁ B hml hnt hv
  obtain ⟨F, Z, hI, rfl, rfl⟩ := xt_begin hl0 B hml hnt hv
  replace F : x_F p s m _ meth c cX6_turnGhost 2 RX6 (some .boolean) := F
  have hx := F.1
  have hb := F.2.1
  have hml := F.2.2.1
  have hown := F.2.2.2.1
  have hts := F.2.2.2.2.1
  refine x_entry (vs := [.ref (X.2.2 10 32), .int a1]) (n := 2) (Nat.le_of_ble_eq_true rfl) (fun ls hl => ?_)
  replace hl : lv_has ls 2 [(0, .ref (X.2.2 10 32)), (1, .int a1)] := hl
  unfold eX6_turnGhost at h
  refine lv_iload_n hx hb dX6_turnGhost_0 rfl (lv_at hl 1 rfl) ?_
  rcases x_or_el h with ⟨q1, h2, h⟩ | ⟨-, h⟩
  · rw [x_some h]
    exact xt_acv F Z hI (xt_runS (rest := []) F Z.2.1 hI (xX6_requireRoom l Z.1 X σ _ a1 q1 h2) g_X6_88 hd_X6_requireRoom ⟨by decide, by decide⟩ ⟨rfl, rfl⟩ rfl hl.1 rfl (Nat.le_of_ble_eq_true rfl) dX6_turnGhost_1 ⟨by decide, by decide⟩)
  · obtain ⟨r3, h4, h⟩ := x_bnd h
    refine x_acv hI (x_runS (rest := []) F hI (mX6_requireRoom l X σ _ a1 r3 h4) g_X6_88 hd_X6_requireRoom ⟨by decide, by decide⟩ ⟨rfl, rfl⟩ rfl hl.1 rfl (Nat.le_of_ble_eq_true rfl) dX6_turnGhost_1 ⟨Nat.zero_le _, Nat.zero_le _⟩) (fun H locs hI => ?_)
    cases h
abbrev rm_X6_requireRange : Room := { frames := 0, cells := 0, slots := 0, locals := 0 }
def fX6_requireRange (a1 : Int32) (a2 : Int32) (a3 : Int32) : Option Unit := (if a1 < a2 then none else (if a1 ≤ a3 then some () else none))
set_option maxHeartbeats 4000000 in
set_option maxRecDepth 100000 in
theorem mX6_requireRange (l : Launch) (X : x_T) (σ : x_S) (sz : Nat) (a1 : Int32) (a2 : Int32) (a3 : Int32) (r : Unit) (h : fX6_requireRange a1 a2 a3 = some r) : Met l yX6_requireRange (x_ws yX6_requireRange cX6_requireRange 3 none) rm_X6_requireRange (x_Pc X σ sz [.int a1, .int a2, .int a3]) (x_Qv X σ sz) 0 0 (x_A X sz) := by
  refine Met.ofW (cc := cX6_requireRange) (maxL := 3) (ret := none) (by decide) rfl ?_
  intro p e s m args below meth c s₁ B hml hv
  obtain ⟨F, hI, rfl, rfl⟩ := x_begin B hml hv
  replace F : x_F p s m _ meth c cX6_requireRange 3 RX6 none := F
  have hx := F.1
  have hb := F.2.1
  have hml := F.2.2.1
  have hown := F.2.2.2.1
  have hts := F.2.2.2.2.1
  refine x_entry (vs := [.int a1, .int a2, .int a3]) (n := 3) (Nat.le_of_ble_eq_true rfl) (fun ls hl => ?_)
  replace hl : lv_has ls 3 [(0, .int a1), (1, .int a2), (2, .int a3)] := hl
  unfold fX6_requireRange at h
  refine lv_iload_n hx hb dX6_requireRange_0 rfl (lv_at hl 0 rfl) ?_
  refine lv_iload_n hx hb dX6_requireRange_1 rfl (lv_at hl 1 rfl) ?_
  refine lv_icmp_lt (tgt := 10) hx hb dX6_requireRange_2 (by decide) (fun c1 => ?_) (fun c1 => ?_)
  · have h := x_ift h c1
    cases h
  · have h := x_iff h c1
    refine lv_iload_n hx hb dX6_requireRange_5 rfl (lv_at hl 0 rfl) ?_
    refine lv_iload_n hx hb dX6_requireRange_6 rfl (lv_at hl 2 rfl) ?_
    refine lv_icmp_le (tgt := 21) hx hb dX6_requireRange_7 (by decide) (fun c2 => ?_) (fun c2 => ?_)
    · have h := x_ift h c2
      exact x_vret F hI dX6_requireRange_21
    · have h := x_iff h c2
      cases h
abbrev rx_X6_requireRange : Room := { frames := 6, cells := 1, slots := 6, locals := 82 }
def eX6_requireRange (a1 : Int32) (a2 : Int32) (a3 : Int32) : Option Nat := (if a1 < a2 then some 1 else (if a1 ≤ a3 then none else some 1))
set_option maxHeartbeats 4000000 in
set_option maxRecDepth 100000 in
theorem xX6_requireRange (l : Launch) (hl0 : l.stackTraces = false) (X : x_T) (σ : x_S) (sz : Nat) (a1 : Int32) (a2 : Int32) (a3 : Int32) (r : Nat) (h : eX6_requireRange a1 a2 a3 = some r) : vx_Met l yX6_requireRange (x_ws yX6_requireRange cX6_requireRange 3 none) rx_X6_requireRange (x_PcT X σ sz [.int a1, .int a2, .int a3]) (xt_Qv X sz) (xt_C X r σ sz) 1 6 (x_A X sz) := by
  refine vx_ofW (cc := cX6_requireRange) (maxL := 3) (ret := none) (by decide) rfl ?_
  intro p e s m args below meth c s₁ B hml hnt hv
  obtain ⟨F, Z, hI, rfl, rfl⟩ := xt_begin hl0 B hml hnt hv
  replace F : x_F p s m _ meth c cX6_requireRange 3 RX6 none := F
  have hx := F.1
  have hb := F.2.1
  have hml := F.2.2.1
  have hown := F.2.2.2.1
  have hts := F.2.2.2.2.1
  refine x_entry (vs := [.int a1, .int a2, .int a3]) (n := 3) (Nat.le_of_ble_eq_true rfl) (fun ls hl => ?_)
  replace hl : lv_has ls 3 [(0, .int a1), (1, .int a2), (2, .int a3)] := hl
  unfold eX6_requireRange at h
  refine lv_iload_n hx hb dX6_requireRange_0 rfl (lv_at hl 0 rfl) ?_
  refine lv_iload_n hx hb dX6_requireRange_1 rfl (lv_at hl 1 rfl) ?_
  refine lv_icmp_lt (tgt := 10) hx hb dX6_requireRange_2 (by decide) (fun c1 => ?_) (fun c1 => ?_)
  · have h := x_ift h c1
    rw [x_some h]
    exact xt_throwW (ex := 1) (is := 292) (text := "a number is out of range") F Z hI xt_ok1 (by decide +kernel) hl.1 ⟨by decide, by decide, by decide, by decide⟩ dX6_requireRange_10 dX6_requireRange_13 dX6_requireRange_14 dX6_requireRange_17 dX6_requireRange_20
  · have h := x_iff h c1
    refine lv_iload_n hx hb dX6_requireRange_5 rfl (lv_at hl 0 rfl) ?_
    refine lv_iload_n hx hb dX6_requireRange_6 rfl (lv_at hl 2 rfl) ?_
    refine lv_icmp_le (tgt := 21) hx hb dX6_requireRange_7 (by decide) (fun c2 => ?_) (fun c2 => ?_)
    · have h := x_ift h c2
      cases h
    · have h := x_iff h c2
      rw [x_some h]
      exact xt_throwW (ex := 1) (is := 292) (text := "a number is out of range") F Z hI xt_ok1 (by decide +kernel) hl.1 ⟨by decide, by decide, by decide, by decide⟩ dX6_requireRange_10 dX6_requireRange_13 dX6_requireRange_14 dX6_requireRange_17 dX6_requireRange_20
abbrev rm_X6_changeLease : Room := { frames := 5, cells := 0, slots := 0, locals := 110 }
def fX6_changeLease (σ : x_S) (a1 : Int32) : Option (Int32 × x_S) := (Option.bind (fX6_requireRange a1 (8 : Int32) (200 : Int32)) fun r1 => (Option.bind (fX5_push σ ) fun r3 => x_let (r3 0 2 1) fun x5 => x_let (x_sh r3 0 (x_hu (r3 0) 2 1 a1)) fun τ7 => some (x5, τ7)))
set_option maxHeartbeats 4000000 in
set_option maxRecDepth 100000 in
theorem mX6_changeLease (l : Launch) (X : x_T) (sz : Nat) (σ : x_S) (a1 : Int32) (r : (Int32 × x_S)) (h : fX6_changeLease σ a1 = some r) : Met l yX6_changeLease (x_ws yX6_changeLease cX6_changeLease 3 (some .int)) rm_X6_changeLease (x_Pc X σ sz [.ref (X.2.2 10 32), .int a1]) (x_Qi X r.1 r.2 sz) 0 0 (x_A X sz) := by
  refine Met.ofW (cc := cX6_changeLease) (maxL := 3) (ret := (some .int)) (by decide) rfl ?_
  intro p e s m args below meth c s₁ B hml hv
  obtain ⟨F, hI, rfl, rfl⟩ := x_begin B hml hv
  replace F : x_F p s m _ meth c cX6_changeLease 3 RX6 (some .int) := F
  have hx := F.1
  have hb := F.2.1
  have hml := F.2.2.1
  have hown := F.2.2.2.1
  have hts := F.2.2.2.2.1
  refine x_entry (vs := [.ref (X.2.2 10 32), .int a1]) (n := 3) (Nat.le_of_ble_eq_true rfl) (fun ls hl => ?_)
  replace hl : lv_has ls 3 [(0, .ref (X.2.2 10 32)), (1, .int a1)] := hl
  unfold fX6_changeLease at h
  refine lv_iload_n hx hb dX6_changeLease_0 rfl (lv_at hl 1 rfl) ?_
  refine lv_bipush (v := 8) hx hb dX6_changeLease_1 (by decide) ?_
  refine lv_sipush (v := 200) hx hb dX6_changeLease_3 (by decide) ?_
  obtain ⟨r1, h2, h⟩ := x_bnd h
  refine x_acv hI (x_runS (rest := []) F hI (mX6_requireRange l X σ _ a1 (8 : Int32) (200 : Int32) r1 h2) g_X6_114 hd_X6_requireRange ⟨by decide, by decide⟩ ⟨rfl, rfl⟩ rfl hl.1 rfl (Nat.le_of_ble_eq_true rfl) dX6_changeLease_6 ⟨Nat.zero_le _, Nat.zero_le _⟩) (fun H locs hI => ?_)
  refine lv_aload_n hx hb dX6_changeLease_9 rfl (lv_at hl 0 rfl) ?_
  refine xsg_6_2 F hI (x_inO (by decide)) u_fl_X6_22 dX6_changeLease_10 ?_
  refine lv_aload_n hx hb dX6_changeLease_13 rfl (lv_at hl 0 rfl) ?_
  refine xsg_6_0 F hI (x_inO (by decide)) u_fl_X6_12 dX6_changeLease_14 ?_
  obtain ⟨r3, h4, h⟩ := x_bnd h
  refine x_acv hI (x_runV (rest := []) F hI (mX5_push l X _ σ  r3 h4) g_X6_59 ⟨rfl, hd_X5_push⟩ ⟨by decide, by decide⟩ ⟨rfl, rfl⟩ (x_inO (by decide)) rfl rfl rfl rfl hl.1 rfl (Nat.le_of_ble_eq_true rfl) dX6_changeLease_17 ⟨Nat.zero_le _, Nat.zero_le _⟩) (fun H locs hI => ?_)
  refine lv_aload_n hx hb dX6_changeLease_20 rfl (lv_at hl 0 rfl) ?_
  refine xsg_6_0 F hI (x_inO (by decide)) u_fl_X6_12 dX6_changeLease_21 ?_
  refine xsg_2_1 F hI (x_inH (show 0 < 10 by decide) (by decide)) u_fl_X6_91 dX6_changeLease_24 ?_
  refine xsg_3_8 F hI (x_inH (show 0 < 10 by decide) (by decide)) u_fl_X6_118 dX6_changeLease_27 ?_
  refine lv_topi (fun x5 e6 => ?_)
  have h := x_let_at h e6
  refine lv_istore_n (lv' := [(2, .int x5), (0, .ref (X.2.2 10 32)), (1, .int a1)]) hx hb dX6_changeLease_30 rfl hl (by decide) rfl (fun ls hl => ?_)
  refine lv_aload_n hx hb dX6_changeLease_31 rfl (lv_at hl 1 rfl) ?_
  refine xsg_6_0 F hI (x_inO (by decide)) u_fl_X6_12 dX6_changeLease_32 ?_
  refine xsg_2_1 F hI (x_inH (show 0 < 10 by decide) (by decide)) u_fl_X6_91 dX6_changeLease_35 ?_
  refine lv_iload_n hx hb dX6_changeLease_38 rfl (lv_at hl 2 rfl) ?_
  refine xsp_3_8 F hI (x_inH (show 0 < 10 by decide) (by decide)) u_fl_X6_118 dX6_changeLease_39 (fun H locs hI => ?_)
  obtain ⟨τ7, e8⟩ : ∃ z : x_S, z = (x_sh r3 0 (x_hu (r3 0) 2 1 a1)) := ⟨_, rfl⟩
  rw [← e8] at hI
  have h := x_let_at h e8
  refine lv_iload_n hx hb dX6_changeLease_42 rfl (lv_at hl 0 rfl) ?_
  rw [x_some h]
  exact x_iret F hI dX6_changeLease_43
abbrev rx_X6_changeLease : Room := { frames := 7, cells := 1, slots := 6, locals := 110 }
def eX6_changeLease (σ : x_S) (a1 : Int32) : Option (Nat × x_S) := (x_or (eX6_requireRange a1 (8 : Int32) (200 : Int32)) (fun q1 => some (q1, σ)) (Option.bind (fX6_requireRange a1 (8 : Int32) (200 : Int32)) fun r3 => none))
set_option maxHeartbeats 4000000 in
set_option maxRecDepth 100000 in
theorem xX6_changeLease (l : Launch) (hl0 : l.stackTraces = false) (X : x_T) (sz : Nat) (σ : x_S) (a1 : Int32) (r : (Nat × x_S)) (h : eX6_changeLease σ a1 = some r) : vx_Met l yX6_changeLease (x_ws yX6_changeLease cX6_changeLease 3 (some .int)) rx_X6_changeLease (x_PcT X σ sz [.ref (X.2.2 10 32), .int a1]) (xt_Qi X sz) (xt_C X r.1 r.2 sz) 1 6 (x_A X sz) := by
  refine vx_ofW (cc := cX6_changeLease) (maxL := 3) (ret := (some .int)) (by decide) rfl ?_
  intro p e s m args below meth c s₁ B hml hnt hv
  obtain ⟨F, Z, hI, rfl, rfl⟩ := xt_begin hl0 B hml hnt hv
  replace F : x_F p s m _ meth c cX6_changeLease 3 RX6 (some .int) := F
  have hx := F.1
  have hb := F.2.1
  have hml := F.2.2.1
  have hown := F.2.2.2.1
  have hts := F.2.2.2.2.1
  refine x_entry (vs := [.ref (X.2.2 10 32), .int a1]) (n := 3) (Nat.le_of_ble_eq_true rfl) (fun ls hl => ?_)
  replace hl : lv_has ls 3 [(0, .ref (X.2.2 10 32)), (1, .int a1)] := hl
  unfold eX6_changeLease at h
  refine lv_iload_n hx hb dX6_changeLease_0 rfl (lv_at hl 1 rfl) ?_
  refine lv_bipush (v := 8) hx hb dX6_changeLease_1 (by decide) ?_
  refine lv_sipush (v := 200) hx hb dX6_changeLease_3 (by decide) ?_
  rcases x_or_el h with ⟨q1, h2, h⟩ | ⟨-, h⟩
  · rw [x_some h]
    exact xt_acv F Z hI (xt_runS (rest := []) F Z.2.1 hI (xX6_requireRange l Z.1 X σ _ a1 (8 : Int32) (200 : Int32) q1 h2) g_X6_114 hd_X6_requireRange ⟨by decide, by decide⟩ ⟨rfl, rfl⟩ rfl hl.1 rfl (Nat.le_of_ble_eq_true rfl) dX6_changeLease_6 ⟨by decide, by decide⟩)
  · obtain ⟨r3, h4, h⟩ := x_bnd h
    refine x_acv hI (x_runS (rest := []) F hI (mX6_requireRange l X σ _ a1 (8 : Int32) (200 : Int32) r3 h4) g_X6_114 hd_X6_requireRange ⟨by decide, by decide⟩ ⟨rfl, rfl⟩ rfl hl.1 rfl (Nat.le_of_ble_eq_true rfl) dX6_changeLease_6 ⟨Nat.zero_le _, Nat.zero_le _⟩) (fun H locs hI => ?_)
    cases h
abbrev rm_X6_changeHold : Room := { frames := 5, cells := 0, slots := 0, locals := 110 }
def fX6_changeHold (σ : x_S) (a1 : Int32) : Option (Int32 × x_S) := (Option.bind (fX6_requireRange a1 (1 : Int32) (50 : Int32)) fun r1 => (Option.bind (fX5_push σ ) fun r3 => x_let (r3 0 2 2) fun x5 => x_let (x_sh r3 0 (x_hu (r3 0) 2 2 a1)) fun τ7 => some (x5, τ7)))
set_option maxHeartbeats 4000000 in
set_option maxRecDepth 100000 in
theorem mX6_changeHold (l : Launch) (X : x_T) (sz : Nat) (σ : x_S) (a1 : Int32) (r : (Int32 × x_S)) (h : fX6_changeHold σ a1 = some r) : Met l yX6_changeHold (x_ws yX6_changeHold cX6_changeHold 3 (some .int)) rm_X6_changeHold (x_Pc X σ sz [.ref (X.2.2 10 32), .int a1]) (x_Qi X r.1 r.2 sz) 0 0 (x_A X sz) := by
  refine Met.ofW (cc := cX6_changeHold) (maxL := 3) (ret := (some .int)) (by decide) rfl ?_
  intro p e s m args below meth c s₁ B hml hv
  obtain ⟨F, hI, rfl, rfl⟩ := x_begin B hml hv
  replace F : x_F p s m _ meth c cX6_changeHold 3 RX6 (some .int) := F
  have hx := F.1
  have hb := F.2.1
  have hml := F.2.2.1
  have hown := F.2.2.2.1
  have hts := F.2.2.2.2.1
  refine x_entry (vs := [.ref (X.2.2 10 32), .int a1]) (n := 3) (Nat.le_of_ble_eq_true rfl) (fun ls hl => ?_)
  replace hl : lv_has ls 3 [(0, .ref (X.2.2 10 32)), (1, .int a1)] := hl
  unfold fX6_changeHold at h
  refine lv_iload_n hx hb dX6_changeHold_0 rfl (lv_at hl 1 rfl) ?_
  refine lv_iconst (v := 1) hx hb dX6_changeHold_1 (by decide) ?_
  refine lv_bipush (v := 50) hx hb dX6_changeHold_2 (by decide) ?_
  obtain ⟨r1, h2, h⟩ := x_bnd h
  refine x_acv hI (x_runS (rest := []) F hI (mX6_requireRange l X σ _ a1 (1 : Int32) (50 : Int32) r1 h2) g_X6_114 hd_X6_requireRange ⟨by decide, by decide⟩ ⟨rfl, rfl⟩ rfl hl.1 rfl (Nat.le_of_ble_eq_true rfl) dX6_changeHold_4 ⟨Nat.zero_le _, Nat.zero_le _⟩) (fun H locs hI => ?_)
  refine lv_aload_n hx hb dX6_changeHold_7 rfl (lv_at hl 0 rfl) ?_
  refine xsg_6_2 F hI (x_inO (by decide)) u_fl_X6_22 dX6_changeHold_8 ?_
  refine lv_aload_n hx hb dX6_changeHold_11 rfl (lv_at hl 0 rfl) ?_
  refine xsg_6_0 F hI (x_inO (by decide)) u_fl_X6_12 dX6_changeHold_12 ?_
  obtain ⟨r3, h4, h⟩ := x_bnd h
  refine x_acv hI (x_runV (rest := []) F hI (mX5_push l X _ σ  r3 h4) g_X6_59 ⟨rfl, hd_X5_push⟩ ⟨by decide, by decide⟩ ⟨rfl, rfl⟩ (x_inO (by decide)) rfl rfl rfl rfl hl.1 rfl (Nat.le_of_ble_eq_true rfl) dX6_changeHold_15 ⟨Nat.zero_le _, Nat.zero_le _⟩) (fun H locs hI => ?_)
  refine lv_aload_n hx hb dX6_changeHold_18 rfl (lv_at hl 0 rfl) ?_
  refine xsg_6_0 F hI (x_inO (by decide)) u_fl_X6_12 dX6_changeHold_19 ?_
  refine xsg_2_1 F hI (x_inH (show 0 < 10 by decide) (by decide)) u_fl_X6_91 dX6_changeHold_22 ?_
  refine xsg_3_9 F hI (x_inH (show 0 < 10 by decide) (by decide)) u_fl_X6_121 dX6_changeHold_25 ?_
  refine lv_topi (fun x5 e6 => ?_)
  have h := x_let_at h e6
  refine lv_istore_n (lv' := [(2, .int x5), (0, .ref (X.2.2 10 32)), (1, .int a1)]) hx hb dX6_changeHold_28 rfl hl (by decide) rfl (fun ls hl => ?_)
  refine lv_aload_n hx hb dX6_changeHold_29 rfl (lv_at hl 1 rfl) ?_
  refine xsg_6_0 F hI (x_inO (by decide)) u_fl_X6_12 dX6_changeHold_30 ?_
  refine xsg_2_1 F hI (x_inH (show 0 < 10 by decide) (by decide)) u_fl_X6_91 dX6_changeHold_33 ?_
  refine lv_iload_n hx hb dX6_changeHold_36 rfl (lv_at hl 2 rfl) ?_
  refine xsp_3_9 F hI (x_inH (show 0 < 10 by decide) (by decide)) u_fl_X6_121 dX6_changeHold_37 (fun H locs hI => ?_)
  obtain ⟨τ7, e8⟩ : ∃ z : x_S, z = (x_sh r3 0 (x_hu (r3 0) 2 2 a1)) := ⟨_, rfl⟩
  rw [← e8] at hI
  have h := x_let_at h e8
  refine lv_iload_n hx hb dX6_changeHold_40 rfl (lv_at hl 0 rfl) ?_
  rw [x_some h]
  exact x_iret F hI dX6_changeHold_41
abbrev rx_X6_changeHold : Room := { frames := 7, cells := 1, slots := 6, locals := 110 }
def eX6_changeHold (σ : x_S) (a1 : Int32) : Option (Nat × x_S) := (x_or (eX6_requireRange a1 (1 : Int32) (50 : Int32)) (fun q1 => some (q1, σ)) (Option.bind (fX6_requireRange a1 (1 : Int32) (50 : Int32)) fun r3 => none))
set_option maxHeartbeats 4000000 in
set_option maxRecDepth 100000 in
theorem xX6_changeHold (l : Launch) (hl0 : l.stackTraces = false) (X : x_T) (sz : Nat) (σ : x_S) (a1 : Int32) (r : (Nat × x_S)) (h : eX6_changeHold σ a1 = some r) : vx_Met l yX6_changeHold (x_ws yX6_changeHold cX6_changeHold 3 (some .int)) rx_X6_changeHold (x_PcT X σ sz [.ref (X.2.2 10 32), .int a1]) (xt_Qi X sz) (xt_C X r.1 r.2 sz) 1 6 (x_A X sz) := by
  refine vx_ofW (cc := cX6_changeHold) (maxL := 3) (ret := (some .int)) (by decide) rfl ?_
  intro p e s m args below meth c s₁ B hml hnt hv
  obtain ⟨F, Z, hI, rfl, rfl⟩ := xt_begin hl0 B hml hnt hv
  replace F : x_F p s m _ meth c cX6_changeHold 3 RX6 (some .int) := F
  have hx := F.1
  have hb := F.2.1
  have hml := F.2.2.1
  have hown := F.2.2.2.1
  have hts := F.2.2.2.2.1
  refine x_entry (vs := [.ref (X.2.2 10 32), .int a1]) (n := 3) (Nat.le_of_ble_eq_true rfl) (fun ls hl => ?_)
  replace hl : lv_has ls 3 [(0, .ref (X.2.2 10 32)), (1, .int a1)] := hl
  unfold eX6_changeHold at h
  refine lv_iload_n hx hb dX6_changeHold_0 rfl (lv_at hl 1 rfl) ?_
  refine lv_iconst (v := 1) hx hb dX6_changeHold_1 (by decide) ?_
  refine lv_bipush (v := 50) hx hb dX6_changeHold_2 (by decide) ?_
  rcases x_or_el h with ⟨q1, h2, h⟩ | ⟨-, h⟩
  · rw [x_some h]
    exact xt_acv F Z hI (xt_runS (rest := []) F Z.2.1 hI (xX6_requireRange l Z.1 X σ _ a1 (1 : Int32) (50 : Int32) q1 h2) g_X6_114 hd_X6_requireRange ⟨by decide, by decide⟩ ⟨rfl, rfl⟩ rfl hl.1 rfl (Nat.le_of_ble_eq_true rfl) dX6_changeHold_4 ⟨by decide, by decide⟩)
  · obtain ⟨r3, h4, h⟩ := x_bnd h
    refine x_acv hI (x_runS (rest := []) F hI (mX6_requireRange l X σ _ a1 (1 : Int32) (50 : Int32) r3 h4) g_X6_114 hd_X6_requireRange ⟨by decide, by decide⟩ ⟨rfl, rfl⟩ rfl hl.1 rfl (Nat.le_of_ble_eq_true rfl) dX6_changeHold_4 ⟨Nat.zero_le _, Nat.zero_le _⟩) (fun H locs hI => ?_)
    cases h
abbrev rm_X6_changeShut : Room := { frames := 5, cells := 0, slots := 0, locals := 110 }
def fX6_changeShut (σ : x_S) (a1 : Int32) : Option (Int32 × x_S) := (Option.bind (fX6_requireRange a1 (1 : Int32) (200 : Int32)) fun r1 => (Option.bind (fX5_push σ ) fun r3 => x_let (r3 0 2 3) fun x5 => x_let (x_sh r3 0 (x_hu (r3 0) 2 3 a1)) fun τ7 => some (x5, τ7)))
set_option maxHeartbeats 4000000 in
set_option maxRecDepth 100000 in
theorem mX6_changeShut (l : Launch) (X : x_T) (sz : Nat) (σ : x_S) (a1 : Int32) (r : (Int32 × x_S)) (h : fX6_changeShut σ a1 = some r) : Met l yX6_changeShut (x_ws yX6_changeShut cX6_changeShut 3 (some .int)) rm_X6_changeShut (x_Pc X σ sz [.ref (X.2.2 10 32), .int a1]) (x_Qi X r.1 r.2 sz) 0 0 (x_A X sz) := by
  refine Met.ofW (cc := cX6_changeShut) (maxL := 3) (ret := (some .int)) (by decide) rfl ?_
  intro p e s m args below meth c s₁ B hml hv
  obtain ⟨F, hI, rfl, rfl⟩ := x_begin B hml hv
  replace F : x_F p s m _ meth c cX6_changeShut 3 RX6 (some .int) := F
  have hx := F.1
  have hb := F.2.1
  have hml := F.2.2.1
  have hown := F.2.2.2.1
  have hts := F.2.2.2.2.1
  refine x_entry (vs := [.ref (X.2.2 10 32), .int a1]) (n := 3) (Nat.le_of_ble_eq_true rfl) (fun ls hl => ?_)
  replace hl : lv_has ls 3 [(0, .ref (X.2.2 10 32)), (1, .int a1)] := hl
  unfold fX6_changeShut at h
  refine lv_iload_n hx hb dX6_changeShut_0 rfl (lv_at hl 1 rfl) ?_
  refine lv_iconst (v := 1) hx hb dX6_changeShut_1 (by decide) ?_
  refine lv_sipush (v := 200) hx hb dX6_changeShut_2 (by decide) ?_
  obtain ⟨r1, h2, h⟩ := x_bnd h
  refine x_acv hI (x_runS (rest := []) F hI (mX6_requireRange l X σ _ a1 (1 : Int32) (200 : Int32) r1 h2) g_X6_114 hd_X6_requireRange ⟨by decide, by decide⟩ ⟨rfl, rfl⟩ rfl hl.1 rfl (Nat.le_of_ble_eq_true rfl) dX6_changeShut_5 ⟨Nat.zero_le _, Nat.zero_le _⟩) (fun H locs hI => ?_)
  refine lv_aload_n hx hb dX6_changeShut_8 rfl (lv_at hl 0 rfl) ?_
  refine xsg_6_2 F hI (x_inO (by decide)) u_fl_X6_22 dX6_changeShut_9 ?_
  refine lv_aload_n hx hb dX6_changeShut_12 rfl (lv_at hl 0 rfl) ?_
  refine xsg_6_0 F hI (x_inO (by decide)) u_fl_X6_12 dX6_changeShut_13 ?_
  obtain ⟨r3, h4, h⟩ := x_bnd h
  refine x_acv hI (x_runV (rest := []) F hI (mX5_push l X _ σ  r3 h4) g_X6_59 ⟨rfl, hd_X5_push⟩ ⟨by decide, by decide⟩ ⟨rfl, rfl⟩ (x_inO (by decide)) rfl rfl rfl rfl hl.1 rfl (Nat.le_of_ble_eq_true rfl) dX6_changeShut_16 ⟨Nat.zero_le _, Nat.zero_le _⟩) (fun H locs hI => ?_)
  refine lv_aload_n hx hb dX6_changeShut_19 rfl (lv_at hl 0 rfl) ?_
  refine xsg_6_0 F hI (x_inO (by decide)) u_fl_X6_12 dX6_changeShut_20 ?_
  refine xsg_2_1 F hI (x_inH (show 0 < 10 by decide) (by decide)) u_fl_X6_91 dX6_changeShut_23 ?_
  refine xsg_3_10 F hI (x_inH (show 0 < 10 by decide) (by decide)) u_fl_X6_124 dX6_changeShut_26 ?_
  refine lv_topi (fun x5 e6 => ?_)
  have h := x_let_at h e6
  refine lv_istore_n (lv' := [(2, .int x5), (0, .ref (X.2.2 10 32)), (1, .int a1)]) hx hb dX6_changeShut_29 rfl hl (by decide) rfl (fun ls hl => ?_)
  refine lv_aload_n hx hb dX6_changeShut_30 rfl (lv_at hl 1 rfl) ?_
  refine xsg_6_0 F hI (x_inO (by decide)) u_fl_X6_12 dX6_changeShut_31 ?_
  refine xsg_2_1 F hI (x_inH (show 0 < 10 by decide) (by decide)) u_fl_X6_91 dX6_changeShut_34 ?_
  refine lv_iload_n hx hb dX6_changeShut_37 rfl (lv_at hl 2 rfl) ?_
  refine xsp_3_10 F hI (x_inH (show 0 < 10 by decide) (by decide)) u_fl_X6_124 dX6_changeShut_38 (fun H locs hI => ?_)
  obtain ⟨τ7, e8⟩ : ∃ z : x_S, z = (x_sh r3 0 (x_hu (r3 0) 2 3 a1)) := ⟨_, rfl⟩
  rw [← e8] at hI
  have h := x_let_at h e8
  refine lv_iload_n hx hb dX6_changeShut_41 rfl (lv_at hl 0 rfl) ?_
  rw [x_some h]
  exact x_iret F hI dX6_changeShut_42
abbrev rx_X6_changeShut : Room := { frames := 7, cells := 1, slots := 6, locals := 110 }
def eX6_changeShut (σ : x_S) (a1 : Int32) : Option (Nat × x_S) := (x_or (eX6_requireRange a1 (1 : Int32) (200 : Int32)) (fun q1 => some (q1, σ)) (Option.bind (fX6_requireRange a1 (1 : Int32) (200 : Int32)) fun r3 => none))
set_option maxHeartbeats 4000000 in
set_option maxRecDepth 100000 in
theorem xX6_changeShut (l : Launch) (hl0 : l.stackTraces = false) (X : x_T) (sz : Nat) (σ : x_S) (a1 : Int32) (r : (Nat × x_S)) (h : eX6_changeShut σ a1 = some r) : vx_Met l yX6_changeShut (x_ws yX6_changeShut cX6_changeShut 3 (some .int)) rx_X6_changeShut (x_PcT X σ sz [.ref (X.2.2 10 32), .int a1]) (xt_Qi X sz) (xt_C X r.1 r.2 sz) 1 6 (x_A X sz) := by
  refine vx_ofW (cc := cX6_changeShut) (maxL := 3) (ret := (some .int)) (by decide) rfl ?_
  intro p e s m args below meth c s₁ B hml hnt hv
  obtain ⟨F, Z, hI, rfl, rfl⟩ := xt_begin hl0 B hml hnt hv
  replace F : x_F p s m _ meth c cX6_changeShut 3 RX6 (some .int) := F
  have hx := F.1
  have hb := F.2.1
  have hml := F.2.2.1
  have hown := F.2.2.2.1
  have hts := F.2.2.2.2.1
  refine x_entry (vs := [.ref (X.2.2 10 32), .int a1]) (n := 3) (Nat.le_of_ble_eq_true rfl) (fun ls hl => ?_)
  replace hl : lv_has ls 3 [(0, .ref (X.2.2 10 32)), (1, .int a1)] := hl
  unfold eX6_changeShut at h
  refine lv_iload_n hx hb dX6_changeShut_0 rfl (lv_at hl 1 rfl) ?_
  refine lv_iconst (v := 1) hx hb dX6_changeShut_1 (by decide) ?_
  refine lv_sipush (v := 200) hx hb dX6_changeShut_2 (by decide) ?_
  rcases x_or_el h with ⟨q1, h2, h⟩ | ⟨-, h⟩
  · rw [x_some h]
    exact xt_acv F Z hI (xt_runS (rest := []) F Z.2.1 hI (xX6_requireRange l Z.1 X σ _ a1 (1 : Int32) (200 : Int32) q1 h2) g_X6_114 hd_X6_requireRange ⟨by decide, by decide⟩ ⟨rfl, rfl⟩ rfl hl.1 rfl (Nat.le_of_ble_eq_true rfl) dX6_changeShut_5 ⟨by decide, by decide⟩)
  · obtain ⟨r3, h4, h⟩ := x_bnd h
    refine x_acv hI (x_runS (rest := []) F hI (mX6_requireRange l X σ _ a1 (1 : Int32) (200 : Int32) r3 h4) g_X6_114 hd_X6_requireRange ⟨by decide, by decide⟩ ⟨rfl, rfl⟩ rfl hl.1 rfl (Nat.le_of_ble_eq_true rfl) dX6_changeShut_5 ⟨Nat.zero_le _, Nat.zero_le _⟩) (fun H locs hI => ?_)
    cases h
abbrev rm_X6_requirePlace : Room := { frames := 1, cells := 0, slots := 0, locals := 21 }
def fX6_requirePlace (σ : x_S) (a1 : Int32) : Option Unit := (Option.bind (fX4_hasPlace (σ 0) a1) fun r1 => (if r1 = 0 then none else some ()))
set_option maxHeartbeats 4000000 in
set_option maxRecDepth 100000 in
theorem mX6_requirePlace (l : Launch) (X : x_T) (sz : Nat) (σ : x_S) (a1 : Int32) (r : Unit) (h : fX6_requirePlace σ a1 = some r) : Met l yX6_requirePlace (x_ws yX6_requirePlace cX6_requirePlace 2 none) rm_X6_requirePlace (x_Pc X σ sz [.ref (X.2.2 10 32), .int a1]) (x_Qv X σ sz) 0 0 (x_A X sz) := by
  refine Met.ofW (cc := cX6_requirePlace) (maxL := 2) (ret := none) (by decide) rfl ?_
  intro p e s m args below meth c s₁ B hml hv
  obtain ⟨F, hI, rfl, rfl⟩ := x_begin B hml hv
  replace F : x_F p s m _ meth c cX6_requirePlace 2 RX6 none := F
  have hx := F.1
  have hb := F.2.1
  have hml := F.2.2.1
  have hown := F.2.2.2.1
  have hts := F.2.2.2.2.1
  refine x_entry (vs := [.ref (X.2.2 10 32), .int a1]) (n := 2) (Nat.le_of_ble_eq_true rfl) (fun ls hl => ?_)
  replace hl : lv_has ls 2 [(0, .ref (X.2.2 10 32)), (1, .int a1)] := hl
  unfold fX6_requirePlace at h
  refine lv_aload_n hx hb dX6_requirePlace_0 rfl (lv_at hl 0 rfl) ?_
  refine xsg_6_0 F hI (x_inO (by decide)) u_fl_X6_12 dX6_requirePlace_1 ?_
  refine xsg_2_2 F hI (x_inH (show 0 < 10 by decide) (by decide)) u_fl_X6_66 dX6_requirePlace_4 ?_
  refine lv_iload_n hx hb dX6_requirePlace_7 rfl (lv_at hl 1 rfl) ?_
  obtain ⟨r1, h2, h⟩ := x_bnd h
  have hI := x_toH 0 hI
  refine x_aci hI (x_runV (rest := []) F hI (mX4_hasPlace l X σ 0 (show 0 < 10 by decide) _ (σ 0) a1 r1 h2) g_X6_287 ⟨rfl, hd_X4_hasPlace⟩ ⟨by decide, by decide⟩ ⟨rfl, rfl⟩ (x_inH (show 0 < 10 by decide) (by decide)) rfl rfl rfl rfl hl.1 rfl (Nat.le_of_ble_eq_true rfl) dX6_requirePlace_8 ⟨Nat.zero_le _, Nat.zero_le _⟩) (fun H locs hI => ?_)
  rw [x_sh_self] at hI
  refine lv_if_ne (tgt := 25) hx hb dX6_requirePlace_11 (by decide) (fun c3 => ?_) (fun c3 => ?_)
  · have h := x_iff h c3
    exact x_vret F hI dX6_requirePlace_25
  · have h := x_ift h c3
    cases h
abbrev rx_X6_requirePlace : Room := { frames := 6, cells := 1, slots := 6, locals := 82 }
def eX6_requirePlace (σ : x_S) (a1 : Int32) : Option Nat := (Option.bind (fX4_hasPlace (σ 0) a1) fun r1 => (if r1 = 0 then some 0 else none))
set_option maxHeartbeats 4000000 in
set_option maxRecDepth 100000 in
theorem xX6_requirePlace (l : Launch) (hl0 : l.stackTraces = false) (X : x_T) (sz : Nat) (σ : x_S) (a1 : Int32) (r : Nat) (h : eX6_requirePlace σ a1 = some r) : vx_Met l yX6_requirePlace (x_ws yX6_requirePlace cX6_requirePlace 2 none) rx_X6_requirePlace (x_PcT X σ sz [.ref (X.2.2 10 32), .int a1]) (xt_Qv X sz) (xt_C X r σ sz) 1 6 (x_A X sz) := by
  refine vx_ofW (cc := cX6_requirePlace) (maxL := 2) (ret := none) (by decide) rfl ?_
  intro p e s m args below meth c s₁ B hml hnt hv
  obtain ⟨F, Z, hI, rfl, rfl⟩ := xt_begin hl0 B hml hnt hv
  replace F : x_F p s m _ meth c cX6_requirePlace 2 RX6 none := F
  have hx := F.1
  have hb := F.2.1
  have hml := F.2.2.1
  have hown := F.2.2.2.1
  have hts := F.2.2.2.2.1
  refine x_entry (vs := [.ref (X.2.2 10 32), .int a1]) (n := 2) (Nat.le_of_ble_eq_true rfl) (fun ls hl => ?_)
  replace hl : lv_has ls 2 [(0, .ref (X.2.2 10 32)), (1, .int a1)] := hl
  unfold eX6_requirePlace at h
  refine lv_aload_n hx hb dX6_requirePlace_0 rfl (lv_at hl 0 rfl) ?_
  refine xsg_6_0 F hI (x_inO (by decide)) u_fl_X6_12 dX6_requirePlace_1 ?_
  refine xsg_2_2 F hI (x_inH (show 0 < 10 by decide) (by decide)) u_fl_X6_66 dX6_requirePlace_4 ?_
  refine lv_iload_n hx hb dX6_requirePlace_7 rfl (lv_at hl 1 rfl) ?_
  obtain ⟨r1, h2, h⟩ := x_bnd h
  have hI := x_toH 0 hI
  refine x_aci hI (x_runV (rest := []) F hI (mX4_hasPlace l X σ 0 (show 0 < 10 by decide) _ (σ 0) a1 r1 h2) g_X6_287 ⟨rfl, hd_X4_hasPlace⟩ ⟨by decide, by decide⟩ ⟨rfl, rfl⟩ (x_inH (show 0 < 10 by decide) (by decide)) rfl rfl rfl rfl hl.1 rfl (Nat.le_of_ble_eq_true rfl) dX6_requirePlace_8 ⟨Nat.zero_le _, Nat.zero_le _⟩) (fun H locs hI => ?_)
  rw [x_sh_self] at hI
  refine lv_if_ne (tgt := 25) hx hb dX6_requirePlace_11 (by decide) (fun c3 => ?_) (fun c3 => ?_)
  · have h := x_iff h c3
    cases h
  · have h := x_ift h c3
    rw [x_some h]
    exact xt_throwW (ex := 0) (is := 290) (text := "there is no such message") F Z hI xt_ok0 (by decide +kernel) hl.1 ⟨by decide, by decide, by decide, by decide⟩ dX6_requirePlace_14 dX6_requirePlace_17 dX6_requirePlace_18 dX6_requirePlace_21 dX6_requirePlace_24
abbrev rm_X6_deliver : Room := { frames := 5, cells := 0, slots := 0, locals := 110 }
def fX6_deliver (σ : x_S) (a1 : Int32) : Option (Int32 × x_S) := (Option.bind (fX6_requirePlace σ a1) fun r1 => (Option.bind (fX5_push σ ) fun r3 => (Option.bind (fX2_deliverAt (r3 0) a1) fun r5 => x_let (x_sh r3 0 r5.2) fun τ7 => some (r5.1, τ7))))
set_option maxHeartbeats 4000000 in
set_option maxRecDepth 100000 in
theorem mX6_deliver (l : Launch) (X : x_T) (sz : Nat) (σ : x_S) (a1 : Int32) (r : (Int32 × x_S)) (h : fX6_deliver σ a1 = some r) : Met l yX6_deliver (x_ws yX6_deliver cX6_deliver 2 (some .int)) rm_X6_deliver (x_Pc X σ sz [.ref (X.2.2 10 32), .int a1]) (x_Qi X r.1 r.2 sz) 0 0 (x_A X sz) := by
  refine Met.ofW (cc := cX6_deliver) (maxL := 2) (ret := (some .int)) (by decide) rfl ?_
  intro p e s m args below meth c s₁ B hml hv
  obtain ⟨F, hI, rfl, rfl⟩ := x_begin B hml hv
  replace F : x_F p s m _ meth c cX6_deliver 2 RX6 (some .int) := F
  have hx := F.1
  have hb := F.2.1
  have hml := F.2.2.1
  have hown := F.2.2.2.1
  have hts := F.2.2.2.2.1
  refine x_entry (vs := [.ref (X.2.2 10 32), .int a1]) (n := 2) (Nat.le_of_ble_eq_true rfl) (fun ls hl => ?_)
  replace hl : lv_has ls 2 [(0, .ref (X.2.2 10 32)), (1, .int a1)] := hl
  unfold fX6_deliver at h
  refine lv_aload_n hx hb dX6_deliver_0 rfl (lv_at hl 0 rfl) ?_
  refine lv_iload_n hx hb dX6_deliver_1 rfl (lv_at hl 1 rfl) ?_
  obtain ⟨r1, h2, h⟩ := x_bnd h
  refine x_acv hI (x_runV (rest := []) F hI (mX6_requirePlace l X _ σ a1 r1 h2) g_X6_127 ⟨rfl, hd_X6_requirePlace⟩ ⟨by decide, by decide⟩ ⟨rfl, rfl⟩ (x_inO (by decide)) rfl rfl rfl rfl hl.1 rfl (Nat.le_of_ble_eq_true rfl) dX6_deliver_2 ⟨Nat.zero_le _, Nat.zero_le _⟩) (fun H locs hI => ?_)
  refine lv_aload_n hx hb dX6_deliver_5 rfl (lv_at hl 0 rfl) ?_
  refine xsg_6_2 F hI (x_inO (by decide)) u_fl_X6_22 dX6_deliver_6 ?_
  refine lv_aload_n hx hb dX6_deliver_9 rfl (lv_at hl 0 rfl) ?_
  refine xsg_6_0 F hI (x_inO (by decide)) u_fl_X6_12 dX6_deliver_10 ?_
  obtain ⟨r3, h4, h⟩ := x_bnd h
  refine x_acv hI (x_runV (rest := []) F hI (mX5_push l X _ σ  r3 h4) g_X6_59 ⟨rfl, hd_X5_push⟩ ⟨by decide, by decide⟩ ⟨rfl, rfl⟩ (x_inO (by decide)) rfl rfl rfl rfl hl.1 rfl (Nat.le_of_ble_eq_true rfl) dX6_deliver_13 ⟨Nat.zero_le _, Nat.zero_le _⟩) (fun H locs hI => ?_)
  refine lv_aload_n hx hb dX6_deliver_16 rfl (lv_at hl 0 rfl) ?_
  refine xsg_6_0 F hI (x_inO (by decide)) u_fl_X6_12 dX6_deliver_17 ?_
  refine lv_iload_n hx hb dX6_deliver_20 rfl (lv_at hl 1 rfl) ?_
  obtain ⟨r5, h6, h⟩ := x_bnd h
  have hI := x_toH 0 hI
  refine x_aci hI (x_runV (rest := []) F hI (mX2_deliverAt l X r3 0 (show 0 < 10 by decide) _ (r3 0) a1 r5 h6) g_X6_130 ⟨rfl, hd_X2_deliverAt⟩ ⟨by decide, by decide⟩ ⟨rfl, rfl⟩ (x_inH (show 0 < 10 by decide) (by decide)) rfl rfl rfl rfl hl.1 rfl (Nat.le_of_ble_eq_true rfl) dX6_deliver_21 ⟨Nat.zero_le _, Nat.zero_le _⟩) (fun H locs hI => ?_)
  obtain ⟨τ7, e8⟩ : ∃ z : x_S, z = (x_sh r3 0 r5.2) := ⟨_, rfl⟩
  rw [← e8] at hI
  have h := x_let_at h e8
  rw [x_some h]
  exact x_iret F hI dX6_deliver_24
abbrev rx_X6_deliver : Room := { frames := 7, cells := 1, slots := 6, locals := 110 }
def eX6_deliver (σ : x_S) (a1 : Int32) : Option (Nat × x_S) := (x_or (eX6_requirePlace σ a1) (fun q1 => some (q1, σ)) (Option.bind (fX6_requirePlace σ a1) fun r3 => none))
set_option maxHeartbeats 4000000 in
set_option maxRecDepth 100000 in
theorem xX6_deliver (l : Launch) (hl0 : l.stackTraces = false) (X : x_T) (sz : Nat) (σ : x_S) (a1 : Int32) (r : (Nat × x_S)) (h : eX6_deliver σ a1 = some r) : vx_Met l yX6_deliver (x_ws yX6_deliver cX6_deliver 2 (some .int)) rx_X6_deliver (x_PcT X σ sz [.ref (X.2.2 10 32), .int a1]) (xt_Qi X sz) (xt_C X r.1 r.2 sz) 1 6 (x_A X sz) := by
  refine vx_ofW (cc := cX6_deliver) (maxL := 2) (ret := (some .int)) (by decide) rfl ?_
  intro p e s m args below meth c s₁ B hml hnt hv
  obtain ⟨F, Z, hI, rfl, rfl⟩ := xt_begin hl0 B hml hnt hv
  replace F : x_F p s m _ meth c cX6_deliver 2 RX6 (some .int) := F
  have hx := F.1
  have hb := F.2.1
  have hml := F.2.2.1
  have hown := F.2.2.2.1
  have hts := F.2.2.2.2.1
  refine x_entry (vs := [.ref (X.2.2 10 32), .int a1]) (n := 2) (Nat.le_of_ble_eq_true rfl) (fun ls hl => ?_)
  replace hl : lv_has ls 2 [(0, .ref (X.2.2 10 32)), (1, .int a1)] := hl
  unfold eX6_deliver at h
  refine lv_aload_n hx hb dX6_deliver_0 rfl (lv_at hl 0 rfl) ?_
  refine lv_iload_n hx hb dX6_deliver_1 rfl (lv_at hl 1 rfl) ?_
  rcases x_or_el h with ⟨q1, h2, h⟩ | ⟨-, h⟩
  · rw [x_some h]
    exact xt_acv F Z hI (xt_runV (rest := []) F Z.2.1 hI (xX6_requirePlace l Z.1 X _ σ a1 q1 h2) g_X6_127 ⟨rfl, hd_X6_requirePlace⟩ ⟨by decide, by decide⟩ ⟨rfl, rfl⟩ (x_inO (by decide)) rfl rfl rfl rfl hl.1 rfl (Nat.le_of_ble_eq_true rfl) dX6_deliver_2 ⟨by decide, by decide⟩)
  · obtain ⟨r3, h4, h⟩ := x_bnd h
    refine x_acv hI (x_runV (rest := []) F hI (mX6_requirePlace l X _ σ a1 r3 h4) g_X6_127 ⟨rfl, hd_X6_requirePlace⟩ ⟨by decide, by decide⟩ ⟨rfl, rfl⟩ (x_inO (by decide)) rfl rfl rfl rfl hl.1 rfl (Nat.le_of_ble_eq_true rfl) dX6_deliver_2 ⟨Nat.zero_le _, Nat.zero_le _⟩) (fun H locs hI => ?_)
    cases h
abbrev rm_X6_lose : Room := { frames := 5, cells := 0, slots := 0, locals := 110 }
def fX6_lose (σ : x_S) (a1 : Int32) : Option (Int32 × x_S) := (Option.bind (fX6_requirePlace σ a1) fun r1 => (Option.bind (fX5_push σ ) fun r3 => (Option.bind (fX2_loseAt (r3 0) a1) fun r5 => x_let (x_sh r3 0 r5.2) fun τ7 => some (r5.1, τ7))))
set_option maxHeartbeats 4000000 in
set_option maxRecDepth 100000 in
theorem mX6_lose (l : Launch) (X : x_T) (sz : Nat) (σ : x_S) (a1 : Int32) (r : (Int32 × x_S)) (h : fX6_lose σ a1 = some r) : Met l yX6_lose (x_ws yX6_lose cX6_lose 2 (some .int)) rm_X6_lose (x_Pc X σ sz [.ref (X.2.2 10 32), .int a1]) (x_Qi X r.1 r.2 sz) 0 0 (x_A X sz) := by
  refine Met.ofW (cc := cX6_lose) (maxL := 2) (ret := (some .int)) (by decide) rfl ?_
  intro p e s m args below meth c s₁ B hml hv
  obtain ⟨F, hI, rfl, rfl⟩ := x_begin B hml hv
  replace F : x_F p s m _ meth c cX6_lose 2 RX6 (some .int) := F
  have hx := F.1
  have hb := F.2.1
  have hml := F.2.2.1
  have hown := F.2.2.2.1
  have hts := F.2.2.2.2.1
  refine x_entry (vs := [.ref (X.2.2 10 32), .int a1]) (n := 2) (Nat.le_of_ble_eq_true rfl) (fun ls hl => ?_)
  replace hl : lv_has ls 2 [(0, .ref (X.2.2 10 32)), (1, .int a1)] := hl
  unfold fX6_lose at h
  refine lv_aload_n hx hb dX6_lose_0 rfl (lv_at hl 0 rfl) ?_
  refine lv_iload_n hx hb dX6_lose_1 rfl (lv_at hl 1 rfl) ?_
  obtain ⟨r1, h2, h⟩ := x_bnd h
  refine x_acv hI (x_runV (rest := []) F hI (mX6_requirePlace l X _ σ a1 r1 h2) g_X6_127 ⟨rfl, hd_X6_requirePlace⟩ ⟨by decide, by decide⟩ ⟨rfl, rfl⟩ (x_inO (by decide)) rfl rfl rfl rfl hl.1 rfl (Nat.le_of_ble_eq_true rfl) dX6_lose_2 ⟨Nat.zero_le _, Nat.zero_le _⟩) (fun H locs hI => ?_)
  refine lv_aload_n hx hb dX6_lose_5 rfl (lv_at hl 0 rfl) ?_
  refine xsg_6_2 F hI (x_inO (by decide)) u_fl_X6_22 dX6_lose_6 ?_
  refine lv_aload_n hx hb dX6_lose_9 rfl (lv_at hl 0 rfl) ?_
  refine xsg_6_0 F hI (x_inO (by decide)) u_fl_X6_12 dX6_lose_10 ?_
  obtain ⟨r3, h4, h⟩ := x_bnd h
  refine x_acv hI (x_runV (rest := []) F hI (mX5_push l X _ σ  r3 h4) g_X6_59 ⟨rfl, hd_X5_push⟩ ⟨by decide, by decide⟩ ⟨rfl, rfl⟩ (x_inO (by decide)) rfl rfl rfl rfl hl.1 rfl (Nat.le_of_ble_eq_true rfl) dX6_lose_13 ⟨Nat.zero_le _, Nat.zero_le _⟩) (fun H locs hI => ?_)
  refine lv_aload_n hx hb dX6_lose_16 rfl (lv_at hl 0 rfl) ?_
  refine xsg_6_0 F hI (x_inO (by decide)) u_fl_X6_12 dX6_lose_17 ?_
  refine lv_iload_n hx hb dX6_lose_20 rfl (lv_at hl 1 rfl) ?_
  obtain ⟨r5, h6, h⟩ := x_bnd h
  have hI := x_toH 0 hI
  refine x_aci hI (x_runV (rest := []) F hI (mX2_loseAt l X r3 0 (show 0 < 10 by decide) _ (r3 0) a1 r5 h6) g_X6_133 ⟨rfl, hd_X2_loseAt⟩ ⟨by decide, by decide⟩ ⟨rfl, rfl⟩ (x_inH (show 0 < 10 by decide) (by decide)) rfl rfl rfl rfl hl.1 rfl (Nat.le_of_ble_eq_true rfl) dX6_lose_21 ⟨Nat.zero_le _, Nat.zero_le _⟩) (fun H locs hI => ?_)
  obtain ⟨τ7, e8⟩ : ∃ z : x_S, z = (x_sh r3 0 r5.2) := ⟨_, rfl⟩
  rw [← e8] at hI
  have h := x_let_at h e8
  rw [x_some h]
  exact x_iret F hI dX6_lose_24
abbrev rx_X6_lose : Room := { frames := 7, cells := 1, slots := 6, locals := 110 }
def eX6_lose (σ : x_S) (a1 : Int32) : Option (Nat × x_S) := (x_or (eX6_requirePlace σ a1) (fun q1 => some (q1, σ)) (Option.bind (fX6_requirePlace σ a1) fun r3 => none))
set_option maxHeartbeats 4000000 in
set_option maxRecDepth 100000 in
theorem xX6_lose (l : Launch) (hl0 : l.stackTraces = false) (X : x_T) (sz : Nat) (σ : x_S) (a1 : Int32) (r : (Nat × x_S)) (h : eX6_lose σ a1 = some r) : vx_Met l yX6_lose (x_ws yX6_lose cX6_lose 2 (some .int)) rx_X6_lose (x_PcT X σ sz [.ref (X.2.2 10 32), .int a1]) (xt_Qi X sz) (xt_C X r.1 r.2 sz) 1 6 (x_A X sz) := by
  refine vx_ofW (cc := cX6_lose) (maxL := 2) (ret := (some .int)) (by decide) rfl ?_
  intro p e s m args below meth c s₁ B hml hnt hv
  obtain ⟨F, Z, hI, rfl, rfl⟩ := xt_begin hl0 B hml hnt hv
  replace F : x_F p s m _ meth c cX6_lose 2 RX6 (some .int) := F
  have hx := F.1
  have hb := F.2.1
  have hml := F.2.2.1
  have hown := F.2.2.2.1
  have hts := F.2.2.2.2.1
  refine x_entry (vs := [.ref (X.2.2 10 32), .int a1]) (n := 2) (Nat.le_of_ble_eq_true rfl) (fun ls hl => ?_)
  replace hl : lv_has ls 2 [(0, .ref (X.2.2 10 32)), (1, .int a1)] := hl
  unfold eX6_lose at h
  refine lv_aload_n hx hb dX6_lose_0 rfl (lv_at hl 0 rfl) ?_
  refine lv_iload_n hx hb dX6_lose_1 rfl (lv_at hl 1 rfl) ?_
  rcases x_or_el h with ⟨q1, h2, h⟩ | ⟨-, h⟩
  · rw [x_some h]
    exact xt_acv F Z hI (xt_runV (rest := []) F Z.2.1 hI (xX6_requirePlace l Z.1 X _ σ a1 q1 h2) g_X6_127 ⟨rfl, hd_X6_requirePlace⟩ ⟨by decide, by decide⟩ ⟨rfl, rfl⟩ (x_inO (by decide)) rfl rfl rfl rfl hl.1 rfl (Nat.le_of_ble_eq_true rfl) dX6_lose_2 ⟨by decide, by decide⟩)
  · obtain ⟨r3, h4, h⟩ := x_bnd h
    refine x_acv hI (x_runV (rest := []) F hI (mX6_requirePlace l X _ σ a1 r3 h4) g_X6_127 ⟨rfl, hd_X6_requirePlace⟩ ⟨by decide, by decide⟩ ⟨rfl, rfl⟩ (x_inO (by decide)) rfl rfl rfl rfl hl.1 rfl (Nat.le_of_ble_eq_true rfl) dX6_lose_2 ⟨Nat.zero_le _, Nat.zero_le _⟩) (fun H locs hI => ?_)
    cases h
abbrev rm_X6_tick : Room := { frames := 5, cells := 0, slots := 0, locals := 110 }
def fX6_tick (σ : x_S) (a1 : Int32) : Option (Int32 × x_S) := (Option.bind (fX6_requireRange a1 (1 : Int32) (100 : Int32)) fun r1 => (Option.bind (fX5_push σ ) fun r3 => (Option.bind (fX2_letTicksGo (r3 0) a1) fun r5 => x_let (x_sh r3 0 r5.2) fun τ7 => some (r5.1, τ7))))
set_option maxHeartbeats 4000000 in
set_option maxRecDepth 100000 in
theorem mX6_tick (l : Launch) (X : x_T) (sz : Nat) (σ : x_S) (a1 : Int32) (r : (Int32 × x_S)) (h : fX6_tick σ a1 = some r) : Met l yX6_tick (x_ws yX6_tick cX6_tick 2 (some .int)) rm_X6_tick (x_Pc X σ sz [.ref (X.2.2 10 32), .int a1]) (x_Qi X r.1 r.2 sz) 0 0 (x_A X sz) := by
  refine Met.ofW (cc := cX6_tick) (maxL := 2) (ret := (some .int)) (by decide) rfl ?_
  intro p e s m args below meth c s₁ B hml hv
  obtain ⟨F, hI, rfl, rfl⟩ := x_begin B hml hv
  replace F : x_F p s m _ meth c cX6_tick 2 RX6 (some .int) := F
  have hx := F.1
  have hb := F.2.1
  have hml := F.2.2.1
  have hown := F.2.2.2.1
  have hts := F.2.2.2.2.1
  refine x_entry (vs := [.ref (X.2.2 10 32), .int a1]) (n := 2) (Nat.le_of_ble_eq_true rfl) (fun ls hl => ?_)
  replace hl : lv_has ls 2 [(0, .ref (X.2.2 10 32)), (1, .int a1)] := hl
  unfold fX6_tick at h
  refine lv_iload_n hx hb dX6_tick_0 rfl (lv_at hl 1 rfl) ?_
  refine lv_iconst (v := 1) hx hb dX6_tick_1 (by decide) ?_
  refine lv_bipush (v := 100) hx hb dX6_tick_2 (by decide) ?_
  obtain ⟨r1, h2, h⟩ := x_bnd h
  refine x_acv hI (x_runS (rest := []) F hI (mX6_requireRange l X σ _ a1 (1 : Int32) (100 : Int32) r1 h2) g_X6_114 hd_X6_requireRange ⟨by decide, by decide⟩ ⟨rfl, rfl⟩ rfl hl.1 rfl (Nat.le_of_ble_eq_true rfl) dX6_tick_4 ⟨Nat.zero_le _, Nat.zero_le _⟩) (fun H locs hI => ?_)
  refine lv_aload_n hx hb dX6_tick_7 rfl (lv_at hl 0 rfl) ?_
  refine xsg_6_2 F hI (x_inO (by decide)) u_fl_X6_22 dX6_tick_8 ?_
  refine lv_aload_n hx hb dX6_tick_11 rfl (lv_at hl 0 rfl) ?_
  refine xsg_6_0 F hI (x_inO (by decide)) u_fl_X6_12 dX6_tick_12 ?_
  obtain ⟨r3, h4, h⟩ := x_bnd h
  refine x_acv hI (x_runV (rest := []) F hI (mX5_push l X _ σ  r3 h4) g_X6_59 ⟨rfl, hd_X5_push⟩ ⟨by decide, by decide⟩ ⟨rfl, rfl⟩ (x_inO (by decide)) rfl rfl rfl rfl hl.1 rfl (Nat.le_of_ble_eq_true rfl) dX6_tick_15 ⟨Nat.zero_le _, Nat.zero_le _⟩) (fun H locs hI => ?_)
  refine lv_aload_n hx hb dX6_tick_18 rfl (lv_at hl 0 rfl) ?_
  refine xsg_6_0 F hI (x_inO (by decide)) u_fl_X6_12 dX6_tick_19 ?_
  refine lv_iload_n hx hb dX6_tick_22 rfl (lv_at hl 1 rfl) ?_
  obtain ⟨r5, h6, h⟩ := x_bnd h
  have hI := x_toH 0 hI
  refine x_aci hI (x_runV (rest := []) F hI (mX2_letTicksGo l X r3 0 (show 0 < 10 by decide) _ (r3 0) a1 r5 h6) g_X6_140 ⟨rfl, hd_X2_letTicksGo⟩ ⟨by decide, by decide⟩ ⟨rfl, rfl⟩ (x_inH (show 0 < 10 by decide) (by decide)) rfl rfl rfl rfl hl.1 rfl (Nat.le_of_ble_eq_true rfl) dX6_tick_23 ⟨Nat.zero_le _, Nat.zero_le _⟩) (fun H locs hI => ?_)
  obtain ⟨τ7, e8⟩ : ∃ z : x_S, z = (x_sh r3 0 r5.2) := ⟨_, rfl⟩
  rw [← e8] at hI
  have h := x_let_at h e8
  rw [x_some h]
  exact x_iret F hI dX6_tick_26
abbrev rx_X6_tick : Room := { frames := 7, cells := 1, slots := 6, locals := 110 }
def eX6_tick (σ : x_S) (a1 : Int32) : Option (Nat × x_S) := (x_or (eX6_requireRange a1 (1 : Int32) (100 : Int32)) (fun q1 => some (q1, σ)) (Option.bind (fX6_requireRange a1 (1 : Int32) (100 : Int32)) fun r3 => none))
set_option maxHeartbeats 4000000 in
set_option maxRecDepth 100000 in
theorem xX6_tick (l : Launch) (hl0 : l.stackTraces = false) (X : x_T) (sz : Nat) (σ : x_S) (a1 : Int32) (r : (Nat × x_S)) (h : eX6_tick σ a1 = some r) : vx_Met l yX6_tick (x_ws yX6_tick cX6_tick 2 (some .int)) rx_X6_tick (x_PcT X σ sz [.ref (X.2.2 10 32), .int a1]) (xt_Qi X sz) (xt_C X r.1 r.2 sz) 1 6 (x_A X sz) := by
  refine vx_ofW (cc := cX6_tick) (maxL := 2) (ret := (some .int)) (by decide) rfl ?_
  intro p e s m args below meth c s₁ B hml hnt hv
  obtain ⟨F, Z, hI, rfl, rfl⟩ := xt_begin hl0 B hml hnt hv
  replace F : x_F p s m _ meth c cX6_tick 2 RX6 (some .int) := F
  have hx := F.1
  have hb := F.2.1
  have hml := F.2.2.1
  have hown := F.2.2.2.1
  have hts := F.2.2.2.2.1
  refine x_entry (vs := [.ref (X.2.2 10 32), .int a1]) (n := 2) (Nat.le_of_ble_eq_true rfl) (fun ls hl => ?_)
  replace hl : lv_has ls 2 [(0, .ref (X.2.2 10 32)), (1, .int a1)] := hl
  unfold eX6_tick at h
  refine lv_iload_n hx hb dX6_tick_0 rfl (lv_at hl 1 rfl) ?_
  refine lv_iconst (v := 1) hx hb dX6_tick_1 (by decide) ?_
  refine lv_bipush (v := 100) hx hb dX6_tick_2 (by decide) ?_
  rcases x_or_el h with ⟨q1, h2, h⟩ | ⟨-, h⟩
  · rw [x_some h]
    exact xt_acv F Z hI (xt_runS (rest := []) F Z.2.1 hI (xX6_requireRange l Z.1 X σ _ a1 (1 : Int32) (100 : Int32) q1 h2) g_X6_114 hd_X6_requireRange ⟨by decide, by decide⟩ ⟨rfl, rfl⟩ rfl hl.1 rfl (Nat.le_of_ble_eq_true rfl) dX6_tick_4 ⟨by decide, by decide⟩)
  · obtain ⟨r3, h4, h⟩ := x_bnd h
    refine x_acv hI (x_runS (rest := []) F hI (mX6_requireRange l X σ _ a1 (1 : Int32) (100 : Int32) r3 h4) g_X6_114 hd_X6_requireRange ⟨by decide, by decide⟩ ⟨rfl, rfl⟩ rfl hl.1 rfl (Nat.le_of_ble_eq_true rfl) dX6_tick_4 ⟨Nat.zero_le _, Nat.zero_le _⟩) (fun H locs hI => ?_)
    cases h
abbrev rm_X6_append : Room := { frames := 1, cells := 0, slots := 0, locals := 22 }
def fX6_append (σ : x_S) (a1 : Int32) : Option (Int32 × x_S) := (Option.bind (fX6_requireRange a1 (33 : Int32) (126 : Int32)) fun r1 => (if (60 : Int32) ≤ (σ 10 37 0) then (Option.bind (fX6_require (0 : Int32)) fun r4 => (Option.bind (fX0_add (σ 10) (a1.toUInt32 % 65536).toInt32) fun r6 => x_let (x_sh σ 10 r6) fun τ8 => some ((τ8 10 37 0), τ8))) else (Option.bind (fX6_require (1 : Int32)) fun r10 => (Option.bind (fX0_add (σ 10) (a1.toUInt32 % 65536).toInt32) fun r12 => x_let (x_sh σ 10 r12) fun τ14 => some ((τ14 10 37 0), τ14)))))
set_option maxHeartbeats 4000000 in
set_option maxRecDepth 100000 in
theorem mX6_append (l : Launch) (X : x_T) (sz : Nat) (σ : x_S) (a1 : Int32) (r : (Int32 × x_S)) (h : fX6_append σ a1 = some r) : Met l yX6_append (x_ws yX6_append cX6_append 2 (some .int)) rm_X6_append (x_Pc X σ sz [.ref (X.2.2 10 32), .int a1]) (x_Qi X r.1 r.2 sz) 0 0 (x_A X sz) := by
  refine Met.ofW (cc := cX6_append) (maxL := 2) (ret := (some .int)) (by decide) rfl ?_
  intro p e s m args below meth c s₁ B hml hv
  obtain ⟨F, hI, rfl, rfl⟩ := x_begin B hml hv
  replace F : x_F p s m _ meth c cX6_append 2 RX6 (some .int) := F
  have hx := F.1
  have hb := F.2.1
  have hml := F.2.2.1
  have hown := F.2.2.2.1
  have hts := F.2.2.2.2.1
  refine x_entry (vs := [.ref (X.2.2 10 32), .int a1]) (n := 2) (Nat.le_of_ble_eq_true rfl) (fun ls hl => ?_)
  replace hl : lv_has ls 2 [(0, .ref (X.2.2 10 32)), (1, .int a1)] := hl
  unfold fX6_append at h
  refine lv_iload_n hx hb dX6_append_0 rfl (lv_at hl 1 rfl) ?_
  refine lv_bipush (v := 33) hx hb dX6_append_1 (by decide) ?_
  refine lv_bipush (v := 126) hx hb dX6_append_3 (by decide) ?_
  obtain ⟨r1, h2, h⟩ := x_bnd h
  refine x_acv hI (x_runS (rest := []) F hI (mX6_requireRange l X σ _ a1 (33 : Int32) (126 : Int32) r1 h2) g_X6_114 hd_X6_requireRange ⟨by decide, by decide⟩ ⟨rfl, rfl⟩ rfl hl.1 rfl (Nat.le_of_ble_eq_true rfl) dX6_append_5 ⟨Nat.zero_le _, Nat.zero_le _⟩) (fun H locs hI => ?_)
  refine lv_aload_n hx hb dX6_append_8 rfl (lv_at hl 0 rfl) ?_
  refine xsg_6_5 F hI (x_inO (by decide)) u_fl_X6_37 dX6_append_9 ?_
  refine xsg_0_1 F hI (x_inO (by decide)) u_fl_X6_143 dX6_append_12 ?_
  refine lv_bipush (v := 60) hx hb dX6_append_15 (by decide) ?_
  refine lv_icmp_ge (tgt := 24) hx hb dX6_append_17 (by decide) (fun c3 => ?_) (fun c3 => ?_)
  · have h := x_ift h c3
    refine lv_iconst (v := 0) hx hb dX6_append_24 (by decide) ?_
    obtain ⟨r4, h5, h⟩ := x_bnd h
    refine x_acv hI (x_runS (rest := []) F hI (mX6_require l X σ _ (0 : Int32) r4 h5) g_X6_55 hd_X6_require ⟨by decide, by decide⟩ ⟨rfl, rfl⟩ rfl hl.1 rfl (Nat.le_of_ble_eq_true rfl) dX6_append_25 ⟨Nat.zero_le _, Nat.zero_le _⟩) (fun H locs hI => ?_)
    refine lv_aload_n hx hb dX6_append_28 rfl (lv_at hl 0 rfl) ?_
    refine xsg_6_5 F hI (x_inO (by decide)) u_fl_X6_37 dX6_append_29 ?_
    refine lv_iload_n hx hb dX6_append_32 rfl (lv_at hl 1 rfl) ?_
    refine lv_i2c hx hb dX6_append_33 rfl ?_
    obtain ⟨r6, h7, h⟩ := x_bnd h
    have hI := x_toH 10 hI
    refine x_acv hI (x_runV (rest := []) F hI (mX0_add l X σ _ (σ 10) (a1.toUInt32 % 65536).toInt32 r6 h7) g_X6_146 ⟨rfl, hd_X0_add⟩ ⟨by decide, by decide⟩ ⟨rfl, rfl⟩ (x_inO (by decide)) rfl rfl rfl rfl hl.1 rfl (Nat.le_of_ble_eq_true rfl) dX6_append_34 ⟨Nat.zero_le _, Nat.zero_le _⟩) (fun H locs hI => ?_)
    obtain ⟨τ8, e9⟩ : ∃ z : x_S, z = (x_sh σ 10 r6) := ⟨_, rfl⟩
    rw [← e9] at hI
    have h := x_let_at h e9
    refine lv_aload_n hx hb dX6_append_37 rfl (lv_at hl 0 rfl) ?_
    refine xsg_6_5 F hI (x_inO (by decide)) u_fl_X6_37 dX6_append_38 ?_
    refine xsg_0_1 F hI (x_inO (by decide)) u_fl_X6_143 dX6_append_41 ?_
    rw [x_some h]
    exact x_iret F hI dX6_append_44
  · have h := x_iff h c3
    refine lv_iconst (v := 1) hx hb dX6_append_20 (by decide) ?_
    refine lv_goto (tgt := 25) hx hb dX6_append_21 (by decide) ?_
    obtain ⟨r10, h11, h⟩ := x_bnd h
    refine x_acv hI (x_runS (rest := []) F hI (mX6_require l X σ _ (1 : Int32) r10 h11) g_X6_55 hd_X6_require ⟨by decide, by decide⟩ ⟨rfl, rfl⟩ rfl hl.1 rfl (Nat.le_of_ble_eq_true rfl) dX6_append_25 ⟨Nat.zero_le _, Nat.zero_le _⟩) (fun H locs hI => ?_)
    refine lv_aload_n hx hb dX6_append_28 rfl (lv_at hl 0 rfl) ?_
    refine xsg_6_5 F hI (x_inO (by decide)) u_fl_X6_37 dX6_append_29 ?_
    refine lv_iload_n hx hb dX6_append_32 rfl (lv_at hl 1 rfl) ?_
    refine lv_i2c hx hb dX6_append_33 rfl ?_
    obtain ⟨r12, h13, h⟩ := x_bnd h
    have hI := x_toH 10 hI
    refine x_acv hI (x_runV (rest := []) F hI (mX0_add l X σ _ (σ 10) (a1.toUInt32 % 65536).toInt32 r12 h13) g_X6_146 ⟨rfl, hd_X0_add⟩ ⟨by decide, by decide⟩ ⟨rfl, rfl⟩ (x_inO (by decide)) rfl rfl rfl rfl hl.1 rfl (Nat.le_of_ble_eq_true rfl) dX6_append_34 ⟨Nat.zero_le _, Nat.zero_le _⟩) (fun H locs hI => ?_)
    obtain ⟨τ14, e15⟩ : ∃ z : x_S, z = (x_sh σ 10 r12) := ⟨_, rfl⟩
    rw [← e15] at hI
    have h := x_let_at h e15
    refine lv_aload_n hx hb dX6_append_37 rfl (lv_at hl 0 rfl) ?_
    refine xsg_6_5 F hI (x_inO (by decide)) u_fl_X6_37 dX6_append_38 ?_
    refine xsg_0_1 F hI (x_inO (by decide)) u_fl_X6_143 dX6_append_41 ?_
    rw [x_some h]
    exact x_iret F hI dX6_append_44
abbrev rx_X6_append : Room := { frames := 7, cells := 1, slots := 6, locals := 104 }
def eX6_append (σ : x_S) (a1 : Int32) : Option (Nat × x_S) := (x_or (eX6_requireRange a1 (33 : Int32) (126 : Int32)) (fun q1 => some (q1, σ)) (Option.bind (fX6_requireRange a1 (33 : Int32) (126 : Int32)) fun r3 => (if (60 : Int32) ≤ (σ 10 37 0) then (x_or (eX6_require (0 : Int32)) (fun q6 => some (q6, σ)) (Option.bind (fX6_require (0 : Int32)) fun r8 => none)) else (x_or (eX6_require (1 : Int32)) (fun q10 => some (q10, σ)) (Option.bind (fX6_require (1 : Int32)) fun r12 => none)))))
set_option maxHeartbeats 4000000 in
set_option maxRecDepth 100000 in
theorem xX6_append (l : Launch) (hl0 : l.stackTraces = false) (X : x_T) (sz : Nat) (σ : x_S) (a1 : Int32) (r : (Nat × x_S)) (h : eX6_append σ a1 = some r) : vx_Met l yX6_append (x_ws yX6_append cX6_append 2 (some .int)) rx_X6_append (x_PcT X σ sz [.ref (X.2.2 10 32), .int a1]) (xt_Qi X sz) (xt_C X r.1 r.2 sz) 1 6 (x_A X sz) := by
  refine vx_ofW (cc := cX6_append) (maxL := 2) (ret := (some .int)) (by decide) rfl ?_
  intro p e s m args below meth c s₁ B hml hnt hv
  obtain ⟨F, Z, hI, rfl, rfl⟩ := xt_begin hl0 B hml hnt hv
  replace F : x_F p s m _ meth c cX6_append 2 RX6 (some .int) := F
  have hx := F.1
  have hb := F.2.1
  have hml := F.2.2.1
  have hown := F.2.2.2.1
  have hts := F.2.2.2.2.1
  refine x_entry (vs := [.ref (X.2.2 10 32), .int a1]) (n := 2) (Nat.le_of_ble_eq_true rfl) (fun ls hl => ?_)
  replace hl : lv_has ls 2 [(0, .ref (X.2.2 10 32)), (1, .int a1)] := hl
  unfold eX6_append at h
  refine lv_iload_n hx hb dX6_append_0 rfl (lv_at hl 1 rfl) ?_
  refine lv_bipush (v := 33) hx hb dX6_append_1 (by decide) ?_
  refine lv_bipush (v := 126) hx hb dX6_append_3 (by decide) ?_
  rcases x_or_el h with ⟨q1, h2, h⟩ | ⟨-, h⟩
  · rw [x_some h]
    exact xt_acv F Z hI (xt_runS (rest := []) F Z.2.1 hI (xX6_requireRange l Z.1 X σ _ a1 (33 : Int32) (126 : Int32) q1 h2) g_X6_114 hd_X6_requireRange ⟨by decide, by decide⟩ ⟨rfl, rfl⟩ rfl hl.1 rfl (Nat.le_of_ble_eq_true rfl) dX6_append_5 ⟨by decide, by decide⟩)
  · obtain ⟨r3, h4, h⟩ := x_bnd h
    refine x_acv hI (x_runS (rest := []) F hI (mX6_requireRange l X σ _ a1 (33 : Int32) (126 : Int32) r3 h4) g_X6_114 hd_X6_requireRange ⟨by decide, by decide⟩ ⟨rfl, rfl⟩ rfl hl.1 rfl (Nat.le_of_ble_eq_true rfl) dX6_append_5 ⟨Nat.zero_le _, Nat.zero_le _⟩) (fun H locs hI => ?_)
    refine lv_aload_n hx hb dX6_append_8 rfl (lv_at hl 0 rfl) ?_
    refine xsg_6_5 F hI (x_inO (by decide)) u_fl_X6_37 dX6_append_9 ?_
    refine xsg_0_1 F hI (x_inO (by decide)) u_fl_X6_143 dX6_append_12 ?_
    refine lv_bipush (v := 60) hx hb dX6_append_15 (by decide) ?_
    refine lv_icmp_ge (tgt := 24) hx hb dX6_append_17 (by decide) (fun c5 => ?_) (fun c5 => ?_)
    · have h := x_ift h c5
      refine lv_iconst (v := 0) hx hb dX6_append_24 (by decide) ?_
      rcases x_or_el h with ⟨q6, h7, h⟩ | ⟨-, h⟩
      · rw [x_some h]
        exact xt_acv F Z hI (xt_runS (rest := []) F Z.2.1 hI (xX6_require l Z.1 X σ _ (0 : Int32) q6 h7) g_X6_55 hd_X6_require ⟨by decide, by decide⟩ ⟨rfl, rfl⟩ rfl hl.1 rfl (Nat.le_of_ble_eq_true rfl) dX6_append_25 ⟨by decide, by decide⟩)
      · obtain ⟨r8, h9, h⟩ := x_bnd h
        refine x_acv hI (x_runS (rest := []) F hI (mX6_require l X σ _ (0 : Int32) r8 h9) g_X6_55 hd_X6_require ⟨by decide, by decide⟩ ⟨rfl, rfl⟩ rfl hl.1 rfl (Nat.le_of_ble_eq_true rfl) dX6_append_25 ⟨Nat.zero_le _, Nat.zero_le _⟩) (fun H locs hI => ?_)
        cases h
    · have h := x_iff h c5
      refine lv_iconst (v := 1) hx hb dX6_append_20 (by decide) ?_
      refine lv_goto (tgt := 25) hx hb dX6_append_21 (by decide) ?_
      rcases x_or_el h with ⟨q10, h11, h⟩ | ⟨-, h⟩
      · rw [x_some h]
        exact xt_acv F Z hI (xt_runS (rest := []) F Z.2.1 hI (xX6_require l Z.1 X σ _ (1 : Int32) q10 h11) g_X6_55 hd_X6_require ⟨by decide, by decide⟩ ⟨rfl, rfl⟩ rfl hl.1 rfl (Nat.le_of_ble_eq_true rfl) dX6_append_25 ⟨by decide, by decide⟩)
      · obtain ⟨r12, h13, h⟩ := x_bnd h
        refine x_acv hI (x_runS (rest := []) F hI (mX6_require l X σ _ (1 : Int32) r12 h13) g_X6_55 hd_X6_require ⟨by decide, by decide⟩ ⟨rfl, rfl⟩ rfl hl.1 rfl (Nat.le_of_ble_eq_true rfl) dX6_append_25 ⟨Nat.zero_le _, Nat.zero_le _⟩) (fun H locs hI => ?_)
        cases h
abbrev rm_X6_play : Room := { frames := 6, cells := 0, slots := 0, locals := 143 }
def fX6_play (σ : x_S) : Option (Int32 × x_S) := (Option.bind (fX0_tellsCourse (σ 10) ) fun r1 => x_let (x_sh σ 10 r1.2) fun τ3 => (if r1.1 = 0 then none else x_let (x_sh τ3 1 (τ3 0)) fun τ6 => (Option.bind (fX0_playOn τ6 ) fun r8 => (Option.bind (fX6_require r8.1) fun r10 => (Option.bind (fX5_push r8.2 ) fun r12 => x_let (x_sh r12 0 (r12 1)) fun τ14 => x_let (x_sh τ14 10 (x_hu (τ14 10) 37 0 (0 : Int32))) fun τ16 => (Option.bind (fX1_countHoused (τ16 0) ) fun r18 => some (r18, τ16)))))))
set_option maxHeartbeats 4000000 in
set_option maxRecDepth 100000 in
theorem mX6_play (l : Launch) (X : x_T) (sz : Nat) (σ : x_S) (r : (Int32 × x_S)) (h : fX6_play σ  = some r) : Met l yX6_play (x_ws yX6_play cX6_play 1 (some .int)) rm_X6_play (x_Pc X σ sz [.ref (X.2.2 10 32)]) (x_Qi X r.1 r.2 sz) 0 0 (x_A X sz) := by
  refine Met.ofW (cc := cX6_play) (maxL := 1) (ret := (some .int)) (by decide) rfl ?_
  intro p e s m args below meth c s₁ B hml hv
  obtain ⟨F, hI, rfl, rfl⟩ := x_begin B hml hv
  replace F : x_F p s m _ meth c cX6_play 1 RX6 (some .int) := F
  have hx := F.1
  have hb := F.2.1
  have hml := F.2.2.1
  have hown := F.2.2.2.1
  have hts := F.2.2.2.2.1
  refine x_entry (vs := [.ref (X.2.2 10 32)]) (n := 1) (Nat.le_of_ble_eq_true rfl) (fun ls hl => ?_)
  replace hl : lv_has ls 1 [(0, .ref (X.2.2 10 32))] := hl
  unfold fX6_play at h
  refine lv_aload_n hx hb dX6_play_0 rfl (lv_at hl 0 rfl) ?_
  refine xsg_6_5 F hI (x_inO (by decide)) u_fl_X6_37 dX6_play_1 ?_
  obtain ⟨r1, h2, h⟩ := x_bnd h
  have hI := x_toH 10 hI
  refine x_aci hI (x_runV (rest := []) F hI (mX0_tellsCourse l X σ _ (σ 10)  r1 h2) g_X6_153 ⟨rfl, hd_X0_tellsCourse⟩ ⟨by decide, by decide⟩ ⟨rfl, rfl⟩ (x_inO (by decide)) rfl rfl rfl rfl hl.1 rfl (Nat.le_of_ble_eq_true rfl) dX6_play_4 ⟨Nat.zero_le _, Nat.zero_le _⟩) (fun H locs hI => ?_)
  obtain ⟨τ3, e4⟩ : ∃ z : x_S, z = (x_sh σ 10 r1.2) := ⟨_, rfl⟩
  rw [← e4] at hI
  have h := x_let_at h e4
  refine lv_if_ne (tgt := 20) hx hb dX6_play_7 (by decide) (fun c5 => ?_) (fun c5 => ?_)
  · have h := x_iff h c5
    refine lv_aload_n hx hb dX6_play_20 rfl (lv_at hl 0 rfl) ?_
    refine xsg_6_1 F hI (x_inO (by decide)) u_fl_X6_16 dX6_play_21 ?_
    refine lv_aload_n hx hb dX6_play_24 rfl (lv_at hl 0 rfl) ?_
    refine xsg_6_0 F hI (x_inO (by decide)) u_fl_X6_12 dX6_play_25 ?_
    refine x_acv hI (x_runV (rest := []) F hI (mX2_copyFromN l X τ3 0 1 (show 0 < 10 by decide) (show 1 < 10 by decide) (by decide) _) g_X6_164 ⟨rfl, hd_X2_copyFrom⟩ ⟨by decide, by decide⟩ ⟨rfl, rfl⟩ (x_inH (show 1 < 10 by decide) (by decide)) rfl rfl rfl rfl hl.1 rfl (Nat.le_of_ble_eq_true rfl) dX6_play_28 ⟨Nat.zero_le _, Nat.zero_le _⟩) (fun H locs hI => ?_)
    obtain ⟨τ6, e7⟩ : ∃ z : x_S, z = (x_sh τ3 1 (τ3 0)) := ⟨_, rfl⟩
    rw [← e7] at hI
    have h := x_let_at h e7
    refine lv_aload_n hx hb dX6_play_31 rfl (lv_at hl 0 rfl) ?_
    refine xsg_6_5 F hI (x_inO (by decide)) u_fl_X6_37 dX6_play_32 ?_
    refine lv_aload_n hx hb dX6_play_35 rfl (lv_at hl 0 rfl) ?_
    refine xsg_6_1 F hI (x_inO (by decide)) u_fl_X6_16 dX6_play_36 ?_
    obtain ⟨r8, h9, h⟩ := x_bnd h
    refine x_aci hI (x_runV (rest := []) F hI (mX0_playOn l X _ τ6  r8 h9) g_X6_167 ⟨rfl, hd_X0_playOn⟩ ⟨by decide, by decide⟩ ⟨rfl, rfl⟩ (x_inO (by decide)) rfl rfl rfl rfl hl.1 rfl (Nat.le_of_ble_eq_true rfl) dX6_play_39 ⟨Nat.zero_le _, Nat.zero_le _⟩) (fun H locs hI => ?_)
    obtain ⟨r10, h11, h⟩ := x_bnd h
    refine x_acv hI (x_runS (rest := []) F hI (mX6_require l X r8.2 _ r8.1 r10 h11) g_X6_55 hd_X6_require ⟨by decide, by decide⟩ ⟨rfl, rfl⟩ rfl hl.1 rfl (Nat.le_of_ble_eq_true rfl) dX6_play_42 ⟨Nat.zero_le _, Nat.zero_le _⟩) (fun H locs hI => ?_)
    refine lv_aload_n hx hb dX6_play_45 rfl (lv_at hl 0 rfl) ?_
    refine xsg_6_2 F hI (x_inO (by decide)) u_fl_X6_22 dX6_play_46 ?_
    refine lv_aload_n hx hb dX6_play_49 rfl (lv_at hl 0 rfl) ?_
    refine xsg_6_0 F hI (x_inO (by decide)) u_fl_X6_12 dX6_play_50 ?_
    obtain ⟨r12, h13, h⟩ := x_bnd h
    refine x_acv hI (x_runV (rest := []) F hI (mX5_push l X _ r8.2  r12 h13) g_X6_59 ⟨rfl, hd_X5_push⟩ ⟨by decide, by decide⟩ ⟨rfl, rfl⟩ (x_inO (by decide)) rfl rfl rfl rfl hl.1 rfl (Nat.le_of_ble_eq_true rfl) dX6_play_53 ⟨Nat.zero_le _, Nat.zero_le _⟩) (fun H locs hI => ?_)
    refine lv_aload_n hx hb dX6_play_56 rfl (lv_at hl 0 rfl) ?_
    refine xsg_6_0 F hI (x_inO (by decide)) u_fl_X6_12 dX6_play_57 ?_
    refine lv_aload_n hx hb dX6_play_60 rfl (lv_at hl 0 rfl) ?_
    refine xsg_6_1 F hI (x_inO (by decide)) u_fl_X6_16 dX6_play_61 ?_
    refine x_acv hI (x_runV (rest := []) F hI (mX2_copyFromN l X r12 1 0 (show 1 < 10 by decide) (show 0 < 10 by decide) (by decide) _) g_X6_164 ⟨rfl, hd_X2_copyFrom⟩ ⟨by decide, by decide⟩ ⟨rfl, rfl⟩ (x_inH (show 0 < 10 by decide) (by decide)) rfl rfl rfl rfl hl.1 rfl (Nat.le_of_ble_eq_true rfl) dX6_play_64 ⟨Nat.zero_le _, Nat.zero_le _⟩) (fun H locs hI => ?_)
    obtain ⟨τ14, e15⟩ : ∃ z : x_S, z = (x_sh r12 0 (r12 1)) := ⟨_, rfl⟩
    rw [← e15] at hI
    have h := x_let_at h e15
    refine lv_aload_n hx hb dX6_play_67 rfl (lv_at hl 0 rfl) ?_
    refine xsg_6_5 F hI (x_inO (by decide)) u_fl_X6_37 dX6_play_68 ?_
    refine lv_iconst (v := 0) hx hb dX6_play_71 (by decide) ?_
    refine xsp_0_1 F hI (x_inO (by decide)) u_fl_X6_143 dX6_play_72 (fun H locs hI => ?_)
    obtain ⟨τ16, e17⟩ : ∃ z : x_S, z = (x_sh τ14 10 (x_hu (τ14 10) 37 0 (0 : Int32))) := ⟨_, rfl⟩
    rw [← e17] at hI
    have h := x_let_at h e17
    refine lv_aload_n hx hb dX6_play_75 rfl (lv_at hl 0 rfl) ?_
    refine xsg_6_0 F hI (x_inO (by decide)) u_fl_X6_12 dX6_play_76 ?_
    refine xsg_2_0 F hI (x_inH (show 0 < 10 by decide) (by decide)) u_fl_X6_45 dX6_play_79 ?_
    obtain ⟨r18, h19, h⟩ := x_bnd h
    have hI := x_toH 0 hI
    refine x_aci hI (x_runV (rest := []) F hI (mX1_countHoused l X τ16 0 (show 0 < 10 by decide) _ (τ16 0)  r18 h19) g_X6_171 ⟨rfl, hd_X1_countHoused⟩ ⟨by decide, by decide⟩ ⟨rfl, rfl⟩ (x_inH (show 0 < 10 by decide) (by decide)) rfl rfl rfl rfl hl.1 rfl (Nat.le_of_ble_eq_true rfl) dX6_play_82 ⟨Nat.zero_le _, Nat.zero_le _⟩) (fun H locs hI => ?_)
    rw [x_sh_self] at hI
    rw [x_some h]
    exact x_iret F hI dX6_play_85
  · have h := x_ift h c5
    cases h
abbrev rx_X6_play : Room := { frames := 7, cells := 1, slots := 6, locals := 143 }
def eX6_play (σ : x_S) : Option (Nat × x_S) := (Option.bind (fX0_tellsCourse (σ 10) ) fun r1 => x_let (x_sh σ 10 r1.2) fun τ3 => (if r1.1 = 0 then some (1, τ3) else x_let (x_sh τ3 1 (τ3 0)) fun τ6 => (Option.bind (fX0_playOn τ6 ) fun r8 => (x_or (eX6_require r8.1) (fun q10 => some (q10, r8.2)) (Option.bind (fX6_require r8.1) fun r12 => none)))))
set_option maxHeartbeats 4000000 in
set_option maxRecDepth 100000 in
theorem xX6_play (l : Launch) (hl0 : l.stackTraces = false) (X : x_T) (sz : Nat) (σ : x_S) (r : (Nat × x_S)) (h : eX6_play σ  = some r) : vx_Met l yX6_play (x_ws yX6_play cX6_play 1 (some .int)) rx_X6_play (x_PcT X σ sz [.ref (X.2.2 10 32)]) (xt_Qi X sz) (xt_C X r.1 r.2 sz) 1 6 (x_A X sz) := by
  refine vx_ofW (cc := cX6_play) (maxL := 1) (ret := (some .int)) (by decide) rfl ?_
  intro p e s m args below meth c s₁ B hml hnt hv
  obtain ⟨F, Z, hI, rfl, rfl⟩ := xt_begin hl0 B hml hnt hv
  replace F : x_F p s m _ meth c cX6_play 1 RX6 (some .int) := F
  have hx := F.1
  have hb := F.2.1
  have hml := F.2.2.1
  have hown := F.2.2.2.1
  have hts := F.2.2.2.2.1
  refine x_entry (vs := [.ref (X.2.2 10 32)]) (n := 1) (Nat.le_of_ble_eq_true rfl) (fun ls hl => ?_)
  replace hl : lv_has ls 1 [(0, .ref (X.2.2 10 32))] := hl
  unfold eX6_play at h
  refine lv_aload_n hx hb dX6_play_0 rfl (lv_at hl 0 rfl) ?_
  refine xsg_6_5 F hI (x_inO (by decide)) u_fl_X6_37 dX6_play_1 ?_
  obtain ⟨r1, h2, h⟩ := x_bnd h
  have hI := x_toH 10 hI
  refine x_aci hI (x_runV (rest := []) F hI (mX0_tellsCourse l X σ _ (σ 10)  r1 h2) g_X6_153 ⟨rfl, hd_X0_tellsCourse⟩ ⟨by decide, by decide⟩ ⟨rfl, rfl⟩ (x_inO (by decide)) rfl rfl rfl rfl hl.1 rfl (Nat.le_of_ble_eq_true rfl) dX6_play_4 ⟨Nat.zero_le _, Nat.zero_le _⟩) (fun H locs hI => ?_)
  obtain ⟨τ3, e4⟩ : ∃ z : x_S, z = (x_sh σ 10 r1.2) := ⟨_, rfl⟩
  rw [← e4] at hI
  have h := x_let_at h e4
  refine lv_if_ne (tgt := 20) hx hb dX6_play_7 (by decide) (fun c5 => ?_) (fun c5 => ?_)
  · have h := x_iff h c5
    refine lv_aload_n hx hb dX6_play_20 rfl (lv_at hl 0 rfl) ?_
    refine xsg_6_1 F hI (x_inO (by decide)) u_fl_X6_16 dX6_play_21 ?_
    refine lv_aload_n hx hb dX6_play_24 rfl (lv_at hl 0 rfl) ?_
    refine xsg_6_0 F hI (x_inO (by decide)) u_fl_X6_12 dX6_play_25 ?_
    refine x_acv hI (x_runV (rest := []) F hI (mX2_copyFromN l X τ3 0 1 (show 0 < 10 by decide) (show 1 < 10 by decide) (by decide) _) g_X6_164 ⟨rfl, hd_X2_copyFrom⟩ ⟨by decide, by decide⟩ ⟨rfl, rfl⟩ (x_inH (show 1 < 10 by decide) (by decide)) rfl rfl rfl rfl hl.1 rfl (Nat.le_of_ble_eq_true rfl) dX6_play_28 ⟨Nat.zero_le _, Nat.zero_le _⟩) (fun H locs hI => ?_)
    obtain ⟨τ6, e7⟩ : ∃ z : x_S, z = (x_sh τ3 1 (τ3 0)) := ⟨_, rfl⟩
    rw [← e7] at hI
    have h := x_let_at h e7
    refine lv_aload_n hx hb dX6_play_31 rfl (lv_at hl 0 rfl) ?_
    refine xsg_6_5 F hI (x_inO (by decide)) u_fl_X6_37 dX6_play_32 ?_
    refine lv_aload_n hx hb dX6_play_35 rfl (lv_at hl 0 rfl) ?_
    refine xsg_6_1 F hI (x_inO (by decide)) u_fl_X6_16 dX6_play_36 ?_
    obtain ⟨r8, h9, h⟩ := x_bnd h
    refine x_aci hI (x_runV (rest := []) F hI (mX0_playOn l X _ τ6  r8 h9) g_X6_167 ⟨rfl, hd_X0_playOn⟩ ⟨by decide, by decide⟩ ⟨rfl, rfl⟩ (x_inO (by decide)) rfl rfl rfl rfl hl.1 rfl (Nat.le_of_ble_eq_true rfl) dX6_play_39 ⟨Nat.zero_le _, Nat.zero_le _⟩) (fun H locs hI => ?_)
    rcases x_or_el h with ⟨q10, h11, h⟩ | ⟨-, h⟩
    · rw [x_some h]
      exact xt_acv F Z hI (xt_runS (rest := []) F Z.2.1 hI (xX6_require l Z.1 X r8.2 _ r8.1 q10 h11) g_X6_55 hd_X6_require ⟨by decide, by decide⟩ ⟨rfl, rfl⟩ rfl hl.1 rfl (Nat.le_of_ble_eq_true rfl) dX6_play_42 ⟨by decide, by decide⟩)
    · obtain ⟨r12, h13, h⟩ := x_bnd h
      refine x_acv hI (x_runS (rest := []) F hI (mX6_require l X r8.2 _ r8.1 r12 h13) g_X6_55 hd_X6_require ⟨by decide, by decide⟩ ⟨rfl, rfl⟩ rfl hl.1 rfl (Nat.le_of_ble_eq_true rfl) dX6_play_42 ⟨Nat.zero_le _, Nat.zero_le _⟩) (fun H locs hI => ?_)
      cases h
  · have h := x_ift h c5
    rw [x_some h]
    exact xt_throwN (ex := 1) (is := 159) (text := "the buffer does not tell a course") F Z hI xt_ok1 (by decide +kernel) hl.1 ⟨by decide, by decide, by decide, by decide⟩ dX6_play_10 dX6_play_13 dX6_play_14 dX6_play_16 dX6_play_19
abbrev rm_X6_keep : Room := { frames := 4, cells := 0, slots := 0, locals := 89 }
def fX6_keep (σ : x_S) (a1 : Int32) : Option x_S := (Option.bind (fX6_requireRange a1 (0 : Int32) (1 : Int32)) fun r1 => (if x_in a1 2 then x_let (σ 10 35 (Int32.toNatClampNeg a1)) fun x5 => (if (Int32.toNatClampNeg x5) < 10 then (if 0 ≠ (Int32.toNatClampNeg x5) then x_let (x_sh σ (Int32.toNatClampNeg x5) (σ 0)) fun τ7 => x_let (x_sh τ7 10 (x_hu (τ7 10) 36 (Int32.toNatClampNeg a1) (vp_nar .boolean (1 : Int32)))) fun τ10 => some (τ10) else none) else none) else none))
set_option maxHeartbeats 4000000 in
set_option maxRecDepth 100000 in
theorem mX6_keep (l : Launch) (X : x_T) (sz : Nat) (σ : x_S) (a1 : Int32) (r : x_S) (h : fX6_keep σ a1 = some r) : Met l yX6_keep (x_ws yX6_keep cX6_keep 2 none) rm_X6_keep (x_Pc X σ sz [.ref (X.2.2 10 32), .int a1]) (x_Qv X r sz) 0 0 (x_A X sz) := by
  refine Met.ofW (cc := cX6_keep) (maxL := 2) (ret := none) (by decide) rfl ?_
  intro p e s m args below meth c s₁ B hml hv
  obtain ⟨F, hI, rfl, rfl⟩ := x_begin B hml hv
  replace F : x_F p s m _ meth c cX6_keep 2 RX6 none := F
  have hx := F.1
  have hb := F.2.1
  have hml := F.2.2.1
  have hown := F.2.2.2.1
  have hts := F.2.2.2.2.1
  refine x_entry (vs := [.ref (X.2.2 10 32), .int a1]) (n := 2) (Nat.le_of_ble_eq_true rfl) (fun ls hl => ?_)
  replace hl : lv_has ls 2 [(0, .ref (X.2.2 10 32)), (1, .int a1)] := hl
  unfold fX6_keep at h
  refine lv_iload_n hx hb dX6_keep_0 rfl (lv_at hl 1 rfl) ?_
  refine lv_iconst (v := 0) hx hb dX6_keep_1 (by decide) ?_
  refine lv_iconst (v := 1) hx hb dX6_keep_2 (by decide) ?_
  obtain ⟨r1, h2, h⟩ := x_bnd h
  refine x_acv hI (x_runS (rest := []) F hI (mX6_requireRange l X σ _ a1 (0 : Int32) (1 : Int32) r1 h2) g_X6_114 hd_X6_requireRange ⟨by decide, by decide⟩ ⟨rfl, rfl⟩ rfl hl.1 rfl (Nat.le_of_ble_eq_true rfl) dX6_keep_3 ⟨Nat.zero_le _, Nat.zero_le _⟩) (fun H locs hI => ?_)
  refine lv_aload_n hx hb dX6_keep_6 rfl (lv_at hl 0 rfl) ?_
  refine xsg_6_3 F hI (x_inO (by decide)) u_fl_X6_26 dX6_keep_7 ?_
  refine lv_iload_n hx hb dX6_keep_10 rfl (lv_at hl 1 rfl) ?_
  obtain ⟨g3, h⟩ := x_chk h
  refine x_aald (n := 2) F hI (x_inO (by decide)) (fun _ => rfl) g3 dX6_keep_11 (fun x5 e6 => ?_)
  have h := x_let_at h e6
  obtain ⟨g4, h⟩ := x_chk h
  refine lv_aload_n hx hb dX6_keep_12 rfl (lv_at hl 0 rfl) ?_
  refine xsg_6_0 F hI (x_inO (by decide)) u_fl_X6_12 dX6_keep_13 ?_
  obtain ⟨g9, h⟩ := x_chk h
  refine x_acv hI (x_runV (rest := []) F hI (mX2_copyFromN l X σ 0 (Int32.toNatClampNeg x5) (show 0 < 10 by decide) g4 g9 _) g_X6_164 ⟨rfl, hd_X2_copyFrom⟩ ⟨by decide, by decide⟩ ⟨rfl, rfl⟩ (x_inH g4 (by decide)) rfl rfl rfl rfl hl.1 rfl (Nat.le_of_ble_eq_true rfl) dX6_keep_16 ⟨Nat.zero_le _, Nat.zero_le _⟩) (fun H locs hI => ?_)
  obtain ⟨τ7, e8⟩ : ∃ z : x_S, z = (x_sh σ (Int32.toNatClampNeg x5) (σ 0)) := ⟨_, rfl⟩
  rw [← e8] at hI
  have h := x_let_at h e8
  refine lv_aload_n hx hb dX6_keep_19 rfl (lv_at hl 0 rfl) ?_
  refine xsg_6_4 F hI (x_inO (by decide)) u_fl_X6_30 dX6_keep_20 ?_
  refine lv_iload_n hx hb dX6_keep_23 rfl (lv_at hl 1 rfl) ?_
  refine lv_iconst (v := 1) hx hb dX6_keep_24 (by decide) ?_
  refine x_zast (n := 2) F hI (x_inO (by decide)) (fun _ => rfl) g3 dX6_keep_25 (fun H locs hI => ?_)
  obtain ⟨τ10, e11⟩ : ∃ z : x_S, z = (x_sh τ7 10 (x_hu (τ7 10) 36 (Int32.toNatClampNeg a1) (vp_nar .boolean (1 : Int32)))) := ⟨_, rfl⟩
  rw [← e11] at hI
  have h := x_let_at h e11
  rw [x_some h]
  exact x_vret F hI dX6_keep_26
abbrev rx_X6_keep : Room := { frames := 7, cells := 1, slots := 6, locals := 104 }
def eX6_keep (σ : x_S) (a1 : Int32) : Option (Nat × x_S) := (x_or (eX6_requireRange a1 (0 : Int32) (1 : Int32)) (fun q1 => some (q1, σ)) (Option.bind (fX6_requireRange a1 (0 : Int32) (1 : Int32)) fun r3 => none))
set_option maxHeartbeats 4000000 in
set_option maxRecDepth 100000 in
theorem xX6_keep (l : Launch) (hl0 : l.stackTraces = false) (X : x_T) (sz : Nat) (σ : x_S) (a1 : Int32) (r : (Nat × x_S)) (h : eX6_keep σ a1 = some r) : vx_Met l yX6_keep (x_ws yX6_keep cX6_keep 2 none) rx_X6_keep (x_PcT X σ sz [.ref (X.2.2 10 32), .int a1]) (xt_Qv X sz) (xt_C X r.1 r.2 sz) 1 6 (x_A X sz) := by
  refine vx_ofW (cc := cX6_keep) (maxL := 2) (ret := none) (by decide) rfl ?_
  intro p e s m args below meth c s₁ B hml hnt hv
  obtain ⟨F, Z, hI, rfl, rfl⟩ := xt_begin hl0 B hml hnt hv
  replace F : x_F p s m _ meth c cX6_keep 2 RX6 none := F
  have hx := F.1
  have hb := F.2.1
  have hml := F.2.2.1
  have hown := F.2.2.2.1
  have hts := F.2.2.2.2.1
  refine x_entry (vs := [.ref (X.2.2 10 32), .int a1]) (n := 2) (Nat.le_of_ble_eq_true rfl) (fun ls hl => ?_)
  replace hl : lv_has ls 2 [(0, .ref (X.2.2 10 32)), (1, .int a1)] := hl
  unfold eX6_keep at h
  refine lv_iload_n hx hb dX6_keep_0 rfl (lv_at hl 1 rfl) ?_
  refine lv_iconst (v := 0) hx hb dX6_keep_1 (by decide) ?_
  refine lv_iconst (v := 1) hx hb dX6_keep_2 (by decide) ?_
  rcases x_or_el h with ⟨q1, h2, h⟩ | ⟨-, h⟩
  · rw [x_some h]
    exact xt_acv F Z hI (xt_runS (rest := []) F Z.2.1 hI (xX6_requireRange l Z.1 X σ _ a1 (0 : Int32) (1 : Int32) q1 h2) g_X6_114 hd_X6_requireRange ⟨by decide, by decide⟩ ⟨rfl, rfl⟩ rfl hl.1 rfl (Nat.le_of_ble_eq_true rfl) dX6_keep_3 ⟨by decide, by decide⟩)
  · obtain ⟨r3, h4, h⟩ := x_bnd h
    refine x_acv hI (x_runS (rest := []) F hI (mX6_requireRange l X σ _ a1 (0 : Int32) (1 : Int32) r3 h4) g_X6_114 hd_X6_requireRange ⟨by decide, by decide⟩ ⟨rfl, rfl⟩ rfl hl.1 rfl (Nat.le_of_ble_eq_true rfl) dX6_keep_3 ⟨Nat.zero_le _, Nat.zero_le _⟩) (fun H locs hI => ?_)
    cases h
abbrev rm_X6_goBack : Room := { frames := 5, cells := 0, slots := 0, locals := 110 }
def fX6_goBack (σ : x_S) (a1 : Int32) : Option x_S := (Option.bind (fX6_requireRange a1 (0 : Int32) (1 : Int32)) fun r1 => (if x_in a1 2 then (Option.bind (fX6_require (σ 10 36 (Int32.toNatClampNeg a1))) fun r4 => (Option.bind (fX5_push σ ) fun r6 => x_let (r6 10 35 (Int32.toNatClampNeg a1)) fun x9 => (if (Int32.toNatClampNeg x9) < 10 then (if (Int32.toNatClampNeg x9) ≠ 0 then x_let (x_sh r6 0 (r6 (Int32.toNatClampNeg x9))) fun τ11 => some (τ11) else none) else none))) else none))
set_option maxHeartbeats 4000000 in
set_option maxRecDepth 100000 in
theorem mX6_goBack (l : Launch) (X : x_T) (sz : Nat) (σ : x_S) (a1 : Int32) (r : x_S) (h : fX6_goBack σ a1 = some r) : Met l yX6_goBack (x_ws yX6_goBack cX6_goBack 2 none) rm_X6_goBack (x_Pc X σ sz [.ref (X.2.2 10 32), .int a1]) (x_Qv X r sz) 0 0 (x_A X sz) := by
  refine Met.ofW (cc := cX6_goBack) (maxL := 2) (ret := none) (by decide) rfl ?_
  intro p e s m args below meth c s₁ B hml hv
  obtain ⟨F, hI, rfl, rfl⟩ := x_begin B hml hv
  replace F : x_F p s m _ meth c cX6_goBack 2 RX6 none := F
  have hx := F.1
  have hb := F.2.1
  have hml := F.2.2.1
  have hown := F.2.2.2.1
  have hts := F.2.2.2.2.1
  refine x_entry (vs := [.ref (X.2.2 10 32), .int a1]) (n := 2) (Nat.le_of_ble_eq_true rfl) (fun ls hl => ?_)
  replace hl : lv_has ls 2 [(0, .ref (X.2.2 10 32)), (1, .int a1)] := hl
  unfold fX6_goBack at h
  refine lv_iload_n hx hb dX6_goBack_0 rfl (lv_at hl 1 rfl) ?_
  refine lv_iconst (v := 0) hx hb dX6_goBack_1 (by decide) ?_
  refine lv_iconst (v := 1) hx hb dX6_goBack_2 (by decide) ?_
  obtain ⟨r1, h2, h⟩ := x_bnd h
  refine x_acv hI (x_runS (rest := []) F hI (mX6_requireRange l X σ _ a1 (0 : Int32) (1 : Int32) r1 h2) g_X6_114 hd_X6_requireRange ⟨by decide, by decide⟩ ⟨rfl, rfl⟩ rfl hl.1 rfl (Nat.le_of_ble_eq_true rfl) dX6_goBack_3 ⟨Nat.zero_le _, Nat.zero_le _⟩) (fun H locs hI => ?_)
  refine lv_aload_n hx hb dX6_goBack_6 rfl (lv_at hl 0 rfl) ?_
  refine xsg_6_4 F hI (x_inO (by decide)) u_fl_X6_30 dX6_goBack_7 ?_
  refine lv_iload_n hx hb dX6_goBack_10 rfl (lv_at hl 1 rfl) ?_
  obtain ⟨g3, h⟩ := x_chk h
  refine x_zald (n := 2) F hI (x_inO (by decide)) (fun _ => rfl) g3 dX6_goBack_11 ?_
  obtain ⟨r4, h5, h⟩ := x_bnd h
  refine x_acv hI (x_runS (rest := []) F hI (mX6_require l X σ _ (σ 10 36 (Int32.toNatClampNeg a1)) r4 h5) g_X6_55 hd_X6_require ⟨by decide, by decide⟩ ⟨rfl, rfl⟩ rfl hl.1 rfl (Nat.le_of_ble_eq_true rfl) dX6_goBack_12 ⟨Nat.zero_le _, Nat.zero_le _⟩) (fun H locs hI => ?_)
  refine lv_aload_n hx hb dX6_goBack_15 rfl (lv_at hl 0 rfl) ?_
  refine xsg_6_2 F hI (x_inO (by decide)) u_fl_X6_22 dX6_goBack_16 ?_
  refine lv_aload_n hx hb dX6_goBack_19 rfl (lv_at hl 0 rfl) ?_
  refine xsg_6_0 F hI (x_inO (by decide)) u_fl_X6_12 dX6_goBack_20 ?_
  obtain ⟨r6, h7, h⟩ := x_bnd h
  refine x_acv hI (x_runV (rest := []) F hI (mX5_push l X _ σ  r6 h7) g_X6_59 ⟨rfl, hd_X5_push⟩ ⟨by decide, by decide⟩ ⟨rfl, rfl⟩ (x_inO (by decide)) rfl rfl rfl rfl hl.1 rfl (Nat.le_of_ble_eq_true rfl) dX6_goBack_23 ⟨Nat.zero_le _, Nat.zero_le _⟩) (fun H locs hI => ?_)
  refine lv_aload_n hx hb dX6_goBack_26 rfl (lv_at hl 0 rfl) ?_
  refine xsg_6_0 F hI (x_inO (by decide)) u_fl_X6_12 dX6_goBack_27 ?_
  refine lv_aload_n hx hb dX6_goBack_30 rfl (lv_at hl 0 rfl) ?_
  refine xsg_6_3 F hI (x_inO (by decide)) u_fl_X6_26 dX6_goBack_31 ?_
  refine lv_iload_n hx hb dX6_goBack_34 rfl (lv_at hl 1 rfl) ?_
  refine x_aald (n := 2) F hI (x_inO (by decide)) (fun _ => rfl) g3 dX6_goBack_35 (fun x9 e10 => ?_)
  have h := x_let_at h e10
  obtain ⟨g8, h⟩ := x_chk h
  obtain ⟨g13, h⟩ := x_chk h
  refine x_acv hI (x_runV (rest := []) F hI (mX2_copyFromN l X r6 (Int32.toNatClampNeg x9) 0 g8 (show 0 < 10 by decide) g13 _) g_X6_164 ⟨rfl, hd_X2_copyFrom⟩ ⟨by decide, by decide⟩ ⟨rfl, rfl⟩ (x_inH (show 0 < 10 by decide) (by decide)) rfl rfl rfl rfl hl.1 rfl (Nat.le_of_ble_eq_true rfl) dX6_goBack_36 ⟨Nat.zero_le _, Nat.zero_le _⟩) (fun H locs hI => ?_)
  obtain ⟨τ11, e12⟩ : ∃ z : x_S, z = (x_sh r6 0 (r6 (Int32.toNatClampNeg x9))) := ⟨_, rfl⟩
  rw [← e12] at hI
  have h := x_let_at h e12
  rw [x_some h]
  exact x_vret F hI dX6_goBack_39
abbrev rx_X6_goBack : Room := { frames := 7, cells := 1, slots := 6, locals := 110 }
def eX6_goBack (σ : x_S) (a1 : Int32) : Option (Nat × x_S) := (x_or (eX6_requireRange a1 (0 : Int32) (1 : Int32)) (fun q1 => some (q1, σ)) (Option.bind (fX6_requireRange a1 (0 : Int32) (1 : Int32)) fun r3 => (if x_in a1 2 then (x_or (eX6_require (σ 10 36 (Int32.toNatClampNeg a1))) (fun q6 => some (q6, σ)) (Option.bind (fX6_require (σ 10 36 (Int32.toNatClampNeg a1))) fun r8 => none)) else none)))
set_option maxHeartbeats 4000000 in
set_option maxRecDepth 100000 in
theorem xX6_goBack (l : Launch) (hl0 : l.stackTraces = false) (X : x_T) (sz : Nat) (σ : x_S) (a1 : Int32) (r : (Nat × x_S)) (h : eX6_goBack σ a1 = some r) : vx_Met l yX6_goBack (x_ws yX6_goBack cX6_goBack 2 none) rx_X6_goBack (x_PcT X σ sz [.ref (X.2.2 10 32), .int a1]) (xt_Qv X sz) (xt_C X r.1 r.2 sz) 1 6 (x_A X sz) := by
  refine vx_ofW (cc := cX6_goBack) (maxL := 2) (ret := none) (by decide) rfl ?_
  intro p e s m args below meth c s₁ B hml hnt hv
  obtain ⟨F, Z, hI, rfl, rfl⟩ := xt_begin hl0 B hml hnt hv
  replace F : x_F p s m _ meth c cX6_goBack 2 RX6 none := F
  have hx := F.1
  have hb := F.2.1
  have hml := F.2.2.1
  have hown := F.2.2.2.1
  have hts := F.2.2.2.2.1
  refine x_entry (vs := [.ref (X.2.2 10 32), .int a1]) (n := 2) (Nat.le_of_ble_eq_true rfl) (fun ls hl => ?_)
  replace hl : lv_has ls 2 [(0, .ref (X.2.2 10 32)), (1, .int a1)] := hl
  unfold eX6_goBack at h
  refine lv_iload_n hx hb dX6_goBack_0 rfl (lv_at hl 1 rfl) ?_
  refine lv_iconst (v := 0) hx hb dX6_goBack_1 (by decide) ?_
  refine lv_iconst (v := 1) hx hb dX6_goBack_2 (by decide) ?_
  rcases x_or_el h with ⟨q1, h2, h⟩ | ⟨-, h⟩
  · rw [x_some h]
    exact xt_acv F Z hI (xt_runS (rest := []) F Z.2.1 hI (xX6_requireRange l Z.1 X σ _ a1 (0 : Int32) (1 : Int32) q1 h2) g_X6_114 hd_X6_requireRange ⟨by decide, by decide⟩ ⟨rfl, rfl⟩ rfl hl.1 rfl (Nat.le_of_ble_eq_true rfl) dX6_goBack_3 ⟨by decide, by decide⟩)
  · obtain ⟨r3, h4, h⟩ := x_bnd h
    refine x_acv hI (x_runS (rest := []) F hI (mX6_requireRange l X σ _ a1 (0 : Int32) (1 : Int32) r3 h4) g_X6_114 hd_X6_requireRange ⟨by decide, by decide⟩ ⟨rfl, rfl⟩ rfl hl.1 rfl (Nat.le_of_ble_eq_true rfl) dX6_goBack_3 ⟨Nat.zero_le _, Nat.zero_le _⟩) (fun H locs hI => ?_)
    refine lv_aload_n hx hb dX6_goBack_6 rfl (lv_at hl 0 rfl) ?_
    refine xsg_6_4 F hI (x_inO (by decide)) u_fl_X6_30 dX6_goBack_7 ?_
    refine lv_iload_n hx hb dX6_goBack_10 rfl (lv_at hl 1 rfl) ?_
    obtain ⟨g5, h⟩ := x_chk h
    refine x_zald (n := 2) F hI (x_inO (by decide)) (fun _ => rfl) g5 dX6_goBack_11 ?_
    rcases x_or_el h with ⟨q6, h7, h⟩ | ⟨-, h⟩
    · rw [x_some h]
      exact xt_acv F Z hI (xt_runS (rest := []) F Z.2.1 hI (xX6_require l Z.1 X σ _ (σ 10 36 (Int32.toNatClampNeg a1)) q6 h7) g_X6_55 hd_X6_require ⟨by decide, by decide⟩ ⟨rfl, rfl⟩ rfl hl.1 rfl (Nat.le_of_ble_eq_true rfl) dX6_goBack_12 ⟨by decide, by decide⟩)
    · obtain ⟨r8, h9, h⟩ := x_bnd h
      refine x_acv hI (x_runS (rest := []) F hI (mX6_require l X σ _ (σ 10 36 (Int32.toNatClampNeg a1)) r8 h9) g_X6_55 hd_X6_require ⟨by decide, by decide⟩ ⟨rfl, rfl⟩ rfl hl.1 rfl (Nat.le_of_ble_eq_true rfl) dX6_goBack_12 ⟨Nat.zero_le _, Nat.zero_le _⟩) (fun H locs hI => ?_)
      cases h
abbrev rm_X6_undo : Room := { frames := 5, cells := 0, slots := 0, locals := 110 }
def fX6_undo (σ : x_S) : Option x_S := (if (σ 10 33 0) ≤ 0 then (Option.bind (fX6_require (0 : Int32)) fun r2 => (Option.bind (fX5_popTo σ ) fun r4 => some (r4))) else (Option.bind (fX6_require (1 : Int32)) fun r6 => (Option.bind (fX5_popTo σ ) fun r8 => some (r8))))
set_option maxHeartbeats 4000000 in
set_option maxRecDepth 100000 in
theorem mX6_undo (l : Launch) (X : x_T) (sz : Nat) (σ : x_S) (r : x_S) (h : fX6_undo σ  = some r) : Met l yX6_undo (x_ws yX6_undo cX6_undo 1 none) rm_X6_undo (x_Pc X σ sz [.ref (X.2.2 10 32)]) (x_Qv X r sz) 0 0 (x_A X sz) := by
  refine Met.ofW (cc := cX6_undo) (maxL := 1) (ret := none) (by decide) rfl ?_
  intro p e s m args below meth c s₁ B hml hv
  obtain ⟨F, hI, rfl, rfl⟩ := x_begin B hml hv
  replace F : x_F p s m _ meth c cX6_undo 1 RX6 none := F
  have hx := F.1
  have hb := F.2.1
  have hml := F.2.2.1
  have hown := F.2.2.2.1
  have hts := F.2.2.2.2.1
  refine x_entry (vs := [.ref (X.2.2 10 32)]) (n := 1) (Nat.le_of_ble_eq_true rfl) (fun ls hl => ?_)
  replace hl : lv_has ls 1 [(0, .ref (X.2.2 10 32))] := hl
  unfold fX6_undo at h
  refine lv_aload_n hx hb dX6_undo_0 rfl (lv_at hl 0 rfl) ?_
  refine xsg_6_2 F hI (x_inO (by decide)) u_fl_X6_22 dX6_undo_1 ?_
  refine xsg_5_1 F hI (x_inO (by decide)) u_fl_X6_174 dX6_undo_4 ?_
  refine lv_if_le (tgt := 14) hx hb dX6_undo_7 (by decide) (fun c1 => ?_) (fun c1 => ?_)
  · have h := x_ift h c1
    refine lv_iconst (v := 0) hx hb dX6_undo_14 (by decide) ?_
    obtain ⟨r2, h3, h⟩ := x_bnd h
    refine x_acv hI (x_runS (rest := []) F hI (mX6_require l X σ _ (0 : Int32) r2 h3) g_X6_55 hd_X6_require ⟨by decide, by decide⟩ ⟨rfl, rfl⟩ rfl hl.1 rfl (Nat.le_of_ble_eq_true rfl) dX6_undo_15 ⟨Nat.zero_le _, Nat.zero_le _⟩) (fun H locs hI => ?_)
    refine lv_aload_n hx hb dX6_undo_18 rfl (lv_at hl 0 rfl) ?_
    refine xsg_6_2 F hI (x_inO (by decide)) u_fl_X6_22 dX6_undo_19 ?_
    refine lv_aload_n hx hb dX6_undo_22 rfl (lv_at hl 0 rfl) ?_
    refine xsg_6_0 F hI (x_inO (by decide)) u_fl_X6_12 dX6_undo_23 ?_
    obtain ⟨r4, h5, h⟩ := x_bnd h
    refine x_acv hI (x_runV (rest := []) F hI (mX5_popTo l X _ σ  r4 h5) g_X6_177 ⟨rfl, hd_X5_popTo⟩ ⟨by decide, by decide⟩ ⟨rfl, rfl⟩ (x_inO (by decide)) rfl rfl rfl rfl hl.1 rfl (Nat.le_of_ble_eq_true rfl) dX6_undo_26 ⟨Nat.zero_le _, Nat.zero_le _⟩) (fun H locs hI => ?_)
    rw [x_some h]
    exact x_vret F hI dX6_undo_29
  · have h := x_iff h c1
    refine lv_iconst (v := 1) hx hb dX6_undo_10 (by decide) ?_
    refine lv_goto (tgt := 15) hx hb dX6_undo_11 (by decide) ?_
    obtain ⟨r6, h7, h⟩ := x_bnd h
    refine x_acv hI (x_runS (rest := []) F hI (mX6_require l X σ _ (1 : Int32) r6 h7) g_X6_55 hd_X6_require ⟨by decide, by decide⟩ ⟨rfl, rfl⟩ rfl hl.1 rfl (Nat.le_of_ble_eq_true rfl) dX6_undo_15 ⟨Nat.zero_le _, Nat.zero_le _⟩) (fun H locs hI => ?_)
    refine lv_aload_n hx hb dX6_undo_18 rfl (lv_at hl 0 rfl) ?_
    refine xsg_6_2 F hI (x_inO (by decide)) u_fl_X6_22 dX6_undo_19 ?_
    refine lv_aload_n hx hb dX6_undo_22 rfl (lv_at hl 0 rfl) ?_
    refine xsg_6_0 F hI (x_inO (by decide)) u_fl_X6_12 dX6_undo_23 ?_
    obtain ⟨r8, h9, h⟩ := x_bnd h
    refine x_acv hI (x_runV (rest := []) F hI (mX5_popTo l X _ σ  r8 h9) g_X6_177 ⟨rfl, hd_X5_popTo⟩ ⟨by decide, by decide⟩ ⟨rfl, rfl⟩ (x_inO (by decide)) rfl rfl rfl rfl hl.1 rfl (Nat.le_of_ble_eq_true rfl) dX6_undo_26 ⟨Nat.zero_le _, Nat.zero_le _⟩) (fun H locs hI => ?_)
    rw [x_some h]
    exact x_vret F hI dX6_undo_29
abbrev rx_X6_undo : Room := { frames := 7, cells := 1, slots := 6, locals := 110 }
def eX6_undo (σ : x_S) : Option (Nat × x_S) := (if (σ 10 33 0) ≤ 0 then (x_or (eX6_require (0 : Int32)) (fun q2 => some (q2, σ)) (Option.bind (fX6_require (0 : Int32)) fun r4 => none)) else (x_or (eX6_require (1 : Int32)) (fun q6 => some (q6, σ)) (Option.bind (fX6_require (1 : Int32)) fun r8 => none)))
set_option maxHeartbeats 4000000 in
set_option maxRecDepth 100000 in
theorem xX6_undo (l : Launch) (hl0 : l.stackTraces = false) (X : x_T) (sz : Nat) (σ : x_S) (r : (Nat × x_S)) (h : eX6_undo σ  = some r) : vx_Met l yX6_undo (x_ws yX6_undo cX6_undo 1 none) rx_X6_undo (x_PcT X σ sz [.ref (X.2.2 10 32)]) (xt_Qv X sz) (xt_C X r.1 r.2 sz) 1 6 (x_A X sz) := by
  refine vx_ofW (cc := cX6_undo) (maxL := 1) (ret := none) (by decide) rfl ?_
  intro p e s m args below meth c s₁ B hml hnt hv
  obtain ⟨F, Z, hI, rfl, rfl⟩ := xt_begin hl0 B hml hnt hv
  replace F : x_F p s m _ meth c cX6_undo 1 RX6 none := F
  have hx := F.1
  have hb := F.2.1
  have hml := F.2.2.1
  have hown := F.2.2.2.1
  have hts := F.2.2.2.2.1
  refine x_entry (vs := [.ref (X.2.2 10 32)]) (n := 1) (Nat.le_of_ble_eq_true rfl) (fun ls hl => ?_)
  replace hl : lv_has ls 1 [(0, .ref (X.2.2 10 32))] := hl
  unfold eX6_undo at h
  refine lv_aload_n hx hb dX6_undo_0 rfl (lv_at hl 0 rfl) ?_
  refine xsg_6_2 F hI (x_inO (by decide)) u_fl_X6_22 dX6_undo_1 ?_
  refine xsg_5_1 F hI (x_inO (by decide)) u_fl_X6_174 dX6_undo_4 ?_
  refine lv_if_le (tgt := 14) hx hb dX6_undo_7 (by decide) (fun c1 => ?_) (fun c1 => ?_)
  · have h := x_ift h c1
    refine lv_iconst (v := 0) hx hb dX6_undo_14 (by decide) ?_
    rcases x_or_el h with ⟨q2, h3, h⟩ | ⟨-, h⟩
    · rw [x_some h]
      exact xt_acv F Z hI (xt_runS (rest := []) F Z.2.1 hI (xX6_require l Z.1 X σ _ (0 : Int32) q2 h3) g_X6_55 hd_X6_require ⟨by decide, by decide⟩ ⟨rfl, rfl⟩ rfl hl.1 rfl (Nat.le_of_ble_eq_true rfl) dX6_undo_15 ⟨by decide, by decide⟩)
    · obtain ⟨r4, h5, h⟩ := x_bnd h
      refine x_acv hI (x_runS (rest := []) F hI (mX6_require l X σ _ (0 : Int32) r4 h5) g_X6_55 hd_X6_require ⟨by decide, by decide⟩ ⟨rfl, rfl⟩ rfl hl.1 rfl (Nat.le_of_ble_eq_true rfl) dX6_undo_15 ⟨Nat.zero_le _, Nat.zero_le _⟩) (fun H locs hI => ?_)
      cases h
  · have h := x_iff h c1
    refine lv_iconst (v := 1) hx hb dX6_undo_10 (by decide) ?_
    refine lv_goto (tgt := 15) hx hb dX6_undo_11 (by decide) ?_
    rcases x_or_el h with ⟨q6, h7, h⟩ | ⟨-, h⟩
    · rw [x_some h]
      exact xt_acv F Z hI (xt_runS (rest := []) F Z.2.1 hI (xX6_require l Z.1 X σ _ (1 : Int32) q6 h7) g_X6_55 hd_X6_require ⟨by decide, by decide⟩ ⟨rfl, rfl⟩ rfl hl.1 rfl (Nat.le_of_ble_eq_true rfl) dX6_undo_15 ⟨by decide, by decide⟩)
    · obtain ⟨r8, h9, h⟩ := x_bnd h
      refine x_acv hI (x_runS (rest := []) F hI (mX6_require l X σ _ (1 : Int32) r8 h9) g_X6_55 hd_X6_require ⟨by decide, by decide⟩ ⟨rfl, rfl⟩ rfl hl.1 rfl (Nat.le_of_ble_eq_true rfl) dX6_undo_15 ⟨Nat.zero_le _, Nat.zero_le _⟩) (fun H locs hI => ?_)
      cases h
abbrev rm_X6_doingOf : Room := { frames := 2, cells := 0, slots := 0, locals := 40 }
def fX6_doingOf (σ : x_S) (a1 : Int32) : Option Int32 := (Option.bind (fX6_requireGuest a1) fun r1 => (if x_in a1 12 then some (σ 0 5 (Int32.toNatClampNeg a1)) else none))
set_option maxHeartbeats 4000000 in
set_option maxRecDepth 100000 in
theorem mX6_doingOf (l : Launch) (X : x_T) (sz : Nat) (σ : x_S) (a1 : Int32) (r : Int32) (h : fX6_doingOf σ a1 = some r) : Met l yX6_doingOf (x_ws yX6_doingOf cX6_doingOf 2 (some .int)) rm_X6_doingOf (x_Pc X σ sz [.ref (X.2.2 10 32), .int a1]) (x_Qi X r σ sz) 0 0 (x_A X sz) := by
  refine Met.ofW (cc := cX6_doingOf) (maxL := 2) (ret := (some .int)) (by decide) rfl ?_
  intro p e s m args below meth c s₁ B hml hv
  obtain ⟨F, hI, rfl, rfl⟩ := x_begin B hml hv
  replace F : x_F p s m _ meth c cX6_doingOf 2 RX6 (some .int) := F
  have hx := F.1
  have hb := F.2.1
  have hml := F.2.2.1
  have hown := F.2.2.2.1
  have hts := F.2.2.2.2.1
  refine x_entry (vs := [.ref (X.2.2 10 32), .int a1]) (n := 2) (Nat.le_of_ble_eq_true rfl) (fun ls hl => ?_)
  replace hl : lv_has ls 2 [(0, .ref (X.2.2 10 32)), (1, .int a1)] := hl
  unfold fX6_doingOf at h
  refine lv_iload_n hx hb dX6_doingOf_0 rfl (lv_at hl 1 rfl) ?_
  obtain ⟨r1, h2, h⟩ := x_bnd h
  refine x_acv hI (x_runS (rest := []) F hI (mX6_requireGuest l X σ _ a1 r1 h2) g_X6_41 hd_X6_requireGuest ⟨by decide, by decide⟩ ⟨rfl, rfl⟩ rfl hl.1 rfl (Nat.le_of_ble_eq_true rfl) dX6_doingOf_1 ⟨Nat.zero_le _, Nat.zero_le _⟩) (fun H locs hI => ?_)
  refine lv_aload_n hx hb dX6_doingOf_4 rfl (lv_at hl 0 rfl) ?_
  refine xsg_6_0 F hI (x_inO (by decide)) u_fl_X6_12 dX6_doingOf_5 ?_
  refine xsg_2_0 F hI (x_inH (show 0 < 10 by decide) (by decide)) u_fl_X6_45 dX6_doingOf_8 ?_
  refine xsg_1_0 F hI (x_inH (show 0 < 10 by decide) (by decide)) u_fl_X6_49 dX6_doingOf_11 ?_
  refine lv_iload_n hx hb dX6_doingOf_14 rfl (lv_at hl 1 rfl) ?_
  obtain ⟨g3, h⟩ := x_chk h
  refine x_iald (n := 12) F hI (x_inH (show 0 < 10 by decide) (by decide)) (fun _ => rfl) g3 dX6_doingOf_15 ?_
  rw [x_some h]
  exact x_iret F hI dX6_doingOf_16
abbrev rx_X6_doingOf : Room := { frames := 7, cells := 1, slots := 6, locals := 102 }
def eX6_doingOf (σ : x_S) (a1 : Int32) : Option Nat := (x_or (eX6_requireGuest a1) (fun q1 => some q1) (Option.bind (fX6_requireGuest a1) fun r3 => none))
set_option maxHeartbeats 4000000 in
set_option maxRecDepth 100000 in
theorem xX6_doingOf (l : Launch) (hl0 : l.stackTraces = false) (X : x_T) (sz : Nat) (σ : x_S) (a1 : Int32) (r : Nat) (h : eX6_doingOf σ a1 = some r) : vx_Met l yX6_doingOf (x_ws yX6_doingOf cX6_doingOf 2 (some .int)) rx_X6_doingOf (x_PcT X σ sz [.ref (X.2.2 10 32), .int a1]) (xt_Qi X sz) (xt_C X r σ sz) 1 6 (x_A X sz) := by
  refine vx_ofW (cc := cX6_doingOf) (maxL := 2) (ret := (some .int)) (by decide) rfl ?_
  intro p e s m args below meth c s₁ B hml hnt hv
  obtain ⟨F, Z, hI, rfl, rfl⟩ := xt_begin hl0 B hml hnt hv
  replace F : x_F p s m _ meth c cX6_doingOf 2 RX6 (some .int) := F
  have hx := F.1
  have hb := F.2.1
  have hml := F.2.2.1
  have hown := F.2.2.2.1
  have hts := F.2.2.2.2.1
  refine x_entry (vs := [.ref (X.2.2 10 32), .int a1]) (n := 2) (Nat.le_of_ble_eq_true rfl) (fun ls hl => ?_)
  replace hl : lv_has ls 2 [(0, .ref (X.2.2 10 32)), (1, .int a1)] := hl
  unfold eX6_doingOf at h
  refine lv_iload_n hx hb dX6_doingOf_0 rfl (lv_at hl 1 rfl) ?_
  rcases x_or_el h with ⟨q1, h2, h⟩ | ⟨-, h⟩
  · rw [x_some h]
    exact xt_acv F Z hI (xt_runS (rest := []) F Z.2.1 hI (xX6_requireGuest l Z.1 X σ _ a1 q1 h2) g_X6_41 hd_X6_requireGuest ⟨by decide, by decide⟩ ⟨rfl, rfl⟩ rfl hl.1 rfl (Nat.le_of_ble_eq_true rfl) dX6_doingOf_1 ⟨by decide, by decide⟩)
  · obtain ⟨r3, h4, h⟩ := x_bnd h
    refine x_acv hI (x_runS (rest := []) F hI (mX6_requireGuest l X σ _ a1 r3 h4) g_X6_41 hd_X6_requireGuest ⟨by decide, by decide⟩ ⟨rfl, rfl⟩ rfl hl.1 rfl (Nat.le_of_ble_eq_true rfl) dX6_doingOf_1 ⟨Nat.zero_le _, Nat.zero_le _⟩) (fun H locs hI => ?_)
    cases h
abbrev rm_X6_roomOf : Room := { frames := 2, cells := 0, slots := 0, locals := 40 }
def fX6_roomOf (σ : x_S) (a1 : Int32) : Option Int32 := (Option.bind (fX6_requireGuest a1) fun r1 => (if x_in a1 12 then (if (σ 0 6 (Int32.toNatClampNeg a1)) = (-1 : Int32) then (Option.bind (fX6_require (0 : Int32)) fun r5 => some (σ 0 6 (Int32.toNatClampNeg a1))) else (Option.bind (fX6_require (1 : Int32)) fun r7 => some (σ 0 6 (Int32.toNatClampNeg a1)))) else none))
set_option maxHeartbeats 4000000 in
set_option maxRecDepth 100000 in
theorem mX6_roomOf (l : Launch) (X : x_T) (sz : Nat) (σ : x_S) (a1 : Int32) (r : Int32) (h : fX6_roomOf σ a1 = some r) : Met l yX6_roomOf (x_ws yX6_roomOf cX6_roomOf 2 (some .int)) rm_X6_roomOf (x_Pc X σ sz [.ref (X.2.2 10 32), .int a1]) (x_Qi X r σ sz) 0 0 (x_A X sz) := by
  refine Met.ofW (cc := cX6_roomOf) (maxL := 2) (ret := (some .int)) (by decide) rfl ?_
  intro p e s m args below meth c s₁ B hml hv
  obtain ⟨F, hI, rfl, rfl⟩ := x_begin B hml hv
  replace F : x_F p s m _ meth c cX6_roomOf 2 RX6 (some .int) := F
  have hx := F.1
  have hb := F.2.1
  have hml := F.2.2.1
  have hown := F.2.2.2.1
  have hts := F.2.2.2.2.1
  refine x_entry (vs := [.ref (X.2.2 10 32), .int a1]) (n := 2) (Nat.le_of_ble_eq_true rfl) (fun ls hl => ?_)
  replace hl : lv_has ls 2 [(0, .ref (X.2.2 10 32)), (1, .int a1)] := hl
  unfold fX6_roomOf at h
  refine lv_iload_n hx hb dX6_roomOf_0 rfl (lv_at hl 1 rfl) ?_
  obtain ⟨r1, h2, h⟩ := x_bnd h
  refine x_acv hI (x_runS (rest := []) F hI (mX6_requireGuest l X σ _ a1 r1 h2) g_X6_41 hd_X6_requireGuest ⟨by decide, by decide⟩ ⟨rfl, rfl⟩ rfl hl.1 rfl (Nat.le_of_ble_eq_true rfl) dX6_roomOf_1 ⟨Nat.zero_le _, Nat.zero_le _⟩) (fun H locs hI => ?_)
  refine lv_aload_n hx hb dX6_roomOf_4 rfl (lv_at hl 0 rfl) ?_
  refine xsg_6_0 F hI (x_inO (by decide)) u_fl_X6_12 dX6_roomOf_5 ?_
  refine xsg_2_0 F hI (x_inH (show 0 < 10 by decide) (by decide)) u_fl_X6_45 dX6_roomOf_8 ?_
  refine xsg_1_1 F hI (x_inH (show 0 < 10 by decide) (by decide)) u_fl_X6_76 dX6_roomOf_11 ?_
  refine lv_iload_n hx hb dX6_roomOf_14 rfl (lv_at hl 1 rfl) ?_
  obtain ⟨g3, h⟩ := x_chk h
  refine x_iald (n := 12) F hI (x_inH (show 0 < 10 by decide) (by decide)) (fun _ => rfl) g3 dX6_roomOf_15 ?_
  refine lv_iconst (v := (-1)) hx hb dX6_roomOf_16 (by decide) ?_
  refine lv_icmp_eq (tgt := 24) hx hb dX6_roomOf_17 (by decide) (fun c4 => ?_) (fun c4 => ?_)
  · have h := x_ift h c4
    refine lv_iconst (v := 0) hx hb dX6_roomOf_24 (by decide) ?_
    obtain ⟨r5, h6, h⟩ := x_bnd h
    refine x_acv hI (x_runS (rest := []) F hI (mX6_require l X σ _ (0 : Int32) r5 h6) g_X6_55 hd_X6_require ⟨by decide, by decide⟩ ⟨rfl, rfl⟩ rfl hl.1 rfl (Nat.le_of_ble_eq_true rfl) dX6_roomOf_25 ⟨Nat.zero_le _, Nat.zero_le _⟩) (fun H locs hI => ?_)
    refine lv_aload_n hx hb dX6_roomOf_28 rfl (lv_at hl 0 rfl) ?_
    refine xsg_6_0 F hI (x_inO (by decide)) u_fl_X6_12 dX6_roomOf_29 ?_
    refine xsg_2_0 F hI (x_inH (show 0 < 10 by decide) (by decide)) u_fl_X6_45 dX6_roomOf_32 ?_
    refine xsg_1_1 F hI (x_inH (show 0 < 10 by decide) (by decide)) u_fl_X6_76 dX6_roomOf_35 ?_
    refine lv_iload_n hx hb dX6_roomOf_38 rfl (lv_at hl 1 rfl) ?_
    refine x_iald (n := 12) F hI (x_inH (show 0 < 10 by decide) (by decide)) (fun _ => rfl) g3 dX6_roomOf_39 ?_
    rw [x_some h]
    exact x_iret F hI dX6_roomOf_40
  · have h := x_iff h c4
    refine lv_iconst (v := 1) hx hb dX6_roomOf_20 (by decide) ?_
    refine lv_goto (tgt := 25) hx hb dX6_roomOf_21 (by decide) ?_
    obtain ⟨r7, h8, h⟩ := x_bnd h
    refine x_acv hI (x_runS (rest := []) F hI (mX6_require l X σ _ (1 : Int32) r7 h8) g_X6_55 hd_X6_require ⟨by decide, by decide⟩ ⟨rfl, rfl⟩ rfl hl.1 rfl (Nat.le_of_ble_eq_true rfl) dX6_roomOf_25 ⟨Nat.zero_le _, Nat.zero_le _⟩) (fun H locs hI => ?_)
    refine lv_aload_n hx hb dX6_roomOf_28 rfl (lv_at hl 0 rfl) ?_
    refine xsg_6_0 F hI (x_inO (by decide)) u_fl_X6_12 dX6_roomOf_29 ?_
    refine xsg_2_0 F hI (x_inH (show 0 < 10 by decide) (by decide)) u_fl_X6_45 dX6_roomOf_32 ?_
    refine xsg_1_1 F hI (x_inH (show 0 < 10 by decide) (by decide)) u_fl_X6_76 dX6_roomOf_35 ?_
    refine lv_iload_n hx hb dX6_roomOf_38 rfl (lv_at hl 1 rfl) ?_
    refine x_iald (n := 12) F hI (x_inH (show 0 < 10 by decide) (by decide)) (fun _ => rfl) g3 dX6_roomOf_39 ?_
    rw [x_some h]
    exact x_iret F hI dX6_roomOf_40
abbrev rx_X6_roomOf : Room := { frames := 7, cells := 1, slots := 6, locals := 102 }
def eX6_roomOf (σ : x_S) (a1 : Int32) : Option Nat := (x_or (eX6_requireGuest a1) (fun q1 => some q1) (Option.bind (fX6_requireGuest a1) fun r3 => (if x_in a1 12 then (if (σ 0 6 (Int32.toNatClampNeg a1)) = (-1 : Int32) then (x_or (eX6_require (0 : Int32)) (fun q7 => some q7) (Option.bind (fX6_require (0 : Int32)) fun r9 => none)) else (x_or (eX6_require (1 : Int32)) (fun q11 => some q11) (Option.bind (fX6_require (1 : Int32)) fun r13 => none))) else none)))
set_option maxHeartbeats 4000000 in
set_option maxRecDepth 100000 in
theorem xX6_roomOf (l : Launch) (hl0 : l.stackTraces = false) (X : x_T) (sz : Nat) (σ : x_S) (a1 : Int32) (r : Nat) (h : eX6_roomOf σ a1 = some r) : vx_Met l yX6_roomOf (x_ws yX6_roomOf cX6_roomOf 2 (some .int)) rx_X6_roomOf (x_PcT X σ sz [.ref (X.2.2 10 32), .int a1]) (xt_Qi X sz) (xt_C X r σ sz) 1 6 (x_A X sz) := by
  refine vx_ofW (cc := cX6_roomOf) (maxL := 2) (ret := (some .int)) (by decide) rfl ?_
  intro p e s m args below meth c s₁ B hml hnt hv
  obtain ⟨F, Z, hI, rfl, rfl⟩ := xt_begin hl0 B hml hnt hv
  replace F : x_F p s m _ meth c cX6_roomOf 2 RX6 (some .int) := F
  have hx := F.1
  have hb := F.2.1
  have hml := F.2.2.1
  have hown := F.2.2.2.1
  have hts := F.2.2.2.2.1
  refine x_entry (vs := [.ref (X.2.2 10 32), .int a1]) (n := 2) (Nat.le_of_ble_eq_true rfl) (fun ls hl => ?_)
  replace hl : lv_has ls 2 [(0, .ref (X.2.2 10 32)), (1, .int a1)] := hl
  unfold eX6_roomOf at h
  refine lv_iload_n hx hb dX6_roomOf_0 rfl (lv_at hl 1 rfl) ?_
  rcases x_or_el h with ⟨q1, h2, h⟩ | ⟨-, h⟩
  · rw [x_some h]
    exact xt_acv F Z hI (xt_runS (rest := []) F Z.2.1 hI (xX6_requireGuest l Z.1 X σ _ a1 q1 h2) g_X6_41 hd_X6_requireGuest ⟨by decide, by decide⟩ ⟨rfl, rfl⟩ rfl hl.1 rfl (Nat.le_of_ble_eq_true rfl) dX6_roomOf_1 ⟨by decide, by decide⟩)
  · obtain ⟨r3, h4, h⟩ := x_bnd h
    refine x_acv hI (x_runS (rest := []) F hI (mX6_requireGuest l X σ _ a1 r3 h4) g_X6_41 hd_X6_requireGuest ⟨by decide, by decide⟩ ⟨rfl, rfl⟩ rfl hl.1 rfl (Nat.le_of_ble_eq_true rfl) dX6_roomOf_1 ⟨Nat.zero_le _, Nat.zero_le _⟩) (fun H locs hI => ?_)
    refine lv_aload_n hx hb dX6_roomOf_4 rfl (lv_at hl 0 rfl) ?_
    refine xsg_6_0 F hI (x_inO (by decide)) u_fl_X6_12 dX6_roomOf_5 ?_
    refine xsg_2_0 F hI (x_inH (show 0 < 10 by decide) (by decide)) u_fl_X6_45 dX6_roomOf_8 ?_
    refine xsg_1_1 F hI (x_inH (show 0 < 10 by decide) (by decide)) u_fl_X6_76 dX6_roomOf_11 ?_
    refine lv_iload_n hx hb dX6_roomOf_14 rfl (lv_at hl 1 rfl) ?_
    obtain ⟨g5, h⟩ := x_chk h
    refine x_iald (n := 12) F hI (x_inH (show 0 < 10 by decide) (by decide)) (fun _ => rfl) g5 dX6_roomOf_15 ?_
    refine lv_iconst (v := (-1)) hx hb dX6_roomOf_16 (by decide) ?_
    refine lv_icmp_eq (tgt := 24) hx hb dX6_roomOf_17 (by decide) (fun c6 => ?_) (fun c6 => ?_)
    · have h := x_ift h c6
      refine lv_iconst (v := 0) hx hb dX6_roomOf_24 (by decide) ?_
      rcases x_or_el h with ⟨q7, h8, h⟩ | ⟨-, h⟩
      · rw [x_some h]
        exact xt_acv F Z hI (xt_runS (rest := []) F Z.2.1 hI (xX6_require l Z.1 X σ _ (0 : Int32) q7 h8) g_X6_55 hd_X6_require ⟨by decide, by decide⟩ ⟨rfl, rfl⟩ rfl hl.1 rfl (Nat.le_of_ble_eq_true rfl) dX6_roomOf_25 ⟨by decide, by decide⟩)
      · obtain ⟨r9, h10, h⟩ := x_bnd h
        refine x_acv hI (x_runS (rest := []) F hI (mX6_require l X σ _ (0 : Int32) r9 h10) g_X6_55 hd_X6_require ⟨by decide, by decide⟩ ⟨rfl, rfl⟩ rfl hl.1 rfl (Nat.le_of_ble_eq_true rfl) dX6_roomOf_25 ⟨Nat.zero_le _, Nat.zero_le _⟩) (fun H locs hI => ?_)
        cases h
    · have h := x_iff h c6
      refine lv_iconst (v := 1) hx hb dX6_roomOf_20 (by decide) ?_
      refine lv_goto (tgt := 25) hx hb dX6_roomOf_21 (by decide) ?_
      rcases x_or_el h with ⟨q11, h12, h⟩ | ⟨-, h⟩
      · rw [x_some h]
        exact xt_acv F Z hI (xt_runS (rest := []) F Z.2.1 hI (xX6_require l Z.1 X σ _ (1 : Int32) q11 h12) g_X6_55 hd_X6_require ⟨by decide, by decide⟩ ⟨rfl, rfl⟩ rfl hl.1 rfl (Nat.le_of_ble_eq_true rfl) dX6_roomOf_25 ⟨by decide, by decide⟩)
      · obtain ⟨r13, h14, h⟩ := x_bnd h
        refine x_acv hI (x_runS (rest := []) F hI (mX6_require l X σ _ (1 : Int32) r13 h14) g_X6_55 hd_X6_require ⟨by decide, by decide⟩ ⟨rfl, rfl⟩ rfl hl.1 rfl (Nat.le_of_ble_eq_true rfl) dX6_roomOf_25 ⟨Nat.zero_le _, Nat.zero_le _⟩) (fun H locs hI => ?_)
        cases h
abbrev rm_X6_ticksLeft : Room := { frames := 2, cells := 0, slots := 0, locals := 43 }
def fX6_ticksLeft (σ : x_S) (a1 : Int32) : Option Int32 := (Option.bind (fX6_requireGuest a1) fun r1 => (if x_in a1 12 then (if (σ 0 5 (Int32.toNatClampNeg a1)) = (3 : Int32) then (Option.bind (fX6_require (1 : Int32)) fun r5 => (Option.bind (fX1_ticksUntilEnd (σ 0) a1 (σ 0 0 0)) fun r7 => some (r7))) else (Option.bind (fX6_require (0 : Int32)) fun r9 => (Option.bind (fX1_ticksUntilEnd (σ 0) a1 (σ 0 0 0)) fun r11 => some (r11)))) else none))
set_option maxHeartbeats 4000000 in
set_option maxRecDepth 100000 in
theorem mX6_ticksLeft (l : Launch) (X : x_T) (sz : Nat) (σ : x_S) (a1 : Int32) (r : Int32) (h : fX6_ticksLeft σ a1 = some r) : Met l yX6_ticksLeft (x_ws yX6_ticksLeft cX6_ticksLeft 2 (some .int)) rm_X6_ticksLeft (x_Pc X σ sz [.ref (X.2.2 10 32), .int a1]) (x_Qi X r σ sz) 0 0 (x_A X sz) := by
  refine Met.ofW (cc := cX6_ticksLeft) (maxL := 2) (ret := (some .int)) (by decide) rfl ?_
  intro p e s m args below meth c s₁ B hml hv
  obtain ⟨F, hI, rfl, rfl⟩ := x_begin B hml hv
  replace F : x_F p s m _ meth c cX6_ticksLeft 2 RX6 (some .int) := F
  have hx := F.1
  have hb := F.2.1
  have hml := F.2.2.1
  have hown := F.2.2.2.1
  have hts := F.2.2.2.2.1
  refine x_entry (vs := [.ref (X.2.2 10 32), .int a1]) (n := 2) (Nat.le_of_ble_eq_true rfl) (fun ls hl => ?_)
  replace hl : lv_has ls 2 [(0, .ref (X.2.2 10 32)), (1, .int a1)] := hl
  unfold fX6_ticksLeft at h
  refine lv_iload_n hx hb dX6_ticksLeft_0 rfl (lv_at hl 1 rfl) ?_
  obtain ⟨r1, h2, h⟩ := x_bnd h
  refine x_acv hI (x_runS (rest := []) F hI (mX6_requireGuest l X σ _ a1 r1 h2) g_X6_41 hd_X6_requireGuest ⟨by decide, by decide⟩ ⟨rfl, rfl⟩ rfl hl.1 rfl (Nat.le_of_ble_eq_true rfl) dX6_ticksLeft_1 ⟨Nat.zero_le _, Nat.zero_le _⟩) (fun H locs hI => ?_)
  refine lv_aload_n hx hb dX6_ticksLeft_4 rfl (lv_at hl 0 rfl) ?_
  refine xsg_6_0 F hI (x_inO (by decide)) u_fl_X6_12 dX6_ticksLeft_5 ?_
  refine xsg_2_0 F hI (x_inH (show 0 < 10 by decide) (by decide)) u_fl_X6_45 dX6_ticksLeft_8 ?_
  refine xsg_1_0 F hI (x_inH (show 0 < 10 by decide) (by decide)) u_fl_X6_49 dX6_ticksLeft_11 ?_
  refine lv_iload_n hx hb dX6_ticksLeft_14 rfl (lv_at hl 1 rfl) ?_
  obtain ⟨g3, h⟩ := x_chk h
  refine x_iald (n := 12) F hI (x_inH (show 0 < 10 by decide) (by decide)) (fun _ => rfl) g3 dX6_ticksLeft_15 ?_
  refine lv_iconst (v := 3) hx hb dX6_ticksLeft_16 (by decide) ?_
  refine lv_icmp_ne (tgt := 24) hx hb dX6_ticksLeft_17 (by decide) (fun c4 => ?_) (fun c4 => ?_)
  · have h := x_iff h c4
    refine lv_iconst (v := 0) hx hb dX6_ticksLeft_24 (by decide) ?_
    obtain ⟨r9, h10, h⟩ := x_bnd h
    refine x_acv hI (x_runS (rest := []) F hI (mX6_require l X σ _ (0 : Int32) r9 h10) g_X6_55 hd_X6_require ⟨by decide, by decide⟩ ⟨rfl, rfl⟩ rfl hl.1 rfl (Nat.le_of_ble_eq_true rfl) dX6_ticksLeft_25 ⟨Nat.zero_le _, Nat.zero_le _⟩) (fun H locs hI => ?_)
    refine lv_aload_n hx hb dX6_ticksLeft_28 rfl (lv_at hl 0 rfl) ?_
    refine xsg_6_0 F hI (x_inO (by decide)) u_fl_X6_12 dX6_ticksLeft_29 ?_
    refine xsg_2_0 F hI (x_inH (show 0 < 10 by decide) (by decide)) u_fl_X6_45 dX6_ticksLeft_32 ?_
    refine lv_iload_n hx hb dX6_ticksLeft_35 rfl (lv_at hl 1 rfl) ?_
    refine lv_aload_n hx hb dX6_ticksLeft_36 rfl (lv_at hl 0 rfl) ?_
    refine xsg_6_0 F hI (x_inO (by decide)) u_fl_X6_12 dX6_ticksLeft_37 ?_
    refine xsg_2_4 F hI (x_inH (show 0 < 10 by decide) (by decide)) u_fl_X6_180 dX6_ticksLeft_40 ?_
    obtain ⟨r11, h12, h⟩ := x_bnd h
    have hI := x_toH 0 hI
    refine x_aci hI (x_runV (rest := []) F hI (mX1_ticksUntilEnd l X σ 0 (show 0 < 10 by decide) _ (σ 0) a1 (σ 0 0 0) r11 h12) g_X6_183 ⟨rfl, hd_X1_ticksUntilEnd⟩ ⟨by decide, by decide⟩ ⟨rfl, rfl⟩ (x_inH (show 0 < 10 by decide) (by decide)) rfl rfl rfl rfl hl.1 rfl (Nat.le_of_ble_eq_true rfl) dX6_ticksLeft_43 ⟨Nat.zero_le _, Nat.zero_le _⟩) (fun H locs hI => ?_)
    rw [x_sh_self] at hI
    rw [x_some h]
    exact x_iret F hI dX6_ticksLeft_46
  · have h := x_ift h c4
    refine lv_iconst (v := 1) hx hb dX6_ticksLeft_20 (by decide) ?_
    refine lv_goto (tgt := 25) hx hb dX6_ticksLeft_21 (by decide) ?_
    obtain ⟨r5, h6, h⟩ := x_bnd h
    refine x_acv hI (x_runS (rest := []) F hI (mX6_require l X σ _ (1 : Int32) r5 h6) g_X6_55 hd_X6_require ⟨by decide, by decide⟩ ⟨rfl, rfl⟩ rfl hl.1 rfl (Nat.le_of_ble_eq_true rfl) dX6_ticksLeft_25 ⟨Nat.zero_le _, Nat.zero_le _⟩) (fun H locs hI => ?_)
    refine lv_aload_n hx hb dX6_ticksLeft_28 rfl (lv_at hl 0 rfl) ?_
    refine xsg_6_0 F hI (x_inO (by decide)) u_fl_X6_12 dX6_ticksLeft_29 ?_
    refine xsg_2_0 F hI (x_inH (show 0 < 10 by decide) (by decide)) u_fl_X6_45 dX6_ticksLeft_32 ?_
    refine lv_iload_n hx hb dX6_ticksLeft_35 rfl (lv_at hl 1 rfl) ?_
    refine lv_aload_n hx hb dX6_ticksLeft_36 rfl (lv_at hl 0 rfl) ?_
    refine xsg_6_0 F hI (x_inO (by decide)) u_fl_X6_12 dX6_ticksLeft_37 ?_
    refine xsg_2_4 F hI (x_inH (show 0 < 10 by decide) (by decide)) u_fl_X6_180 dX6_ticksLeft_40 ?_
    obtain ⟨r7, h8, h⟩ := x_bnd h
    have hI := x_toH 0 hI
    refine x_aci hI (x_runV (rest := []) F hI (mX1_ticksUntilEnd l X σ 0 (show 0 < 10 by decide) _ (σ 0) a1 (σ 0 0 0) r7 h8) g_X6_183 ⟨rfl, hd_X1_ticksUntilEnd⟩ ⟨by decide, by decide⟩ ⟨rfl, rfl⟩ (x_inH (show 0 < 10 by decide) (by decide)) rfl rfl rfl rfl hl.1 rfl (Nat.le_of_ble_eq_true rfl) dX6_ticksLeft_43 ⟨Nat.zero_le _, Nat.zero_le _⟩) (fun H locs hI => ?_)
    rw [x_sh_self] at hI
    rw [x_some h]
    exact x_iret F hI dX6_ticksLeft_46
abbrev rx_X6_ticksLeft : Room := { frames := 7, cells := 1, slots := 6, locals := 102 }
def eX6_ticksLeft (σ : x_S) (a1 : Int32) : Option Nat := (x_or (eX6_requireGuest a1) (fun q1 => some q1) (Option.bind (fX6_requireGuest a1) fun r3 => (if x_in a1 12 then (if (σ 0 5 (Int32.toNatClampNeg a1)) = (3 : Int32) then (x_or (eX6_require (1 : Int32)) (fun q7 => some q7) (Option.bind (fX6_require (1 : Int32)) fun r9 => none)) else (x_or (eX6_require (0 : Int32)) (fun q11 => some q11) (Option.bind (fX6_require (0 : Int32)) fun r13 => none))) else none)))
set_option maxHeartbeats 4000000 in
set_option maxRecDepth 100000 in
theorem xX6_ticksLeft (l : Launch) (hl0 : l.stackTraces = false) (X : x_T) (sz : Nat) (σ : x_S) (a1 : Int32) (r : Nat) (h : eX6_ticksLeft σ a1 = some r) : vx_Met l yX6_ticksLeft (x_ws yX6_ticksLeft cX6_ticksLeft 2 (some .int)) rx_X6_ticksLeft (x_PcT X σ sz [.ref (X.2.2 10 32), .int a1]) (xt_Qi X sz) (xt_C X r σ sz) 1 6 (x_A X sz) := by
  refine vx_ofW (cc := cX6_ticksLeft) (maxL := 2) (ret := (some .int)) (by decide) rfl ?_
  intro p e s m args below meth c s₁ B hml hnt hv
  obtain ⟨F, Z, hI, rfl, rfl⟩ := xt_begin hl0 B hml hnt hv
  replace F : x_F p s m _ meth c cX6_ticksLeft 2 RX6 (some .int) := F
  have hx := F.1
  have hb := F.2.1
  have hml := F.2.2.1
  have hown := F.2.2.2.1
  have hts := F.2.2.2.2.1
  refine x_entry (vs := [.ref (X.2.2 10 32), .int a1]) (n := 2) (Nat.le_of_ble_eq_true rfl) (fun ls hl => ?_)
  replace hl : lv_has ls 2 [(0, .ref (X.2.2 10 32)), (1, .int a1)] := hl
  unfold eX6_ticksLeft at h
  refine lv_iload_n hx hb dX6_ticksLeft_0 rfl (lv_at hl 1 rfl) ?_
  rcases x_or_el h with ⟨q1, h2, h⟩ | ⟨-, h⟩
  · rw [x_some h]
    exact xt_acv F Z hI (xt_runS (rest := []) F Z.2.1 hI (xX6_requireGuest l Z.1 X σ _ a1 q1 h2) g_X6_41 hd_X6_requireGuest ⟨by decide, by decide⟩ ⟨rfl, rfl⟩ rfl hl.1 rfl (Nat.le_of_ble_eq_true rfl) dX6_ticksLeft_1 ⟨by decide, by decide⟩)
  · obtain ⟨r3, h4, h⟩ := x_bnd h
    refine x_acv hI (x_runS (rest := []) F hI (mX6_requireGuest l X σ _ a1 r3 h4) g_X6_41 hd_X6_requireGuest ⟨by decide, by decide⟩ ⟨rfl, rfl⟩ rfl hl.1 rfl (Nat.le_of_ble_eq_true rfl) dX6_ticksLeft_1 ⟨Nat.zero_le _, Nat.zero_le _⟩) (fun H locs hI => ?_)
    refine lv_aload_n hx hb dX6_ticksLeft_4 rfl (lv_at hl 0 rfl) ?_
    refine xsg_6_0 F hI (x_inO (by decide)) u_fl_X6_12 dX6_ticksLeft_5 ?_
    refine xsg_2_0 F hI (x_inH (show 0 < 10 by decide) (by decide)) u_fl_X6_45 dX6_ticksLeft_8 ?_
    refine xsg_1_0 F hI (x_inH (show 0 < 10 by decide) (by decide)) u_fl_X6_49 dX6_ticksLeft_11 ?_
    refine lv_iload_n hx hb dX6_ticksLeft_14 rfl (lv_at hl 1 rfl) ?_
    obtain ⟨g5, h⟩ := x_chk h
    refine x_iald (n := 12) F hI (x_inH (show 0 < 10 by decide) (by decide)) (fun _ => rfl) g5 dX6_ticksLeft_15 ?_
    refine lv_iconst (v := 3) hx hb dX6_ticksLeft_16 (by decide) ?_
    refine lv_icmp_ne (tgt := 24) hx hb dX6_ticksLeft_17 (by decide) (fun c6 => ?_) (fun c6 => ?_)
    · have h := x_iff h c6
      refine lv_iconst (v := 0) hx hb dX6_ticksLeft_24 (by decide) ?_
      rcases x_or_el h with ⟨q11, h12, h⟩ | ⟨-, h⟩
      · rw [x_some h]
        exact xt_acv F Z hI (xt_runS (rest := []) F Z.2.1 hI (xX6_require l Z.1 X σ _ (0 : Int32) q11 h12) g_X6_55 hd_X6_require ⟨by decide, by decide⟩ ⟨rfl, rfl⟩ rfl hl.1 rfl (Nat.le_of_ble_eq_true rfl) dX6_ticksLeft_25 ⟨by decide, by decide⟩)
      · obtain ⟨r13, h14, h⟩ := x_bnd h
        refine x_acv hI (x_runS (rest := []) F hI (mX6_require l X σ _ (0 : Int32) r13 h14) g_X6_55 hd_X6_require ⟨by decide, by decide⟩ ⟨rfl, rfl⟩ rfl hl.1 rfl (Nat.le_of_ble_eq_true rfl) dX6_ticksLeft_25 ⟨Nat.zero_le _, Nat.zero_le _⟩) (fun H locs hI => ?_)
        cases h
    · have h := x_ift h c6
      refine lv_iconst (v := 1) hx hb dX6_ticksLeft_20 (by decide) ?_
      refine lv_goto (tgt := 25) hx hb dX6_ticksLeft_21 (by decide) ?_
      rcases x_or_el h with ⟨q7, h8, h⟩ | ⟨-, h⟩
      · rw [x_some h]
        exact xt_acv F Z hI (xt_runS (rest := []) F Z.2.1 hI (xX6_require l Z.1 X σ _ (1 : Int32) q7 h8) g_X6_55 hd_X6_require ⟨by decide, by decide⟩ ⟨rfl, rfl⟩ rfl hl.1 rfl (Nat.le_of_ble_eq_true rfl) dX6_ticksLeft_25 ⟨by decide, by decide⟩)
      · obtain ⟨r9, h10, h⟩ := x_bnd h
        refine x_acv hI (x_runS (rest := []) F hI (mX6_require l X σ _ (1 : Int32) r9 h10) g_X6_55 hd_X6_require ⟨by decide, by decide⟩ ⟨rfl, rfl⟩ rfl hl.1 rfl (Nat.le_of_ble_eq_true rfl) dX6_ticksLeft_25 ⟨Nat.zero_le _, Nat.zero_le _⟩) (fun H locs hI => ?_)
        cases h
abbrev rm_X6_ticksToRenewal : Room := { frames := 2, cells := 0, slots := 0, locals := 45 }
def fX6_ticksToRenewal (σ : x_S) (a1 : Int32) : Option Int32 := (Option.bind (fX6_requireGuest a1) fun r1 => (Option.bind (fX1_ticksUntilAsking (σ 0) a1 (σ 0 0 0)) fun r3 => (if r3 ≤ 0 then (Option.bind (fX6_require (0 : Int32)) fun r6 => some (r3)) else (Option.bind (fX6_require (1 : Int32)) fun r8 => some (r3)))))
set_option maxHeartbeats 4000000 in
set_option maxRecDepth 100000 in
theorem mX6_ticksToRenewal (l : Launch) (X : x_T) (sz : Nat) (σ : x_S) (a1 : Int32) (r : Int32) (h : fX6_ticksToRenewal σ a1 = some r) : Met l yX6_ticksToRenewal (x_ws yX6_ticksToRenewal cX6_ticksToRenewal 3 (some .int)) rm_X6_ticksToRenewal (x_Pc X σ sz [.ref (X.2.2 10 32), .int a1]) (x_Qi X r σ sz) 0 0 (x_A X sz) := by
  refine Met.ofW (cc := cX6_ticksToRenewal) (maxL := 3) (ret := (some .int)) (by decide) rfl ?_
  intro p e s m args below meth c s₁ B hml hv
  obtain ⟨F, hI, rfl, rfl⟩ := x_begin B hml hv
  replace F : x_F p s m _ meth c cX6_ticksToRenewal 3 RX6 (some .int) := F
  have hx := F.1
  have hb := F.2.1
  have hml := F.2.2.1
  have hown := F.2.2.2.1
  have hts := F.2.2.2.2.1
  refine x_entry (vs := [.ref (X.2.2 10 32), .int a1]) (n := 3) (Nat.le_of_ble_eq_true rfl) (fun ls hl => ?_)
  replace hl : lv_has ls 3 [(0, .ref (X.2.2 10 32)), (1, .int a1)] := hl
  unfold fX6_ticksToRenewal at h
  refine lv_iload_n hx hb dX6_ticksToRenewal_0 rfl (lv_at hl 1 rfl) ?_
  obtain ⟨r1, h2, h⟩ := x_bnd h
  refine x_acv hI (x_runS (rest := []) F hI (mX6_requireGuest l X σ _ a1 r1 h2) g_X6_41 hd_X6_requireGuest ⟨by decide, by decide⟩ ⟨rfl, rfl⟩ rfl hl.1 rfl (Nat.le_of_ble_eq_true rfl) dX6_ticksToRenewal_1 ⟨Nat.zero_le _, Nat.zero_le _⟩) (fun H locs hI => ?_)
  refine lv_aload_n hx hb dX6_ticksToRenewal_4 rfl (lv_at hl 0 rfl) ?_
  refine xsg_6_0 F hI (x_inO (by decide)) u_fl_X6_12 dX6_ticksToRenewal_5 ?_
  refine xsg_2_0 F hI (x_inH (show 0 < 10 by decide) (by decide)) u_fl_X6_45 dX6_ticksToRenewal_8 ?_
  refine lv_iload_n hx hb dX6_ticksToRenewal_11 rfl (lv_at hl 1 rfl) ?_
  refine lv_aload_n hx hb dX6_ticksToRenewal_12 rfl (lv_at hl 0 rfl) ?_
  refine xsg_6_0 F hI (x_inO (by decide)) u_fl_X6_12 dX6_ticksToRenewal_13 ?_
  refine xsg_2_4 F hI (x_inH (show 0 < 10 by decide) (by decide)) u_fl_X6_180 dX6_ticksToRenewal_16 ?_
  obtain ⟨r3, h4, h⟩ := x_bnd h
  have hI := x_toH 0 hI
  refine x_aci hI (x_runV (rest := []) F hI (mX1_ticksUntilAsking l X σ 0 (show 0 < 10 by decide) _ (σ 0) a1 (σ 0 0 0) r3 h4) g_X6_187 ⟨rfl, hd_X1_ticksUntilAsking⟩ ⟨by decide, by decide⟩ ⟨rfl, rfl⟩ (x_inH (show 0 < 10 by decide) (by decide)) rfl rfl rfl rfl hl.1 rfl (Nat.le_of_ble_eq_true rfl) dX6_ticksToRenewal_19 ⟨Nat.zero_le _, Nat.zero_le _⟩) (fun H locs hI => ?_)
  rw [x_sh_self] at hI
  refine lv_istore_n (lv' := [(2, .int r3), (0, .ref (X.2.2 10 32)), (1, .int a1)]) hx hb dX6_ticksToRenewal_22 rfl hl (by decide) rfl (fun ls hl => ?_)
  refine lv_iload_n hx hb dX6_ticksToRenewal_23 rfl (lv_at hl 0 rfl) ?_
  refine lv_if_le (tgt := 31) hx hb dX6_ticksToRenewal_24 (by decide) (fun c5 => ?_) (fun c5 => ?_)
  · have h := x_ift h c5
    refine lv_iconst (v := 0) hx hb dX6_ticksToRenewal_31 (by decide) ?_
    obtain ⟨r6, h7, h⟩ := x_bnd h
    refine x_acv hI (x_runS (rest := []) F hI (mX6_require l X σ _ (0 : Int32) r6 h7) g_X6_55 hd_X6_require ⟨by decide, by decide⟩ ⟨rfl, rfl⟩ rfl hl.1 rfl (Nat.le_of_ble_eq_true rfl) dX6_ticksToRenewal_32 ⟨Nat.zero_le _, Nat.zero_le _⟩) (fun H locs hI => ?_)
    refine lv_iload_n hx hb dX6_ticksToRenewal_35 rfl (lv_at hl 0 rfl) ?_
    rw [x_some h]
    exact x_iret F hI dX6_ticksToRenewal_36
  · have h := x_iff h c5
    refine lv_iconst (v := 1) hx hb dX6_ticksToRenewal_27 (by decide) ?_
    refine lv_goto (tgt := 32) hx hb dX6_ticksToRenewal_28 (by decide) ?_
    obtain ⟨r8, h9, h⟩ := x_bnd h
    refine x_acv hI (x_runS (rest := []) F hI (mX6_require l X σ _ (1 : Int32) r8 h9) g_X6_55 hd_X6_require ⟨by decide, by decide⟩ ⟨rfl, rfl⟩ rfl hl.1 rfl (Nat.le_of_ble_eq_true rfl) dX6_ticksToRenewal_32 ⟨Nat.zero_le _, Nat.zero_le _⟩) (fun H locs hI => ?_)
    refine lv_iload_n hx hb dX6_ticksToRenewal_35 rfl (lv_at hl 0 rfl) ?_
    rw [x_some h]
    exact x_iret F hI dX6_ticksToRenewal_36
abbrev rx_X6_ticksToRenewal : Room := { frames := 7, cells := 1, slots := 6, locals := 102 }
def eX6_ticksToRenewal (σ : x_S) (a1 : Int32) : Option Nat := (x_or (eX6_requireGuest a1) (fun q1 => some q1) (Option.bind (fX6_requireGuest a1) fun r3 => (Option.bind (fX1_ticksUntilAsking (σ 0) a1 (σ 0 0 0)) fun r5 => (if r5 ≤ 0 then (x_or (eX6_require (0 : Int32)) (fun q8 => some q8) (Option.bind (fX6_require (0 : Int32)) fun r10 => none)) else (x_or (eX6_require (1 : Int32)) (fun q12 => some q12) (Option.bind (fX6_require (1 : Int32)) fun r14 => none))))))
set_option maxHeartbeats 4000000 in
set_option maxRecDepth 100000 in
theorem xX6_ticksToRenewal (l : Launch) (hl0 : l.stackTraces = false) (X : x_T) (sz : Nat) (σ : x_S) (a1 : Int32) (r : Nat) (h : eX6_ticksToRenewal σ a1 = some r) : vx_Met l yX6_ticksToRenewal (x_ws yX6_ticksToRenewal cX6_ticksToRenewal 3 (some .int)) rx_X6_ticksToRenewal (x_PcT X σ sz [.ref (X.2.2 10 32), .int a1]) (xt_Qi X sz) (xt_C X r σ sz) 1 6 (x_A X sz) := by
  refine vx_ofW (cc := cX6_ticksToRenewal) (maxL := 3) (ret := (some .int)) (by decide) rfl ?_
  intro p e s m args below meth c s₁ B hml hnt hv
  obtain ⟨F, Z, hI, rfl, rfl⟩ := xt_begin hl0 B hml hnt hv
  replace F : x_F p s m _ meth c cX6_ticksToRenewal 3 RX6 (some .int) := F
  have hx := F.1
  have hb := F.2.1
  have hml := F.2.2.1
  have hown := F.2.2.2.1
  have hts := F.2.2.2.2.1
  refine x_entry (vs := [.ref (X.2.2 10 32), .int a1]) (n := 3) (Nat.le_of_ble_eq_true rfl) (fun ls hl => ?_)
  replace hl : lv_has ls 3 [(0, .ref (X.2.2 10 32)), (1, .int a1)] := hl
  unfold eX6_ticksToRenewal at h
  refine lv_iload_n hx hb dX6_ticksToRenewal_0 rfl (lv_at hl 1 rfl) ?_
  rcases x_or_el h with ⟨q1, h2, h⟩ | ⟨-, h⟩
  · rw [x_some h]
    exact xt_acv F Z hI (xt_runS (rest := []) F Z.2.1 hI (xX6_requireGuest l Z.1 X σ _ a1 q1 h2) g_X6_41 hd_X6_requireGuest ⟨by decide, by decide⟩ ⟨rfl, rfl⟩ rfl hl.1 rfl (Nat.le_of_ble_eq_true rfl) dX6_ticksToRenewal_1 ⟨by decide, by decide⟩)
  · obtain ⟨r3, h4, h⟩ := x_bnd h
    refine x_acv hI (x_runS (rest := []) F hI (mX6_requireGuest l X σ _ a1 r3 h4) g_X6_41 hd_X6_requireGuest ⟨by decide, by decide⟩ ⟨rfl, rfl⟩ rfl hl.1 rfl (Nat.le_of_ble_eq_true rfl) dX6_ticksToRenewal_1 ⟨Nat.zero_le _, Nat.zero_le _⟩) (fun H locs hI => ?_)
    refine lv_aload_n hx hb dX6_ticksToRenewal_4 rfl (lv_at hl 0 rfl) ?_
    refine xsg_6_0 F hI (x_inO (by decide)) u_fl_X6_12 dX6_ticksToRenewal_5 ?_
    refine xsg_2_0 F hI (x_inH (show 0 < 10 by decide) (by decide)) u_fl_X6_45 dX6_ticksToRenewal_8 ?_
    refine lv_iload_n hx hb dX6_ticksToRenewal_11 rfl (lv_at hl 1 rfl) ?_
    refine lv_aload_n hx hb dX6_ticksToRenewal_12 rfl (lv_at hl 0 rfl) ?_
    refine xsg_6_0 F hI (x_inO (by decide)) u_fl_X6_12 dX6_ticksToRenewal_13 ?_
    refine xsg_2_4 F hI (x_inH (show 0 < 10 by decide) (by decide)) u_fl_X6_180 dX6_ticksToRenewal_16 ?_
    obtain ⟨r5, h6, h⟩ := x_bnd h
    have hI := x_toH 0 hI
    refine x_aci hI (x_runV (rest := []) F hI (mX1_ticksUntilAsking l X σ 0 (show 0 < 10 by decide) _ (σ 0) a1 (σ 0 0 0) r5 h6) g_X6_187 ⟨rfl, hd_X1_ticksUntilAsking⟩ ⟨by decide, by decide⟩ ⟨rfl, rfl⟩ (x_inH (show 0 < 10 by decide) (by decide)) rfl rfl rfl rfl hl.1 rfl (Nat.le_of_ble_eq_true rfl) dX6_ticksToRenewal_19 ⟨Nat.zero_le _, Nat.zero_le _⟩) (fun H locs hI => ?_)
    rw [x_sh_self] at hI
    refine lv_istore_n (lv' := [(2, .int r5), (0, .ref (X.2.2 10 32)), (1, .int a1)]) hx hb dX6_ticksToRenewal_22 rfl hl (by decide) rfl (fun ls hl => ?_)
    refine lv_iload_n hx hb dX6_ticksToRenewal_23 rfl (lv_at hl 0 rfl) ?_
    refine lv_if_le (tgt := 31) hx hb dX6_ticksToRenewal_24 (by decide) (fun c7 => ?_) (fun c7 => ?_)
    · have h := x_ift h c7
      refine lv_iconst (v := 0) hx hb dX6_ticksToRenewal_31 (by decide) ?_
      rcases x_or_el h with ⟨q8, h9, h⟩ | ⟨-, h⟩
      · rw [x_some h]
        exact xt_acv F Z hI (xt_runS (rest := []) F Z.2.1 hI (xX6_require l Z.1 X σ _ (0 : Int32) q8 h9) g_X6_55 hd_X6_require ⟨by decide, by decide⟩ ⟨rfl, rfl⟩ rfl hl.1 rfl (Nat.le_of_ble_eq_true rfl) dX6_ticksToRenewal_32 ⟨by decide, by decide⟩)
      · obtain ⟨r10, h11, h⟩ := x_bnd h
        refine x_acv hI (x_runS (rest := []) F hI (mX6_require l X σ _ (0 : Int32) r10 h11) g_X6_55 hd_X6_require ⟨by decide, by decide⟩ ⟨rfl, rfl⟩ rfl hl.1 rfl (Nat.le_of_ble_eq_true rfl) dX6_ticksToRenewal_32 ⟨Nat.zero_le _, Nat.zero_le _⟩) (fun H locs hI => ?_)
        cases h
    · have h := x_iff h c7
      refine lv_iconst (v := 1) hx hb dX6_ticksToRenewal_27 (by decide) ?_
      refine lv_goto (tgt := 32) hx hb dX6_ticksToRenewal_28 (by decide) ?_
      rcases x_or_el h with ⟨q12, h13, h⟩ | ⟨-, h⟩
      · rw [x_some h]
        exact xt_acv F Z hI (xt_runS (rest := []) F Z.2.1 hI (xX6_require l Z.1 X σ _ (1 : Int32) q12 h13) g_X6_55 hd_X6_require ⟨by decide, by decide⟩ ⟨rfl, rfl⟩ rfl hl.1 rfl (Nat.le_of_ble_eq_true rfl) dX6_ticksToRenewal_32 ⟨by decide, by decide⟩)
      · obtain ⟨r14, h15, h⟩ := x_bnd h
        refine x_acv hI (x_runS (rest := []) F hI (mX6_require l X σ _ (1 : Int32) r14 h15) g_X6_55 hd_X6_require ⟨by decide, by decide⟩ ⟨rfl, rfl⟩ rfl hl.1 rfl (Nat.le_of_ble_eq_true rfl) dX6_ticksToRenewal_32 ⟨Nat.zero_le _, Nat.zero_le _⟩) (fun H locs hI => ?_)
        cases h
abbrev rm_X6_isHaunted : Room := { frames := 3, cells := 0, slots := 0, locals := 62 }
def fX6_isHaunted (σ : x_S) (a1 : Int32) : Option Int32 := (Option.bind (fX6_requireGuest a1) fun r1 => (Option.bind (fX2_sleepsByGhost (σ 0) a1) fun r3 => if vp_nar .boolean r3 = r3 then some (r3) else none))
set_option maxHeartbeats 4000000 in
set_option maxRecDepth 100000 in
theorem mX6_isHaunted (l : Launch) (X : x_T) (sz : Nat) (σ : x_S) (a1 : Int32) (r : Int32) (h : fX6_isHaunted σ a1 = some r) : Met l yX6_isHaunted (x_ws yX6_isHaunted cX6_isHaunted 2 (some .boolean)) rm_X6_isHaunted (x_Pc X σ sz [.ref (X.2.2 10 32), .int a1]) (x_Qi X r σ sz) 0 0 (x_A X sz) := by
  refine Met.ofW (cc := cX6_isHaunted) (maxL := 2) (ret := (some .boolean)) (by decide) rfl ?_
  intro p e s m args below meth c s₁ B hml hv
  obtain ⟨F, hI, rfl, rfl⟩ := x_begin B hml hv
  replace F : x_F p s m _ meth c cX6_isHaunted 2 RX6 (some .boolean) := F
  have hx := F.1
  have hb := F.2.1
  have hml := F.2.2.1
  have hown := F.2.2.2.1
  have hts := F.2.2.2.2.1
  refine x_entry (vs := [.ref (X.2.2 10 32), .int a1]) (n := 2) (Nat.le_of_ble_eq_true rfl) (fun ls hl => ?_)
  replace hl : lv_has ls 2 [(0, .ref (X.2.2 10 32)), (1, .int a1)] := hl
  unfold fX6_isHaunted at h
  refine lv_iload_n hx hb dX6_isHaunted_0 rfl (lv_at hl 1 rfl) ?_
  obtain ⟨r1, h2, h⟩ := x_bnd h
  refine x_acv hI (x_runS (rest := []) F hI (mX6_requireGuest l X σ _ a1 r1 h2) g_X6_41 hd_X6_requireGuest ⟨by decide, by decide⟩ ⟨rfl, rfl⟩ rfl hl.1 rfl (Nat.le_of_ble_eq_true rfl) dX6_isHaunted_1 ⟨Nat.zero_le _, Nat.zero_le _⟩) (fun H locs hI => ?_)
  refine lv_aload_n hx hb dX6_isHaunted_4 rfl (lv_at hl 0 rfl) ?_
  refine xsg_6_0 F hI (x_inO (by decide)) u_fl_X6_12 dX6_isHaunted_5 ?_
  refine lv_iload_n hx hb dX6_isHaunted_8 rfl (lv_at hl 1 rfl) ?_
  obtain ⟨r3, h4, h⟩ := x_bnd h
  have hI := x_toH 0 hI
  refine x_aci hI (x_runV (rest := []) F hI (mX2_sleepsByGhost l X σ 0 (show 0 < 10 by decide) _ (σ 0) a1 r3 h4) g_X6_190 ⟨rfl, hd_X2_sleepsByGhost⟩ ⟨by decide, by decide⟩ ⟨rfl, rfl⟩ (x_inH (show 0 < 10 by decide) (by decide)) rfl rfl rfl rfl hl.1 rfl (Nat.le_of_ble_eq_true rfl) dX6_isHaunted_9 ⟨Nat.zero_le _, Nat.zero_le _⟩) (fun H locs hI => ?_)
  rw [x_sh_self] at hI
  obtain ⟨g, h⟩ := x_chk h
  rw [x_some h]
  exact x_zret (v := r3) F hI g dX6_isHaunted_12
abbrev rx_X6_isHaunted : Room := { frames := 7, cells := 1, slots := 6, locals := 102 }
def eX6_isHaunted (σ : x_S) (a1 : Int32) : Option Nat := (x_or (eX6_requireGuest a1) (fun q1 => some q1) (Option.bind (fX6_requireGuest a1) fun r3 => none))
set_option maxHeartbeats 4000000 in
set_option maxRecDepth 100000 in
theorem xX6_isHaunted (l : Launch) (hl0 : l.stackTraces = false) (X : x_T) (sz : Nat) (σ : x_S) (a1 : Int32) (r : Nat) (h : eX6_isHaunted σ a1 = some r) : vx_Met l yX6_isHaunted (x_ws yX6_isHaunted cX6_isHaunted 2 (some .boolean)) rx_X6_isHaunted (x_PcT X σ sz [.ref (X.2.2 10 32), .int a1]) (xt_Qi X sz) (xt_C X r σ sz) 1 6 (x_A X sz) := by
  refine vx_ofW (cc := cX6_isHaunted) (maxL := 2) (ret := (some .boolean)) (by decide) rfl ?_
  intro p e s m args below meth c s₁ B hml hnt hv
  obtain ⟨F, Z, hI, rfl, rfl⟩ := xt_begin hl0 B hml hnt hv
  replace F : x_F p s m _ meth c cX6_isHaunted 2 RX6 (some .boolean) := F
  have hx := F.1
  have hb := F.2.1
  have hml := F.2.2.1
  have hown := F.2.2.2.1
  have hts := F.2.2.2.2.1
  refine x_entry (vs := [.ref (X.2.2 10 32), .int a1]) (n := 2) (Nat.le_of_ble_eq_true rfl) (fun ls hl => ?_)
  replace hl : lv_has ls 2 [(0, .ref (X.2.2 10 32)), (1, .int a1)] := hl
  unfold eX6_isHaunted at h
  refine lv_iload_n hx hb dX6_isHaunted_0 rfl (lv_at hl 1 rfl) ?_
  rcases x_or_el h with ⟨q1, h2, h⟩ | ⟨-, h⟩
  · rw [x_some h]
    exact xt_acv F Z hI (xt_runS (rest := []) F Z.2.1 hI (xX6_requireGuest l Z.1 X σ _ a1 q1 h2) g_X6_41 hd_X6_requireGuest ⟨by decide, by decide⟩ ⟨rfl, rfl⟩ rfl hl.1 rfl (Nat.le_of_ble_eq_true rfl) dX6_isHaunted_1 ⟨by decide, by decide⟩)
  · obtain ⟨r3, h4, h⟩ := x_bnd h
    refine x_acv hI (x_runS (rest := []) F hI (mX6_requireGuest l X σ _ a1 r3 h4) g_X6_41 hd_X6_requireGuest ⟨by decide, by decide⟩ ⟨rfl, rfl⟩ rfl hl.1 rfl (Nat.le_of_ble_eq_true rfl) dX6_isHaunted_1 ⟨Nat.zero_le _, Nat.zero_le _⟩) (fun H locs hI => ?_)
    cases h
abbrev rm_X6_staysOf : Room := { frames := 2, cells := 0, slots := 0, locals := 40 }
def fX6_staysOf (σ : x_S) (a1 : Int32) : Option Int32 := (Option.bind (fX6_requireGuest a1) fun r1 => (if x_in a1 12 then some (σ 0 11 (Int32.toNatClampNeg a1)) else none))
set_option maxHeartbeats 4000000 in
set_option maxRecDepth 100000 in
theorem mX6_staysOf (l : Launch) (X : x_T) (sz : Nat) (σ : x_S) (a1 : Int32) (r : Int32) (h : fX6_staysOf σ a1 = some r) : Met l yX6_staysOf (x_ws yX6_staysOf cX6_staysOf 2 (some .int)) rm_X6_staysOf (x_Pc X σ sz [.ref (X.2.2 10 32), .int a1]) (x_Qi X r σ sz) 0 0 (x_A X sz) := by
  refine Met.ofW (cc := cX6_staysOf) (maxL := 2) (ret := (some .int)) (by decide) rfl ?_
  intro p e s m args below meth c s₁ B hml hv
  obtain ⟨F, hI, rfl, rfl⟩ := x_begin B hml hv
  replace F : x_F p s m _ meth c cX6_staysOf 2 RX6 (some .int) := F
  have hx := F.1
  have hb := F.2.1
  have hml := F.2.2.1
  have hown := F.2.2.2.1
  have hts := F.2.2.2.2.1
  refine x_entry (vs := [.ref (X.2.2 10 32), .int a1]) (n := 2) (Nat.le_of_ble_eq_true rfl) (fun ls hl => ?_)
  replace hl : lv_has ls 2 [(0, .ref (X.2.2 10 32)), (1, .int a1)] := hl
  unfold fX6_staysOf at h
  refine lv_iload_n hx hb dX6_staysOf_0 rfl (lv_at hl 1 rfl) ?_
  obtain ⟨r1, h2, h⟩ := x_bnd h
  refine x_acv hI (x_runS (rest := []) F hI (mX6_requireGuest l X σ _ a1 r1 h2) g_X6_41 hd_X6_requireGuest ⟨by decide, by decide⟩ ⟨rfl, rfl⟩ rfl hl.1 rfl (Nat.le_of_ble_eq_true rfl) dX6_staysOf_1 ⟨Nat.zero_le _, Nat.zero_le _⟩) (fun H locs hI => ?_)
  refine lv_aload_n hx hb dX6_staysOf_4 rfl (lv_at hl 0 rfl) ?_
  refine xsg_6_0 F hI (x_inO (by decide)) u_fl_X6_12 dX6_staysOf_5 ?_
  refine xsg_2_0 F hI (x_inH (show 0 < 10 by decide) (by decide)) u_fl_X6_45 dX6_staysOf_8 ?_
  refine xsg_1_6 F hI (x_inH (show 0 < 10 by decide) (by decide)) u_fl_X6_193 dX6_staysOf_11 ?_
  refine lv_iload_n hx hb dX6_staysOf_14 rfl (lv_at hl 1 rfl) ?_
  obtain ⟨g3, h⟩ := x_chk h
  refine x_iald (n := 12) F hI (x_inH (show 0 < 10 by decide) (by decide)) (fun _ => rfl) g3 dX6_staysOf_15 ?_
  rw [x_some h]
  exact x_iret F hI dX6_staysOf_16
abbrev rx_X6_staysOf : Room := { frames := 7, cells := 1, slots := 6, locals := 102 }
def eX6_staysOf (σ : x_S) (a1 : Int32) : Option Nat := (x_or (eX6_requireGuest a1) (fun q1 => some q1) (Option.bind (fX6_requireGuest a1) fun r3 => none))
set_option maxHeartbeats 4000000 in
set_option maxRecDepth 100000 in
theorem xX6_staysOf (l : Launch) (hl0 : l.stackTraces = false) (X : x_T) (sz : Nat) (σ : x_S) (a1 : Int32) (r : Nat) (h : eX6_staysOf σ a1 = some r) : vx_Met l yX6_staysOf (x_ws yX6_staysOf cX6_staysOf 2 (some .int)) rx_X6_staysOf (x_PcT X σ sz [.ref (X.2.2 10 32), .int a1]) (xt_Qi X sz) (xt_C X r σ sz) 1 6 (x_A X sz) := by
  refine vx_ofW (cc := cX6_staysOf) (maxL := 2) (ret := (some .int)) (by decide) rfl ?_
  intro p e s m args below meth c s₁ B hml hnt hv
  obtain ⟨F, Z, hI, rfl, rfl⟩ := xt_begin hl0 B hml hnt hv
  replace F : x_F p s m _ meth c cX6_staysOf 2 RX6 (some .int) := F
  have hx := F.1
  have hb := F.2.1
  have hml := F.2.2.1
  have hown := F.2.2.2.1
  have hts := F.2.2.2.2.1
  refine x_entry (vs := [.ref (X.2.2 10 32), .int a1]) (n := 2) (Nat.le_of_ble_eq_true rfl) (fun ls hl => ?_)
  replace hl : lv_has ls 2 [(0, .ref (X.2.2 10 32)), (1, .int a1)] := hl
  unfold eX6_staysOf at h
  refine lv_iload_n hx hb dX6_staysOf_0 rfl (lv_at hl 1 rfl) ?_
  rcases x_or_el h with ⟨q1, h2, h⟩ | ⟨-, h⟩
  · rw [x_some h]
    exact xt_acv F Z hI (xt_runS (rest := []) F Z.2.1 hI (xX6_requireGuest l Z.1 X σ _ a1 q1 h2) g_X6_41 hd_X6_requireGuest ⟨by decide, by decide⟩ ⟨rfl, rfl⟩ rfl hl.1 rfl (Nat.le_of_ble_eq_true rfl) dX6_staysOf_1 ⟨by decide, by decide⟩)
  · obtain ⟨r3, h4, h⟩ := x_bnd h
    refine x_acv hI (x_runS (rest := []) F hI (mX6_requireGuest l X σ _ a1 r3 h4) g_X6_41 hd_X6_requireGuest ⟨by decide, by decide⟩ ⟨rfl, rfl⟩ rfl hl.1 rfl (Nat.le_of_ble_eq_true rfl) dX6_staysOf_1 ⟨Nat.zero_le _, Nat.zero_le _⟩) (fun H locs hI => ?_)
    cases h
abbrev rm_X6_stateOf : Room := { frames := 2, cells := 0, slots := 0, locals := 40 }
def fX6_stateOf (σ : x_S) (a1 : Int32) : Option Int32 := (Option.bind (fX6_requireRoom a1) fun r1 => (if x_in a1 16 then some (σ 0 12 (Int32.toNatClampNeg a1)) else none))
set_option maxHeartbeats 4000000 in
set_option maxRecDepth 100000 in
theorem mX6_stateOf (l : Launch) (X : x_T) (sz : Nat) (σ : x_S) (a1 : Int32) (r : Int32) (h : fX6_stateOf σ a1 = some r) : Met l yX6_stateOf (x_ws yX6_stateOf cX6_stateOf 2 (some .int)) rm_X6_stateOf (x_Pc X σ sz [.ref (X.2.2 10 32), .int a1]) (x_Qi X r σ sz) 0 0 (x_A X sz) := by
  refine Met.ofW (cc := cX6_stateOf) (maxL := 2) (ret := (some .int)) (by decide) rfl ?_
  intro p e s m args below meth c s₁ B hml hv
  obtain ⟨F, hI, rfl, rfl⟩ := x_begin B hml hv
  replace F : x_F p s m _ meth c cX6_stateOf 2 RX6 (some .int) := F
  have hx := F.1
  have hb := F.2.1
  have hml := F.2.2.1
  have hown := F.2.2.2.1
  have hts := F.2.2.2.2.1
  refine x_entry (vs := [.ref (X.2.2 10 32), .int a1]) (n := 2) (Nat.le_of_ble_eq_true rfl) (fun ls hl => ?_)
  replace hl : lv_has ls 2 [(0, .ref (X.2.2 10 32)), (1, .int a1)] := hl
  unfold fX6_stateOf at h
  refine lv_iload_n hx hb dX6_stateOf_0 rfl (lv_at hl 1 rfl) ?_
  obtain ⟨r1, h2, h⟩ := x_bnd h
  refine x_acv hI (x_runS (rest := []) F hI (mX6_requireRoom l X σ _ a1 r1 h2) g_X6_88 hd_X6_requireRoom ⟨by decide, by decide⟩ ⟨rfl, rfl⟩ rfl hl.1 rfl (Nat.le_of_ble_eq_true rfl) dX6_stateOf_1 ⟨Nat.zero_le _, Nat.zero_le _⟩) (fun H locs hI => ?_)
  refine lv_aload_n hx hb dX6_stateOf_4 rfl (lv_at hl 0 rfl) ?_
  refine xsg_6_0 F hI (x_inO (by decide)) u_fl_X6_12 dX6_stateOf_5 ?_
  refine xsg_2_1 F hI (x_inH (show 0 < 10 by decide) (by decide)) u_fl_X6_91 dX6_stateOf_8 ?_
  refine xsg_3_0 F hI (x_inH (show 0 < 10 by decide) (by decide)) u_fl_X6_196 dX6_stateOf_11 ?_
  refine lv_iload_n hx hb dX6_stateOf_14 rfl (lv_at hl 1 rfl) ?_
  obtain ⟨g3, h⟩ := x_chk h
  refine x_iald (n := 16) F hI (x_inH (show 0 < 10 by decide) (by decide)) (fun _ => rfl) g3 dX6_stateOf_15 ?_
  rw [x_some h]
  exact x_iret F hI dX6_stateOf_16
abbrev rx_X6_stateOf : Room := { frames := 7, cells := 1, slots := 6, locals := 102 }
def eX6_stateOf (σ : x_S) (a1 : Int32) : Option Nat := (x_or (eX6_requireRoom a1) (fun q1 => some q1) (Option.bind (fX6_requireRoom a1) fun r3 => none))
set_option maxHeartbeats 4000000 in
set_option maxRecDepth 100000 in
theorem xX6_stateOf (l : Launch) (hl0 : l.stackTraces = false) (X : x_T) (sz : Nat) (σ : x_S) (a1 : Int32) (r : Nat) (h : eX6_stateOf σ a1 = some r) : vx_Met l yX6_stateOf (x_ws yX6_stateOf cX6_stateOf 2 (some .int)) rx_X6_stateOf (x_PcT X σ sz [.ref (X.2.2 10 32), .int a1]) (xt_Qi X sz) (xt_C X r σ sz) 1 6 (x_A X sz) := by
  refine vx_ofW (cc := cX6_stateOf) (maxL := 2) (ret := (some .int)) (by decide) rfl ?_
  intro p e s m args below meth c s₁ B hml hnt hv
  obtain ⟨F, Z, hI, rfl, rfl⟩ := xt_begin hl0 B hml hnt hv
  replace F : x_F p s m _ meth c cX6_stateOf 2 RX6 (some .int) := F
  have hx := F.1
  have hb := F.2.1
  have hml := F.2.2.1
  have hown := F.2.2.2.1
  have hts := F.2.2.2.2.1
  refine x_entry (vs := [.ref (X.2.2 10 32), .int a1]) (n := 2) (Nat.le_of_ble_eq_true rfl) (fun ls hl => ?_)
  replace hl : lv_has ls 2 [(0, .ref (X.2.2 10 32)), (1, .int a1)] := hl
  unfold eX6_stateOf at h
  refine lv_iload_n hx hb dX6_stateOf_0 rfl (lv_at hl 1 rfl) ?_
  rcases x_or_el h with ⟨q1, h2, h⟩ | ⟨-, h⟩
  · rw [x_some h]
    exact xt_acv F Z hI (xt_runS (rest := []) F Z.2.1 hI (xX6_requireRoom l Z.1 X σ _ a1 q1 h2) g_X6_88 hd_X6_requireRoom ⟨by decide, by decide⟩ ⟨rfl, rfl⟩ rfl hl.1 rfl (Nat.le_of_ble_eq_true rfl) dX6_stateOf_1 ⟨by decide, by decide⟩)
  · obtain ⟨r3, h4, h⟩ := x_bnd h
    refine x_acv hI (x_runS (rest := []) F hI (mX6_requireRoom l X σ _ a1 r3 h4) g_X6_88 hd_X6_requireRoom ⟨by decide, by decide⟩ ⟨rfl, rfl⟩ rfl hl.1 rfl (Nat.le_of_ble_eq_true rfl) dX6_stateOf_1 ⟨Nat.zero_le _, Nat.zero_le _⟩) (fun H locs hI => ?_)
    cases h
abbrev rm_X6_guestOf : Room := { frames := 2, cells := 0, slots := 0, locals := 40 }
def fX6_guestOf (σ : x_S) (a1 : Int32) : Option Int32 := (Option.bind (fX6_requireRoom a1) fun r1 => (if x_in a1 16 then (if (σ 0 13 (Int32.toNatClampNeg a1)) = (-1 : Int32) then (Option.bind (fX6_require (0 : Int32)) fun r5 => some (σ 0 13 (Int32.toNatClampNeg a1))) else (Option.bind (fX6_require (1 : Int32)) fun r7 => some (σ 0 13 (Int32.toNatClampNeg a1)))) else none))
set_option maxHeartbeats 4000000 in
set_option maxRecDepth 100000 in
theorem mX6_guestOf (l : Launch) (X : x_T) (sz : Nat) (σ : x_S) (a1 : Int32) (r : Int32) (h : fX6_guestOf σ a1 = some r) : Met l yX6_guestOf (x_ws yX6_guestOf cX6_guestOf 2 (some .int)) rm_X6_guestOf (x_Pc X σ sz [.ref (X.2.2 10 32), .int a1]) (x_Qi X r σ sz) 0 0 (x_A X sz) := by
  refine Met.ofW (cc := cX6_guestOf) (maxL := 2) (ret := (some .int)) (by decide) rfl ?_
  intro p e s m args below meth c s₁ B hml hv
  obtain ⟨F, hI, rfl, rfl⟩ := x_begin B hml hv
  replace F : x_F p s m _ meth c cX6_guestOf 2 RX6 (some .int) := F
  have hx := F.1
  have hb := F.2.1
  have hml := F.2.2.1
  have hown := F.2.2.2.1
  have hts := F.2.2.2.2.1
  refine x_entry (vs := [.ref (X.2.2 10 32), .int a1]) (n := 2) (Nat.le_of_ble_eq_true rfl) (fun ls hl => ?_)
  replace hl : lv_has ls 2 [(0, .ref (X.2.2 10 32)), (1, .int a1)] := hl
  unfold fX6_guestOf at h
  refine lv_iload_n hx hb dX6_guestOf_0 rfl (lv_at hl 1 rfl) ?_
  obtain ⟨r1, h2, h⟩ := x_bnd h
  refine x_acv hI (x_runS (rest := []) F hI (mX6_requireRoom l X σ _ a1 r1 h2) g_X6_88 hd_X6_requireRoom ⟨by decide, by decide⟩ ⟨rfl, rfl⟩ rfl hl.1 rfl (Nat.le_of_ble_eq_true rfl) dX6_guestOf_1 ⟨Nat.zero_le _, Nat.zero_le _⟩) (fun H locs hI => ?_)
  refine lv_aload_n hx hb dX6_guestOf_4 rfl (lv_at hl 0 rfl) ?_
  refine xsg_6_0 F hI (x_inO (by decide)) u_fl_X6_12 dX6_guestOf_5 ?_
  refine xsg_2_1 F hI (x_inH (show 0 < 10 by decide) (by decide)) u_fl_X6_91 dX6_guestOf_8 ?_
  refine xsg_3_1 F hI (x_inH (show 0 < 10 by decide) (by decide)) u_fl_X6_199 dX6_guestOf_11 ?_
  refine lv_iload_n hx hb dX6_guestOf_14 rfl (lv_at hl 1 rfl) ?_
  obtain ⟨g3, h⟩ := x_chk h
  refine x_iald (n := 16) F hI (x_inH (show 0 < 10 by decide) (by decide)) (fun _ => rfl) g3 dX6_guestOf_15 ?_
  refine lv_iconst (v := (-1)) hx hb dX6_guestOf_16 (by decide) ?_
  refine lv_icmp_eq (tgt := 24) hx hb dX6_guestOf_17 (by decide) (fun c4 => ?_) (fun c4 => ?_)
  · have h := x_ift h c4
    refine lv_iconst (v := 0) hx hb dX6_guestOf_24 (by decide) ?_
    obtain ⟨r5, h6, h⟩ := x_bnd h
    refine x_acv hI (x_runS (rest := []) F hI (mX6_require l X σ _ (0 : Int32) r5 h6) g_X6_55 hd_X6_require ⟨by decide, by decide⟩ ⟨rfl, rfl⟩ rfl hl.1 rfl (Nat.le_of_ble_eq_true rfl) dX6_guestOf_25 ⟨Nat.zero_le _, Nat.zero_le _⟩) (fun H locs hI => ?_)
    refine lv_aload_n hx hb dX6_guestOf_28 rfl (lv_at hl 0 rfl) ?_
    refine xsg_6_0 F hI (x_inO (by decide)) u_fl_X6_12 dX6_guestOf_29 ?_
    refine xsg_2_1 F hI (x_inH (show 0 < 10 by decide) (by decide)) u_fl_X6_91 dX6_guestOf_32 ?_
    refine xsg_3_1 F hI (x_inH (show 0 < 10 by decide) (by decide)) u_fl_X6_199 dX6_guestOf_35 ?_
    refine lv_iload_n hx hb dX6_guestOf_38 rfl (lv_at hl 1 rfl) ?_
    refine x_iald (n := 16) F hI (x_inH (show 0 < 10 by decide) (by decide)) (fun _ => rfl) g3 dX6_guestOf_39 ?_
    rw [x_some h]
    exact x_iret F hI dX6_guestOf_40
  · have h := x_iff h c4
    refine lv_iconst (v := 1) hx hb dX6_guestOf_20 (by decide) ?_
    refine lv_goto (tgt := 25) hx hb dX6_guestOf_21 (by decide) ?_
    obtain ⟨r7, h8, h⟩ := x_bnd h
    refine x_acv hI (x_runS (rest := []) F hI (mX6_require l X σ _ (1 : Int32) r7 h8) g_X6_55 hd_X6_require ⟨by decide, by decide⟩ ⟨rfl, rfl⟩ rfl hl.1 rfl (Nat.le_of_ble_eq_true rfl) dX6_guestOf_25 ⟨Nat.zero_le _, Nat.zero_le _⟩) (fun H locs hI => ?_)
    refine lv_aload_n hx hb dX6_guestOf_28 rfl (lv_at hl 0 rfl) ?_
    refine xsg_6_0 F hI (x_inO (by decide)) u_fl_X6_12 dX6_guestOf_29 ?_
    refine xsg_2_1 F hI (x_inH (show 0 < 10 by decide) (by decide)) u_fl_X6_91 dX6_guestOf_32 ?_
    refine xsg_3_1 F hI (x_inH (show 0 < 10 by decide) (by decide)) u_fl_X6_199 dX6_guestOf_35 ?_
    refine lv_iload_n hx hb dX6_guestOf_38 rfl (lv_at hl 1 rfl) ?_
    refine x_iald (n := 16) F hI (x_inH (show 0 < 10 by decide) (by decide)) (fun _ => rfl) g3 dX6_guestOf_39 ?_
    rw [x_some h]
    exact x_iret F hI dX6_guestOf_40
abbrev rx_X6_guestOf : Room := { frames := 7, cells := 1, slots := 6, locals := 102 }
def eX6_guestOf (σ : x_S) (a1 : Int32) : Option Nat := (x_or (eX6_requireRoom a1) (fun q1 => some q1) (Option.bind (fX6_requireRoom a1) fun r3 => (if x_in a1 16 then (if (σ 0 13 (Int32.toNatClampNeg a1)) = (-1 : Int32) then (x_or (eX6_require (0 : Int32)) (fun q7 => some q7) (Option.bind (fX6_require (0 : Int32)) fun r9 => none)) else (x_or (eX6_require (1 : Int32)) (fun q11 => some q11) (Option.bind (fX6_require (1 : Int32)) fun r13 => none))) else none)))
set_option maxHeartbeats 4000000 in
set_option maxRecDepth 100000 in
theorem xX6_guestOf (l : Launch) (hl0 : l.stackTraces = false) (X : x_T) (sz : Nat) (σ : x_S) (a1 : Int32) (r : Nat) (h : eX6_guestOf σ a1 = some r) : vx_Met l yX6_guestOf (x_ws yX6_guestOf cX6_guestOf 2 (some .int)) rx_X6_guestOf (x_PcT X σ sz [.ref (X.2.2 10 32), .int a1]) (xt_Qi X sz) (xt_C X r σ sz) 1 6 (x_A X sz) := by
  refine vx_ofW (cc := cX6_guestOf) (maxL := 2) (ret := (some .int)) (by decide) rfl ?_
  intro p e s m args below meth c s₁ B hml hnt hv
  obtain ⟨F, Z, hI, rfl, rfl⟩ := xt_begin hl0 B hml hnt hv
  replace F : x_F p s m _ meth c cX6_guestOf 2 RX6 (some .int) := F
  have hx := F.1
  have hb := F.2.1
  have hml := F.2.2.1
  have hown := F.2.2.2.1
  have hts := F.2.2.2.2.1
  refine x_entry (vs := [.ref (X.2.2 10 32), .int a1]) (n := 2) (Nat.le_of_ble_eq_true rfl) (fun ls hl => ?_)
  replace hl : lv_has ls 2 [(0, .ref (X.2.2 10 32)), (1, .int a1)] := hl
  unfold eX6_guestOf at h
  refine lv_iload_n hx hb dX6_guestOf_0 rfl (lv_at hl 1 rfl) ?_
  rcases x_or_el h with ⟨q1, h2, h⟩ | ⟨-, h⟩
  · rw [x_some h]
    exact xt_acv F Z hI (xt_runS (rest := []) F Z.2.1 hI (xX6_requireRoom l Z.1 X σ _ a1 q1 h2) g_X6_88 hd_X6_requireRoom ⟨by decide, by decide⟩ ⟨rfl, rfl⟩ rfl hl.1 rfl (Nat.le_of_ble_eq_true rfl) dX6_guestOf_1 ⟨by decide, by decide⟩)
  · obtain ⟨r3, h4, h⟩ := x_bnd h
    refine x_acv hI (x_runS (rest := []) F hI (mX6_requireRoom l X σ _ a1 r3 h4) g_X6_88 hd_X6_requireRoom ⟨by decide, by decide⟩ ⟨rfl, rfl⟩ rfl hl.1 rfl (Nat.le_of_ble_eq_true rfl) dX6_guestOf_1 ⟨Nat.zero_le _, Nat.zero_le _⟩) (fun H locs hI => ?_)
    refine lv_aload_n hx hb dX6_guestOf_4 rfl (lv_at hl 0 rfl) ?_
    refine xsg_6_0 F hI (x_inO (by decide)) u_fl_X6_12 dX6_guestOf_5 ?_
    refine xsg_2_1 F hI (x_inH (show 0 < 10 by decide) (by decide)) u_fl_X6_91 dX6_guestOf_8 ?_
    refine xsg_3_1 F hI (x_inH (show 0 < 10 by decide) (by decide)) u_fl_X6_199 dX6_guestOf_11 ?_
    refine lv_iload_n hx hb dX6_guestOf_14 rfl (lv_at hl 1 rfl) ?_
    obtain ⟨g5, h⟩ := x_chk h
    refine x_iald (n := 16) F hI (x_inH (show 0 < 10 by decide) (by decide)) (fun _ => rfl) g5 dX6_guestOf_15 ?_
    refine lv_iconst (v := (-1)) hx hb dX6_guestOf_16 (by decide) ?_
    refine lv_icmp_eq (tgt := 24) hx hb dX6_guestOf_17 (by decide) (fun c6 => ?_) (fun c6 => ?_)
    · have h := x_ift h c6
      refine lv_iconst (v := 0) hx hb dX6_guestOf_24 (by decide) ?_
      rcases x_or_el h with ⟨q7, h8, h⟩ | ⟨-, h⟩
      · rw [x_some h]
        exact xt_acv F Z hI (xt_runS (rest := []) F Z.2.1 hI (xX6_require l Z.1 X σ _ (0 : Int32) q7 h8) g_X6_55 hd_X6_require ⟨by decide, by decide⟩ ⟨rfl, rfl⟩ rfl hl.1 rfl (Nat.le_of_ble_eq_true rfl) dX6_guestOf_25 ⟨by decide, by decide⟩)
      · obtain ⟨r9, h10, h⟩ := x_bnd h
        refine x_acv hI (x_runS (rest := []) F hI (mX6_require l X σ _ (0 : Int32) r9 h10) g_X6_55 hd_X6_require ⟨by decide, by decide⟩ ⟨rfl, rfl⟩ rfl hl.1 rfl (Nat.le_of_ble_eq_true rfl) dX6_guestOf_25 ⟨Nat.zero_le _, Nat.zero_le _⟩) (fun H locs hI => ?_)
        cases h
    · have h := x_iff h c6
      refine lv_iconst (v := 1) hx hb dX6_guestOf_20 (by decide) ?_
      refine lv_goto (tgt := 25) hx hb dX6_guestOf_21 (by decide) ?_
      rcases x_or_el h with ⟨q11, h12, h⟩ | ⟨-, h⟩
      · rw [x_some h]
        exact xt_acv F Z hI (xt_runS (rest := []) F Z.2.1 hI (xX6_require l Z.1 X σ _ (1 : Int32) q11 h12) g_X6_55 hd_X6_require ⟨by decide, by decide⟩ ⟨rfl, rfl⟩ rfl hl.1 rfl (Nat.le_of_ble_eq_true rfl) dX6_guestOf_25 ⟨by decide, by decide⟩)
      · obtain ⟨r13, h14, h⟩ := x_bnd h
        refine x_acv hI (x_runS (rest := []) F hI (mX6_require l X σ _ (1 : Int32) r13 h14) g_X6_55 hd_X6_require ⟨by decide, by decide⟩ ⟨rfl, rfl⟩ rfl hl.1 rfl (Nat.le_of_ble_eq_true rfl) dX6_guestOf_25 ⟨Nat.zero_le _, Nat.zero_le _⟩) (fun H locs hI => ?_)
        cases h
abbrev rm_X6_ticksOf : Room := { frames := 2, cells := 0, slots := 0, locals := 42 }
def fX6_ticksOf (σ : x_S) (a1 : Int32) : Option Int32 := (Option.bind (fX6_requireRoom a1) fun r1 => (if x_in a1 16 then (if (σ 0 12 (Int32.toNatClampNeg a1)) = 0 then (Option.bind (fX6_require (0 : Int32)) fun r5 => (Option.bind (fX3_ticksUntilFree (σ 0) a1 (σ 0 0 0)) fun r7 => some (r7))) else (Option.bind (fX6_require (1 : Int32)) fun r9 => (Option.bind (fX3_ticksUntilFree (σ 0) a1 (σ 0 0 0)) fun r11 => some (r11)))) else none))
set_option maxHeartbeats 4000000 in
set_option maxRecDepth 100000 in
theorem mX6_ticksOf (l : Launch) (X : x_T) (sz : Nat) (σ : x_S) (a1 : Int32) (r : Int32) (h : fX6_ticksOf σ a1 = some r) : Met l yX6_ticksOf (x_ws yX6_ticksOf cX6_ticksOf 2 (some .int)) rm_X6_ticksOf (x_Pc X σ sz [.ref (X.2.2 10 32), .int a1]) (x_Qi X r σ sz) 0 0 (x_A X sz) := by
  refine Met.ofW (cc := cX6_ticksOf) (maxL := 2) (ret := (some .int)) (by decide) rfl ?_
  intro p e s m args below meth c s₁ B hml hv
  obtain ⟨F, hI, rfl, rfl⟩ := x_begin B hml hv
  replace F : x_F p s m _ meth c cX6_ticksOf 2 RX6 (some .int) := F
  have hx := F.1
  have hb := F.2.1
  have hml := F.2.2.1
  have hown := F.2.2.2.1
  have hts := F.2.2.2.2.1
  refine x_entry (vs := [.ref (X.2.2 10 32), .int a1]) (n := 2) (Nat.le_of_ble_eq_true rfl) (fun ls hl => ?_)
  replace hl : lv_has ls 2 [(0, .ref (X.2.2 10 32)), (1, .int a1)] := hl
  unfold fX6_ticksOf at h
  refine lv_iload_n hx hb dX6_ticksOf_0 rfl (lv_at hl 1 rfl) ?_
  obtain ⟨r1, h2, h⟩ := x_bnd h
  refine x_acv hI (x_runS (rest := []) F hI (mX6_requireRoom l X σ _ a1 r1 h2) g_X6_88 hd_X6_requireRoom ⟨by decide, by decide⟩ ⟨rfl, rfl⟩ rfl hl.1 rfl (Nat.le_of_ble_eq_true rfl) dX6_ticksOf_1 ⟨Nat.zero_le _, Nat.zero_le _⟩) (fun H locs hI => ?_)
  refine lv_aload_n hx hb dX6_ticksOf_4 rfl (lv_at hl 0 rfl) ?_
  refine xsg_6_0 F hI (x_inO (by decide)) u_fl_X6_12 dX6_ticksOf_5 ?_
  refine xsg_2_1 F hI (x_inH (show 0 < 10 by decide) (by decide)) u_fl_X6_91 dX6_ticksOf_8 ?_
  refine xsg_3_0 F hI (x_inH (show 0 < 10 by decide) (by decide)) u_fl_X6_196 dX6_ticksOf_11 ?_
  refine lv_iload_n hx hb dX6_ticksOf_14 rfl (lv_at hl 1 rfl) ?_
  obtain ⟨g3, h⟩ := x_chk h
  refine x_iald (n := 16) F hI (x_inH (show 0 < 10 by decide) (by decide)) (fun _ => rfl) g3 dX6_ticksOf_15 ?_
  refine lv_if_eq (tgt := 23) hx hb dX6_ticksOf_16 (by decide) (fun c4 => ?_) (fun c4 => ?_)
  · have h := x_ift h c4
    refine lv_iconst (v := 0) hx hb dX6_ticksOf_23 (by decide) ?_
    obtain ⟨r5, h6, h⟩ := x_bnd h
    refine x_acv hI (x_runS (rest := []) F hI (mX6_require l X σ _ (0 : Int32) r5 h6) g_X6_55 hd_X6_require ⟨by decide, by decide⟩ ⟨rfl, rfl⟩ rfl hl.1 rfl (Nat.le_of_ble_eq_true rfl) dX6_ticksOf_24 ⟨Nat.zero_le _, Nat.zero_le _⟩) (fun H locs hI => ?_)
    refine lv_aload_n hx hb dX6_ticksOf_27 rfl (lv_at hl 0 rfl) ?_
    refine xsg_6_0 F hI (x_inO (by decide)) u_fl_X6_12 dX6_ticksOf_28 ?_
    refine xsg_2_1 F hI (x_inH (show 0 < 10 by decide) (by decide)) u_fl_X6_91 dX6_ticksOf_31 ?_
    refine lv_iload_n hx hb dX6_ticksOf_34 rfl (lv_at hl 1 rfl) ?_
    refine lv_aload_n hx hb dX6_ticksOf_35 rfl (lv_at hl 0 rfl) ?_
    refine xsg_6_0 F hI (x_inO (by decide)) u_fl_X6_12 dX6_ticksOf_36 ?_
    refine xsg_2_4 F hI (x_inH (show 0 < 10 by decide) (by decide)) u_fl_X6_180 dX6_ticksOf_39 ?_
    obtain ⟨r7, h8, h⟩ := x_bnd h
    have hI := x_toH 0 hI
    refine x_aci hI (x_runV (rest := []) F hI (mX3_ticksUntilFree l X σ 0 (show 0 < 10 by decide) _ (σ 0) a1 (σ 0 0 0) r7 h8) g_X6_202 ⟨rfl, hd_X3_ticksUntilFree⟩ ⟨by decide, by decide⟩ ⟨rfl, rfl⟩ (x_inH (show 0 < 10 by decide) (by decide)) rfl rfl rfl rfl hl.1 rfl (Nat.le_of_ble_eq_true rfl) dX6_ticksOf_42 ⟨Nat.zero_le _, Nat.zero_le _⟩) (fun H locs hI => ?_)
    rw [x_sh_self] at hI
    rw [x_some h]
    exact x_iret F hI dX6_ticksOf_45
  · have h := x_iff h c4
    refine lv_iconst (v := 1) hx hb dX6_ticksOf_19 (by decide) ?_
    refine lv_goto (tgt := 24) hx hb dX6_ticksOf_20 (by decide) ?_
    obtain ⟨r9, h10, h⟩ := x_bnd h
    refine x_acv hI (x_runS (rest := []) F hI (mX6_require l X σ _ (1 : Int32) r9 h10) g_X6_55 hd_X6_require ⟨by decide, by decide⟩ ⟨rfl, rfl⟩ rfl hl.1 rfl (Nat.le_of_ble_eq_true rfl) dX6_ticksOf_24 ⟨Nat.zero_le _, Nat.zero_le _⟩) (fun H locs hI => ?_)
    refine lv_aload_n hx hb dX6_ticksOf_27 rfl (lv_at hl 0 rfl) ?_
    refine xsg_6_0 F hI (x_inO (by decide)) u_fl_X6_12 dX6_ticksOf_28 ?_
    refine xsg_2_1 F hI (x_inH (show 0 < 10 by decide) (by decide)) u_fl_X6_91 dX6_ticksOf_31 ?_
    refine lv_iload_n hx hb dX6_ticksOf_34 rfl (lv_at hl 1 rfl) ?_
    refine lv_aload_n hx hb dX6_ticksOf_35 rfl (lv_at hl 0 rfl) ?_
    refine xsg_6_0 F hI (x_inO (by decide)) u_fl_X6_12 dX6_ticksOf_36 ?_
    refine xsg_2_4 F hI (x_inH (show 0 < 10 by decide) (by decide)) u_fl_X6_180 dX6_ticksOf_39 ?_
    obtain ⟨r11, h12, h⟩ := x_bnd h
    have hI := x_toH 0 hI
    refine x_aci hI (x_runV (rest := []) F hI (mX3_ticksUntilFree l X σ 0 (show 0 < 10 by decide) _ (σ 0) a1 (σ 0 0 0) r11 h12) g_X6_202 ⟨rfl, hd_X3_ticksUntilFree⟩ ⟨by decide, by decide⟩ ⟨rfl, rfl⟩ (x_inH (show 0 < 10 by decide) (by decide)) rfl rfl rfl rfl hl.1 rfl (Nat.le_of_ble_eq_true rfl) dX6_ticksOf_42 ⟨Nat.zero_le _, Nat.zero_le _⟩) (fun H locs hI => ?_)
    rw [x_sh_self] at hI
    rw [x_some h]
    exact x_iret F hI dX6_ticksOf_45
abbrev rx_X6_ticksOf : Room := { frames := 7, cells := 1, slots := 6, locals := 102 }
def eX6_ticksOf (σ : x_S) (a1 : Int32) : Option Nat := (x_or (eX6_requireRoom a1) (fun q1 => some q1) (Option.bind (fX6_requireRoom a1) fun r3 => (if x_in a1 16 then (if (σ 0 12 (Int32.toNatClampNeg a1)) = 0 then (x_or (eX6_require (0 : Int32)) (fun q7 => some q7) (Option.bind (fX6_require (0 : Int32)) fun r9 => none)) else (x_or (eX6_require (1 : Int32)) (fun q11 => some q11) (Option.bind (fX6_require (1 : Int32)) fun r13 => none))) else none)))
set_option maxHeartbeats 4000000 in
set_option maxRecDepth 100000 in
theorem xX6_ticksOf (l : Launch) (hl0 : l.stackTraces = false) (X : x_T) (sz : Nat) (σ : x_S) (a1 : Int32) (r : Nat) (h : eX6_ticksOf σ a1 = some r) : vx_Met l yX6_ticksOf (x_ws yX6_ticksOf cX6_ticksOf 2 (some .int)) rx_X6_ticksOf (x_PcT X σ sz [.ref (X.2.2 10 32), .int a1]) (xt_Qi X sz) (xt_C X r σ sz) 1 6 (x_A X sz) := by
  refine vx_ofW (cc := cX6_ticksOf) (maxL := 2) (ret := (some .int)) (by decide) rfl ?_
  intro p e s m args below meth c s₁ B hml hnt hv
  obtain ⟨F, Z, hI, rfl, rfl⟩ := xt_begin hl0 B hml hnt hv
  replace F : x_F p s m _ meth c cX6_ticksOf 2 RX6 (some .int) := F
  have hx := F.1
  have hb := F.2.1
  have hml := F.2.2.1
  have hown := F.2.2.2.1
  have hts := F.2.2.2.2.1
  refine x_entry (vs := [.ref (X.2.2 10 32), .int a1]) (n := 2) (Nat.le_of_ble_eq_true rfl) (fun ls hl => ?_)
  replace hl : lv_has ls 2 [(0, .ref (X.2.2 10 32)), (1, .int a1)] := hl
  unfold eX6_ticksOf at h
  refine lv_iload_n hx hb dX6_ticksOf_0 rfl (lv_at hl 1 rfl) ?_
  rcases x_or_el h with ⟨q1, h2, h⟩ | ⟨-, h⟩
  · rw [x_some h]
    exact xt_acv F Z hI (xt_runS (rest := []) F Z.2.1 hI (xX6_requireRoom l Z.1 X σ _ a1 q1 h2) g_X6_88 hd_X6_requireRoom ⟨by decide, by decide⟩ ⟨rfl, rfl⟩ rfl hl.1 rfl (Nat.le_of_ble_eq_true rfl) dX6_ticksOf_1 ⟨by decide, by decide⟩)
  · obtain ⟨r3, h4, h⟩ := x_bnd h
    refine x_acv hI (x_runS (rest := []) F hI (mX6_requireRoom l X σ _ a1 r3 h4) g_X6_88 hd_X6_requireRoom ⟨by decide, by decide⟩ ⟨rfl, rfl⟩ rfl hl.1 rfl (Nat.le_of_ble_eq_true rfl) dX6_ticksOf_1 ⟨Nat.zero_le _, Nat.zero_le _⟩) (fun H locs hI => ?_)
    refine lv_aload_n hx hb dX6_ticksOf_4 rfl (lv_at hl 0 rfl) ?_
    refine xsg_6_0 F hI (x_inO (by decide)) u_fl_X6_12 dX6_ticksOf_5 ?_
    refine xsg_2_1 F hI (x_inH (show 0 < 10 by decide) (by decide)) u_fl_X6_91 dX6_ticksOf_8 ?_
    refine xsg_3_0 F hI (x_inH (show 0 < 10 by decide) (by decide)) u_fl_X6_196 dX6_ticksOf_11 ?_
    refine lv_iload_n hx hb dX6_ticksOf_14 rfl (lv_at hl 1 rfl) ?_
    obtain ⟨g5, h⟩ := x_chk h
    refine x_iald (n := 16) F hI (x_inH (show 0 < 10 by decide) (by decide)) (fun _ => rfl) g5 dX6_ticksOf_15 ?_
    refine lv_if_eq (tgt := 23) hx hb dX6_ticksOf_16 (by decide) (fun c6 => ?_) (fun c6 => ?_)
    · have h := x_ift h c6
      refine lv_iconst (v := 0) hx hb dX6_ticksOf_23 (by decide) ?_
      rcases x_or_el h with ⟨q7, h8, h⟩ | ⟨-, h⟩
      · rw [x_some h]
        exact xt_acv F Z hI (xt_runS (rest := []) F Z.2.1 hI (xX6_require l Z.1 X σ _ (0 : Int32) q7 h8) g_X6_55 hd_X6_require ⟨by decide, by decide⟩ ⟨rfl, rfl⟩ rfl hl.1 rfl (Nat.le_of_ble_eq_true rfl) dX6_ticksOf_24 ⟨by decide, by decide⟩)
      · obtain ⟨r9, h10, h⟩ := x_bnd h
        refine x_acv hI (x_runS (rest := []) F hI (mX6_require l X σ _ (0 : Int32) r9 h10) g_X6_55 hd_X6_require ⟨by decide, by decide⟩ ⟨rfl, rfl⟩ rfl hl.1 rfl (Nat.le_of_ble_eq_true rfl) dX6_ticksOf_24 ⟨Nat.zero_le _, Nat.zero_le _⟩) (fun H locs hI => ?_)
        cases h
    · have h := x_iff h c6
      refine lv_iconst (v := 1) hx hb dX6_ticksOf_19 (by decide) ?_
      refine lv_goto (tgt := 24) hx hb dX6_ticksOf_20 (by decide) ?_
      rcases x_or_el h with ⟨q11, h12, h⟩ | ⟨-, h⟩
      · rw [x_some h]
        exact xt_acv F Z hI (xt_runS (rest := []) F Z.2.1 hI (xX6_require l Z.1 X σ _ (1 : Int32) q11 h12) g_X6_55 hd_X6_require ⟨by decide, by decide⟩ ⟨rfl, rfl⟩ rfl hl.1 rfl (Nat.le_of_ble_eq_true rfl) dX6_ticksOf_24 ⟨by decide, by decide⟩)
      · obtain ⟨r13, h14, h⟩ := x_bnd h
        refine x_acv hI (x_runS (rest := []) F hI (mX6_require l X σ _ (1 : Int32) r13 h14) g_X6_55 hd_X6_require ⟨by decide, by decide⟩ ⟨rfl, rfl⟩ rfl hl.1 rfl (Nat.le_of_ble_eq_true rfl) dX6_ticksOf_24 ⟨Nat.zero_le _, Nat.zero_le _⟩) (fun H locs hI => ?_)
        cases h
abbrev rm_X6_reservedFor : Room := { frames := 2, cells := 0, slots := 0, locals := 40 }
def fX6_reservedFor (σ : x_S) (a1 : Int32) : Option Int32 := (Option.bind (fX6_requireRoom a1) fun r1 => (if x_in a1 16 then (if (σ 0 16 (Int32.toNatClampNeg a1)) = (-1 : Int32) then (Option.bind (fX6_require (0 : Int32)) fun r5 => some (σ 0 16 (Int32.toNatClampNeg a1))) else (Option.bind (fX6_require (1 : Int32)) fun r7 => some (σ 0 16 (Int32.toNatClampNeg a1)))) else none))
set_option maxHeartbeats 4000000 in
set_option maxRecDepth 100000 in
theorem mX6_reservedFor (l : Launch) (X : x_T) (sz : Nat) (σ : x_S) (a1 : Int32) (r : Int32) (h : fX6_reservedFor σ a1 = some r) : Met l yX6_reservedFor (x_ws yX6_reservedFor cX6_reservedFor 2 (some .int)) rm_X6_reservedFor (x_Pc X σ sz [.ref (X.2.2 10 32), .int a1]) (x_Qi X r σ sz) 0 0 (x_A X sz) := by
  refine Met.ofW (cc := cX6_reservedFor) (maxL := 2) (ret := (some .int)) (by decide) rfl ?_
  intro p e s m args below meth c s₁ B hml hv
  obtain ⟨F, hI, rfl, rfl⟩ := x_begin B hml hv
  replace F : x_F p s m _ meth c cX6_reservedFor 2 RX6 (some .int) := F
  have hx := F.1
  have hb := F.2.1
  have hml := F.2.2.1
  have hown := F.2.2.2.1
  have hts := F.2.2.2.2.1
  refine x_entry (vs := [.ref (X.2.2 10 32), .int a1]) (n := 2) (Nat.le_of_ble_eq_true rfl) (fun ls hl => ?_)
  replace hl : lv_has ls 2 [(0, .ref (X.2.2 10 32)), (1, .int a1)] := hl
  unfold fX6_reservedFor at h
  refine lv_iload_n hx hb dX6_reservedFor_0 rfl (lv_at hl 1 rfl) ?_
  obtain ⟨r1, h2, h⟩ := x_bnd h
  refine x_acv hI (x_runS (rest := []) F hI (mX6_requireRoom l X σ _ a1 r1 h2) g_X6_88 hd_X6_requireRoom ⟨by decide, by decide⟩ ⟨rfl, rfl⟩ rfl hl.1 rfl (Nat.le_of_ble_eq_true rfl) dX6_reservedFor_1 ⟨Nat.zero_le _, Nat.zero_le _⟩) (fun H locs hI => ?_)
  refine lv_aload_n hx hb dX6_reservedFor_4 rfl (lv_at hl 0 rfl) ?_
  refine xsg_6_0 F hI (x_inO (by decide)) u_fl_X6_12 dX6_reservedFor_5 ?_
  refine xsg_2_1 F hI (x_inH (show 0 < 10 by decide) (by decide)) u_fl_X6_91 dX6_reservedFor_8 ?_
  refine xsg_3_4 F hI (x_inH (show 0 < 10 by decide) (by decide)) u_fl_X6_95 dX6_reservedFor_11 ?_
  refine lv_iload_n hx hb dX6_reservedFor_14 rfl (lv_at hl 1 rfl) ?_
  obtain ⟨g3, h⟩ := x_chk h
  refine x_iald (n := 16) F hI (x_inH (show 0 < 10 by decide) (by decide)) (fun _ => rfl) g3 dX6_reservedFor_15 ?_
  refine lv_iconst (v := (-1)) hx hb dX6_reservedFor_16 (by decide) ?_
  refine lv_icmp_eq (tgt := 24) hx hb dX6_reservedFor_17 (by decide) (fun c4 => ?_) (fun c4 => ?_)
  · have h := x_ift h c4
    refine lv_iconst (v := 0) hx hb dX6_reservedFor_24 (by decide) ?_
    obtain ⟨r5, h6, h⟩ := x_bnd h
    refine x_acv hI (x_runS (rest := []) F hI (mX6_require l X σ _ (0 : Int32) r5 h6) g_X6_55 hd_X6_require ⟨by decide, by decide⟩ ⟨rfl, rfl⟩ rfl hl.1 rfl (Nat.le_of_ble_eq_true rfl) dX6_reservedFor_25 ⟨Nat.zero_le _, Nat.zero_le _⟩) (fun H locs hI => ?_)
    refine lv_aload_n hx hb dX6_reservedFor_28 rfl (lv_at hl 0 rfl) ?_
    refine xsg_6_0 F hI (x_inO (by decide)) u_fl_X6_12 dX6_reservedFor_29 ?_
    refine xsg_2_1 F hI (x_inH (show 0 < 10 by decide) (by decide)) u_fl_X6_91 dX6_reservedFor_32 ?_
    refine xsg_3_4 F hI (x_inH (show 0 < 10 by decide) (by decide)) u_fl_X6_95 dX6_reservedFor_35 ?_
    refine lv_iload_n hx hb dX6_reservedFor_38 rfl (lv_at hl 1 rfl) ?_
    refine x_iald (n := 16) F hI (x_inH (show 0 < 10 by decide) (by decide)) (fun _ => rfl) g3 dX6_reservedFor_39 ?_
    rw [x_some h]
    exact x_iret F hI dX6_reservedFor_40
  · have h := x_iff h c4
    refine lv_iconst (v := 1) hx hb dX6_reservedFor_20 (by decide) ?_
    refine lv_goto (tgt := 25) hx hb dX6_reservedFor_21 (by decide) ?_
    obtain ⟨r7, h8, h⟩ := x_bnd h
    refine x_acv hI (x_runS (rest := []) F hI (mX6_require l X σ _ (1 : Int32) r7 h8) g_X6_55 hd_X6_require ⟨by decide, by decide⟩ ⟨rfl, rfl⟩ rfl hl.1 rfl (Nat.le_of_ble_eq_true rfl) dX6_reservedFor_25 ⟨Nat.zero_le _, Nat.zero_le _⟩) (fun H locs hI => ?_)
    refine lv_aload_n hx hb dX6_reservedFor_28 rfl (lv_at hl 0 rfl) ?_
    refine xsg_6_0 F hI (x_inO (by decide)) u_fl_X6_12 dX6_reservedFor_29 ?_
    refine xsg_2_1 F hI (x_inH (show 0 < 10 by decide) (by decide)) u_fl_X6_91 dX6_reservedFor_32 ?_
    refine xsg_3_4 F hI (x_inH (show 0 < 10 by decide) (by decide)) u_fl_X6_95 dX6_reservedFor_35 ?_
    refine lv_iload_n hx hb dX6_reservedFor_38 rfl (lv_at hl 1 rfl) ?_
    refine x_iald (n := 16) F hI (x_inH (show 0 < 10 by decide) (by decide)) (fun _ => rfl) g3 dX6_reservedFor_39 ?_
    rw [x_some h]
    exact x_iret F hI dX6_reservedFor_40
abbrev rx_X6_reservedFor : Room := { frames := 7, cells := 1, slots := 6, locals := 102 }
def eX6_reservedFor (σ : x_S) (a1 : Int32) : Option Nat := (x_or (eX6_requireRoom a1) (fun q1 => some q1) (Option.bind (fX6_requireRoom a1) fun r3 => (if x_in a1 16 then (if (σ 0 16 (Int32.toNatClampNeg a1)) = (-1 : Int32) then (x_or (eX6_require (0 : Int32)) (fun q7 => some q7) (Option.bind (fX6_require (0 : Int32)) fun r9 => none)) else (x_or (eX6_require (1 : Int32)) (fun q11 => some q11) (Option.bind (fX6_require (1 : Int32)) fun r13 => none))) else none)))
set_option maxHeartbeats 4000000 in
set_option maxRecDepth 100000 in
theorem xX6_reservedFor (l : Launch) (hl0 : l.stackTraces = false) (X : x_T) (sz : Nat) (σ : x_S) (a1 : Int32) (r : Nat) (h : eX6_reservedFor σ a1 = some r) : vx_Met l yX6_reservedFor (x_ws yX6_reservedFor cX6_reservedFor 2 (some .int)) rx_X6_reservedFor (x_PcT X σ sz [.ref (X.2.2 10 32), .int a1]) (xt_Qi X sz) (xt_C X r σ sz) 1 6 (x_A X sz) := by
  refine vx_ofW (cc := cX6_reservedFor) (maxL := 2) (ret := (some .int)) (by decide) rfl ?_
  intro p e s m args below meth c s₁ B hml hnt hv
  obtain ⟨F, Z, hI, rfl, rfl⟩ := xt_begin hl0 B hml hnt hv
  replace F : x_F p s m _ meth c cX6_reservedFor 2 RX6 (some .int) := F
  have hx := F.1
  have hb := F.2.1
  have hml := F.2.2.1
  have hown := F.2.2.2.1
  have hts := F.2.2.2.2.1
  refine x_entry (vs := [.ref (X.2.2 10 32), .int a1]) (n := 2) (Nat.le_of_ble_eq_true rfl) (fun ls hl => ?_)
  replace hl : lv_has ls 2 [(0, .ref (X.2.2 10 32)), (1, .int a1)] := hl
  unfold eX6_reservedFor at h
  refine lv_iload_n hx hb dX6_reservedFor_0 rfl (lv_at hl 1 rfl) ?_
  rcases x_or_el h with ⟨q1, h2, h⟩ | ⟨-, h⟩
  · rw [x_some h]
    exact xt_acv F Z hI (xt_runS (rest := []) F Z.2.1 hI (xX6_requireRoom l Z.1 X σ _ a1 q1 h2) g_X6_88 hd_X6_requireRoom ⟨by decide, by decide⟩ ⟨rfl, rfl⟩ rfl hl.1 rfl (Nat.le_of_ble_eq_true rfl) dX6_reservedFor_1 ⟨by decide, by decide⟩)
  · obtain ⟨r3, h4, h⟩ := x_bnd h
    refine x_acv hI (x_runS (rest := []) F hI (mX6_requireRoom l X σ _ a1 r3 h4) g_X6_88 hd_X6_requireRoom ⟨by decide, by decide⟩ ⟨rfl, rfl⟩ rfl hl.1 rfl (Nat.le_of_ble_eq_true rfl) dX6_reservedFor_1 ⟨Nat.zero_le _, Nat.zero_le _⟩) (fun H locs hI => ?_)
    refine lv_aload_n hx hb dX6_reservedFor_4 rfl (lv_at hl 0 rfl) ?_
    refine xsg_6_0 F hI (x_inO (by decide)) u_fl_X6_12 dX6_reservedFor_5 ?_
    refine xsg_2_1 F hI (x_inH (show 0 < 10 by decide) (by decide)) u_fl_X6_91 dX6_reservedFor_8 ?_
    refine xsg_3_4 F hI (x_inH (show 0 < 10 by decide) (by decide)) u_fl_X6_95 dX6_reservedFor_11 ?_
    refine lv_iload_n hx hb dX6_reservedFor_14 rfl (lv_at hl 1 rfl) ?_
    obtain ⟨g5, h⟩ := x_chk h
    refine x_iald (n := 16) F hI (x_inH (show 0 < 10 by decide) (by decide)) (fun _ => rfl) g5 dX6_reservedFor_15 ?_
    refine lv_iconst (v := (-1)) hx hb dX6_reservedFor_16 (by decide) ?_
    refine lv_icmp_eq (tgt := 24) hx hb dX6_reservedFor_17 (by decide) (fun c6 => ?_) (fun c6 => ?_)
    · have h := x_ift h c6
      refine lv_iconst (v := 0) hx hb dX6_reservedFor_24 (by decide) ?_
      rcases x_or_el h with ⟨q7, h8, h⟩ | ⟨-, h⟩
      · rw [x_some h]
        exact xt_acv F Z hI (xt_runS (rest := []) F Z.2.1 hI (xX6_require l Z.1 X σ _ (0 : Int32) q7 h8) g_X6_55 hd_X6_require ⟨by decide, by decide⟩ ⟨rfl, rfl⟩ rfl hl.1 rfl (Nat.le_of_ble_eq_true rfl) dX6_reservedFor_25 ⟨by decide, by decide⟩)
      · obtain ⟨r9, h10, h⟩ := x_bnd h
        refine x_acv hI (x_runS (rest := []) F hI (mX6_require l X σ _ (0 : Int32) r9 h10) g_X6_55 hd_X6_require ⟨by decide, by decide⟩ ⟨rfl, rfl⟩ rfl hl.1 rfl (Nat.le_of_ble_eq_true rfl) dX6_reservedFor_25 ⟨Nat.zero_le _, Nat.zero_le _⟩) (fun H locs hI => ?_)
        cases h
    · have h := x_iff h c6
      refine lv_iconst (v := 1) hx hb dX6_reservedFor_20 (by decide) ?_
      refine lv_goto (tgt := 25) hx hb dX6_reservedFor_21 (by decide) ?_
      rcases x_or_el h with ⟨q11, h12, h⟩ | ⟨-, h⟩
      · rw [x_some h]
        exact xt_acv F Z hI (xt_runS (rest := []) F Z.2.1 hI (xX6_require l Z.1 X σ _ (1 : Int32) q11 h12) g_X6_55 hd_X6_require ⟨by decide, by decide⟩ ⟨rfl, rfl⟩ rfl hl.1 rfl (Nat.le_of_ble_eq_true rfl) dX6_reservedFor_25 ⟨by decide, by decide⟩)
      · obtain ⟨r13, h14, h⟩ := x_bnd h
        refine x_acv hI (x_runS (rest := []) F hI (mX6_require l X σ _ (1 : Int32) r13 h14) g_X6_55 hd_X6_require ⟨by decide, by decide⟩ ⟨rfl, rfl⟩ rfl hl.1 rfl (Nat.le_of_ble_eq_true rfl) dX6_reservedFor_25 ⟨Nat.zero_le _, Nat.zero_le _⟩) (fun H locs hI => ?_)
        cases h
abbrev rm_X6_hasGhost : Room := { frames := 2, cells := 0, slots := 0, locals := 41 }
def fX6_hasGhost (σ : x_S) (a1 : Int32) : Option Int32 := (Option.bind (fX6_requireRoom a1) fun r1 => (Option.bind (fX3_ghostIn (σ 0) a1) fun r3 => if vp_nar .boolean r3 = r3 then some (r3) else none))
set_option maxHeartbeats 4000000 in
set_option maxRecDepth 100000 in
theorem mX6_hasGhost (l : Launch) (X : x_T) (sz : Nat) (σ : x_S) (a1 : Int32) (r : Int32) (h : fX6_hasGhost σ a1 = some r) : Met l yX6_hasGhost (x_ws yX6_hasGhost cX6_hasGhost 2 (some .boolean)) rm_X6_hasGhost (x_Pc X σ sz [.ref (X.2.2 10 32), .int a1]) (x_Qi X r σ sz) 0 0 (x_A X sz) := by
  refine Met.ofW (cc := cX6_hasGhost) (maxL := 2) (ret := (some .boolean)) (by decide) rfl ?_
  intro p e s m args below meth c s₁ B hml hv
  obtain ⟨F, hI, rfl, rfl⟩ := x_begin B hml hv
  replace F : x_F p s m _ meth c cX6_hasGhost 2 RX6 (some .boolean) := F
  have hx := F.1
  have hb := F.2.1
  have hml := F.2.2.1
  have hown := F.2.2.2.1
  have hts := F.2.2.2.2.1
  refine x_entry (vs := [.ref (X.2.2 10 32), .int a1]) (n := 2) (Nat.le_of_ble_eq_true rfl) (fun ls hl => ?_)
  replace hl : lv_has ls 2 [(0, .ref (X.2.2 10 32)), (1, .int a1)] := hl
  unfold fX6_hasGhost at h
  refine lv_iload_n hx hb dX6_hasGhost_0 rfl (lv_at hl 1 rfl) ?_
  obtain ⟨r1, h2, h⟩ := x_bnd h
  refine x_acv hI (x_runS (rest := []) F hI (mX6_requireRoom l X σ _ a1 r1 h2) g_X6_88 hd_X6_requireRoom ⟨by decide, by decide⟩ ⟨rfl, rfl⟩ rfl hl.1 rfl (Nat.le_of_ble_eq_true rfl) dX6_hasGhost_1 ⟨Nat.zero_le _, Nat.zero_le _⟩) (fun H locs hI => ?_)
  refine lv_aload_n hx hb dX6_hasGhost_4 rfl (lv_at hl 0 rfl) ?_
  refine xsg_6_0 F hI (x_inO (by decide)) u_fl_X6_12 dX6_hasGhost_5 ?_
  refine xsg_2_1 F hI (x_inH (show 0 < 10 by decide) (by decide)) u_fl_X6_91 dX6_hasGhost_8 ?_
  refine lv_iload_n hx hb dX6_hasGhost_11 rfl (lv_at hl 1 rfl) ?_
  obtain ⟨r3, h4, h⟩ := x_bnd h
  have hI := x_toH 0 hI
  refine x_aci hI (x_runV (rest := []) F hI (mX3_ghostIn l X σ 0 (show 0 < 10 by decide) _ (σ 0) a1 r3 h4) g_X6_110 ⟨rfl, hd_X3_ghostIn⟩ ⟨by decide, by decide⟩ ⟨rfl, rfl⟩ (x_inH (show 0 < 10 by decide) (by decide)) rfl rfl rfl rfl hl.1 rfl (Nat.le_of_ble_eq_true rfl) dX6_hasGhost_12 ⟨Nat.zero_le _, Nat.zero_le _⟩) (fun H locs hI => ?_)
  rw [x_sh_self] at hI
  obtain ⟨g, h⟩ := x_chk h
  rw [x_some h]
  exact x_zret (v := r3) F hI g dX6_hasGhost_15
abbrev rx_X6_hasGhost : Room := { frames := 7, cells := 1, slots := 6, locals := 102 }
def eX6_hasGhost (σ : x_S) (a1 : Int32) : Option Nat := (x_or (eX6_requireRoom a1) (fun q1 => some q1) (Option.bind (fX6_requireRoom a1) fun r3 => none))
set_option maxHeartbeats 4000000 in
set_option maxRecDepth 100000 in
theorem xX6_hasGhost (l : Launch) (hl0 : l.stackTraces = false) (X : x_T) (sz : Nat) (σ : x_S) (a1 : Int32) (r : Nat) (h : eX6_hasGhost σ a1 = some r) : vx_Met l yX6_hasGhost (x_ws yX6_hasGhost cX6_hasGhost 2 (some .boolean)) rx_X6_hasGhost (x_PcT X σ sz [.ref (X.2.2 10 32), .int a1]) (xt_Qi X sz) (xt_C X r σ sz) 1 6 (x_A X sz) := by
  refine vx_ofW (cc := cX6_hasGhost) (maxL := 2) (ret := (some .boolean)) (by decide) rfl ?_
  intro p e s m args below meth c s₁ B hml hnt hv
  obtain ⟨F, Z, hI, rfl, rfl⟩ := xt_begin hl0 B hml hnt hv
  replace F : x_F p s m _ meth c cX6_hasGhost 2 RX6 (some .boolean) := F
  have hx := F.1
  have hb := F.2.1
  have hml := F.2.2.1
  have hown := F.2.2.2.1
  have hts := F.2.2.2.2.1
  refine x_entry (vs := [.ref (X.2.2 10 32), .int a1]) (n := 2) (Nat.le_of_ble_eq_true rfl) (fun ls hl => ?_)
  replace hl : lv_has ls 2 [(0, .ref (X.2.2 10 32)), (1, .int a1)] := hl
  unfold eX6_hasGhost at h
  refine lv_iload_n hx hb dX6_hasGhost_0 rfl (lv_at hl 1 rfl) ?_
  rcases x_or_el h with ⟨q1, h2, h⟩ | ⟨-, h⟩
  · rw [x_some h]
    exact xt_acv F Z hI (xt_runS (rest := []) F Z.2.1 hI (xX6_requireRoom l Z.1 X σ _ a1 q1 h2) g_X6_88 hd_X6_requireRoom ⟨by decide, by decide⟩ ⟨rfl, rfl⟩ rfl hl.1 rfl (Nat.le_of_ble_eq_true rfl) dX6_hasGhost_1 ⟨by decide, by decide⟩)
  · obtain ⟨r3, h4, h⟩ := x_bnd h
    refine x_acv hI (x_runS (rest := []) F hI (mX6_requireRoom l X σ _ a1 r3 h4) g_X6_88 hd_X6_requireRoom ⟨by decide, by decide⟩ ⟨rfl, rfl⟩ rfl hl.1 rfl (Nat.le_of_ble_eq_true rfl) dX6_hasGhost_1 ⟨Nat.zero_le _, Nat.zero_le _⟩) (fun H locs hI => ?_)
    cases h
abbrev rm_X6_roomFor : Room := { frames := 2, cells := 0, slots := 0, locals := 46 }
def fX6_roomFor (σ : x_S) (a1 : Int32) : Option Int32 := (Option.bind (fX6_requireGuest a1) fun r1 => (Option.bind (fX3_roomToOffer (σ 0) a1) fun r3 => (if r3 = (-1 : Int32) then (Option.bind (fX6_require (0 : Int32)) fun r6 => some (r3)) else (Option.bind (fX6_require (1 : Int32)) fun r8 => some (r3)))))
set_option maxHeartbeats 4000000 in
set_option maxRecDepth 100000 in
theorem mX6_roomFor (l : Launch) (X : x_T) (sz : Nat) (σ : x_S) (a1 : Int32) (r : Int32) (h : fX6_roomFor σ a1 = some r) : Met l yX6_roomFor (x_ws yX6_roomFor cX6_roomFor 3 (some .int)) rm_X6_roomFor (x_Pc X σ sz [.ref (X.2.2 10 32), .int a1]) (x_Qi X r σ sz) 0 0 (x_A X sz) := by
  refine Met.ofW (cc := cX6_roomFor) (maxL := 3) (ret := (some .int)) (by decide) rfl ?_
  intro p e s m args below meth c s₁ B hml hv
  obtain ⟨F, hI, rfl, rfl⟩ := x_begin B hml hv
  replace F : x_F p s m _ meth c cX6_roomFor 3 RX6 (some .int) := F
  have hx := F.1
  have hb := F.2.1
  have hml := F.2.2.1
  have hown := F.2.2.2.1
  have hts := F.2.2.2.2.1
  refine x_entry (vs := [.ref (X.2.2 10 32), .int a1]) (n := 3) (Nat.le_of_ble_eq_true rfl) (fun ls hl => ?_)
  replace hl : lv_has ls 3 [(0, .ref (X.2.2 10 32)), (1, .int a1)] := hl
  unfold fX6_roomFor at h
  refine lv_iload_n hx hb dX6_roomFor_0 rfl (lv_at hl 1 rfl) ?_
  obtain ⟨r1, h2, h⟩ := x_bnd h
  refine x_acv hI (x_runS (rest := []) F hI (mX6_requireGuest l X σ _ a1 r1 h2) g_X6_41 hd_X6_requireGuest ⟨by decide, by decide⟩ ⟨rfl, rfl⟩ rfl hl.1 rfl (Nat.le_of_ble_eq_true rfl) dX6_roomFor_1 ⟨Nat.zero_le _, Nat.zero_le _⟩) (fun H locs hI => ?_)
  refine lv_aload_n hx hb dX6_roomFor_4 rfl (lv_at hl 0 rfl) ?_
  refine xsg_6_0 F hI (x_inO (by decide)) u_fl_X6_12 dX6_roomFor_5 ?_
  refine xsg_2_1 F hI (x_inH (show 0 < 10 by decide) (by decide)) u_fl_X6_91 dX6_roomFor_8 ?_
  refine lv_iload_n hx hb dX6_roomFor_11 rfl (lv_at hl 1 rfl) ?_
  obtain ⟨r3, h4, h⟩ := x_bnd h
  have hI := x_toH 0 hI
  refine x_aci hI (x_runV (rest := []) F hI (mX3_roomToOffer l X σ 0 (show 0 < 10 by decide) _ (σ 0) a1 r3 h4) g_X6_205 ⟨rfl, hd_X3_roomToOffer⟩ ⟨by decide, by decide⟩ ⟨rfl, rfl⟩ (x_inH (show 0 < 10 by decide) (by decide)) rfl rfl rfl rfl hl.1 rfl (Nat.le_of_ble_eq_true rfl) dX6_roomFor_12 ⟨Nat.zero_le _, Nat.zero_le _⟩) (fun H locs hI => ?_)
  rw [x_sh_self] at hI
  refine lv_istore_n (lv' := [(2, .int r3), (0, .ref (X.2.2 10 32)), (1, .int a1)]) hx hb dX6_roomFor_15 rfl hl (by decide) rfl (fun ls hl => ?_)
  refine lv_iload_n hx hb dX6_roomFor_16 rfl (lv_at hl 0 rfl) ?_
  refine lv_iconst (v := (-1)) hx hb dX6_roomFor_17 (by decide) ?_
  refine lv_icmp_eq (tgt := 25) hx hb dX6_roomFor_18 (by decide) (fun c5 => ?_) (fun c5 => ?_)
  · have h := x_ift h c5
    refine lv_iconst (v := 0) hx hb dX6_roomFor_25 (by decide) ?_
    obtain ⟨r6, h7, h⟩ := x_bnd h
    refine x_acv hI (x_runS (rest := []) F hI (mX6_require l X σ _ (0 : Int32) r6 h7) g_X6_55 hd_X6_require ⟨by decide, by decide⟩ ⟨rfl, rfl⟩ rfl hl.1 rfl (Nat.le_of_ble_eq_true rfl) dX6_roomFor_26 ⟨Nat.zero_le _, Nat.zero_le _⟩) (fun H locs hI => ?_)
    refine lv_iload_n hx hb dX6_roomFor_29 rfl (lv_at hl 0 rfl) ?_
    rw [x_some h]
    exact x_iret F hI dX6_roomFor_30
  · have h := x_iff h c5
    refine lv_iconst (v := 1) hx hb dX6_roomFor_21 (by decide) ?_
    refine lv_goto (tgt := 26) hx hb dX6_roomFor_22 (by decide) ?_
    obtain ⟨r8, h9, h⟩ := x_bnd h
    refine x_acv hI (x_runS (rest := []) F hI (mX6_require l X σ _ (1 : Int32) r8 h9) g_X6_55 hd_X6_require ⟨by decide, by decide⟩ ⟨rfl, rfl⟩ rfl hl.1 rfl (Nat.le_of_ble_eq_true rfl) dX6_roomFor_26 ⟨Nat.zero_le _, Nat.zero_le _⟩) (fun H locs hI => ?_)
    refine lv_iload_n hx hb dX6_roomFor_29 rfl (lv_at hl 0 rfl) ?_
    rw [x_some h]
    exact x_iret F hI dX6_roomFor_30
abbrev rx_X6_roomFor : Room := { frames := 7, cells := 1, slots := 6, locals := 102 }
def eX6_roomFor (σ : x_S) (a1 : Int32) : Option Nat := (x_or (eX6_requireGuest a1) (fun q1 => some q1) (Option.bind (fX6_requireGuest a1) fun r3 => (Option.bind (fX3_roomToOffer (σ 0) a1) fun r5 => (if r5 = (-1 : Int32) then (x_or (eX6_require (0 : Int32)) (fun q8 => some q8) (Option.bind (fX6_require (0 : Int32)) fun r10 => none)) else (x_or (eX6_require (1 : Int32)) (fun q12 => some q12) (Option.bind (fX6_require (1 : Int32)) fun r14 => none))))))
set_option maxHeartbeats 4000000 in
set_option maxRecDepth 100000 in
theorem xX6_roomFor (l : Launch) (hl0 : l.stackTraces = false) (X : x_T) (sz : Nat) (σ : x_S) (a1 : Int32) (r : Nat) (h : eX6_roomFor σ a1 = some r) : vx_Met l yX6_roomFor (x_ws yX6_roomFor cX6_roomFor 3 (some .int)) rx_X6_roomFor (x_PcT X σ sz [.ref (X.2.2 10 32), .int a1]) (xt_Qi X sz) (xt_C X r σ sz) 1 6 (x_A X sz) := by
  refine vx_ofW (cc := cX6_roomFor) (maxL := 3) (ret := (some .int)) (by decide) rfl ?_
  intro p e s m args below meth c s₁ B hml hnt hv
  obtain ⟨F, Z, hI, rfl, rfl⟩ := xt_begin hl0 B hml hnt hv
  replace F : x_F p s m _ meth c cX6_roomFor 3 RX6 (some .int) := F
  have hx := F.1
  have hb := F.2.1
  have hml := F.2.2.1
  have hown := F.2.2.2.1
  have hts := F.2.2.2.2.1
  refine x_entry (vs := [.ref (X.2.2 10 32), .int a1]) (n := 3) (Nat.le_of_ble_eq_true rfl) (fun ls hl => ?_)
  replace hl : lv_has ls 3 [(0, .ref (X.2.2 10 32)), (1, .int a1)] := hl
  unfold eX6_roomFor at h
  refine lv_iload_n hx hb dX6_roomFor_0 rfl (lv_at hl 1 rfl) ?_
  rcases x_or_el h with ⟨q1, h2, h⟩ | ⟨-, h⟩
  · rw [x_some h]
    exact xt_acv F Z hI (xt_runS (rest := []) F Z.2.1 hI (xX6_requireGuest l Z.1 X σ _ a1 q1 h2) g_X6_41 hd_X6_requireGuest ⟨by decide, by decide⟩ ⟨rfl, rfl⟩ rfl hl.1 rfl (Nat.le_of_ble_eq_true rfl) dX6_roomFor_1 ⟨by decide, by decide⟩)
  · obtain ⟨r3, h4, h⟩ := x_bnd h
    refine x_acv hI (x_runS (rest := []) F hI (mX6_requireGuest l X σ _ a1 r3 h4) g_X6_41 hd_X6_requireGuest ⟨by decide, by decide⟩ ⟨rfl, rfl⟩ rfl hl.1 rfl (Nat.le_of_ble_eq_true rfl) dX6_roomFor_1 ⟨Nat.zero_le _, Nat.zero_le _⟩) (fun H locs hI => ?_)
    refine lv_aload_n hx hb dX6_roomFor_4 rfl (lv_at hl 0 rfl) ?_
    refine xsg_6_0 F hI (x_inO (by decide)) u_fl_X6_12 dX6_roomFor_5 ?_
    refine xsg_2_1 F hI (x_inH (show 0 < 10 by decide) (by decide)) u_fl_X6_91 dX6_roomFor_8 ?_
    refine lv_iload_n hx hb dX6_roomFor_11 rfl (lv_at hl 1 rfl) ?_
    obtain ⟨r5, h6, h⟩ := x_bnd h
    have hI := x_toH 0 hI
    refine x_aci hI (x_runV (rest := []) F hI (mX3_roomToOffer l X σ 0 (show 0 < 10 by decide) _ (σ 0) a1 r5 h6) g_X6_205 ⟨rfl, hd_X3_roomToOffer⟩ ⟨by decide, by decide⟩ ⟨rfl, rfl⟩ (x_inH (show 0 < 10 by decide) (by decide)) rfl rfl rfl rfl hl.1 rfl (Nat.le_of_ble_eq_true rfl) dX6_roomFor_12 ⟨Nat.zero_le _, Nat.zero_le _⟩) (fun H locs hI => ?_)
    rw [x_sh_self] at hI
    refine lv_istore_n (lv' := [(2, .int r5), (0, .ref (X.2.2 10 32)), (1, .int a1)]) hx hb dX6_roomFor_15 rfl hl (by decide) rfl (fun ls hl => ?_)
    refine lv_iload_n hx hb dX6_roomFor_16 rfl (lv_at hl 0 rfl) ?_
    refine lv_iconst (v := (-1)) hx hb dX6_roomFor_17 (by decide) ?_
    refine lv_icmp_eq (tgt := 25) hx hb dX6_roomFor_18 (by decide) (fun c7 => ?_) (fun c7 => ?_)
    · have h := x_ift h c7
      refine lv_iconst (v := 0) hx hb dX6_roomFor_25 (by decide) ?_
      rcases x_or_el h with ⟨q8, h9, h⟩ | ⟨-, h⟩
      · rw [x_some h]
        exact xt_acv F Z hI (xt_runS (rest := []) F Z.2.1 hI (xX6_require l Z.1 X σ _ (0 : Int32) q8 h9) g_X6_55 hd_X6_require ⟨by decide, by decide⟩ ⟨rfl, rfl⟩ rfl hl.1 rfl (Nat.le_of_ble_eq_true rfl) dX6_roomFor_26 ⟨by decide, by decide⟩)
      · obtain ⟨r10, h11, h⟩ := x_bnd h
        refine x_acv hI (x_runS (rest := []) F hI (mX6_require l X σ _ (0 : Int32) r10 h11) g_X6_55 hd_X6_require ⟨by decide, by decide⟩ ⟨rfl, rfl⟩ rfl hl.1 rfl (Nat.le_of_ble_eq_true rfl) dX6_roomFor_26 ⟨Nat.zero_le _, Nat.zero_le _⟩) (fun H locs hI => ?_)
        cases h
    · have h := x_iff h c7
      refine lv_iconst (v := 1) hx hb dX6_roomFor_21 (by decide) ?_
      refine lv_goto (tgt := 26) hx hb dX6_roomFor_22 (by decide) ?_
      rcases x_or_el h with ⟨q12, h13, h⟩ | ⟨-, h⟩
      · rw [x_some h]
        exact xt_acv F Z hI (xt_runS (rest := []) F Z.2.1 hI (xX6_require l Z.1 X σ _ (1 : Int32) q12 h13) g_X6_55 hd_X6_require ⟨by decide, by decide⟩ ⟨rfl, rfl⟩ rfl hl.1 rfl (Nat.le_of_ble_eq_true rfl) dX6_roomFor_26 ⟨by decide, by decide⟩)
      · obtain ⟨r14, h15, h⟩ := x_bnd h
        refine x_acv hI (x_runS (rest := []) F hI (mX6_require l X σ _ (1 : Int32) r14 h15) g_X6_55 hd_X6_require ⟨by decide, by decide⟩ ⟨rfl, rfl⟩ rfl hl.1 rfl (Nat.le_of_ble_eq_true rfl) dX6_roomFor_26 ⟨Nat.zero_le _, Nat.zero_le _⟩) (fun H locs hI => ?_)
        cases h
abbrev rm_X6_nextFreeByRooms : Room := { frames := 3, cells := 0, slots := 0, locals := 66 }
def fX6_nextFreeByRooms (σ : x_S) : Option Int32 := (Option.bind (fX3_leastTicksUntilFree (σ 0) (σ 0 0 0)) fun r1 => (if r1 ≤ 0 then (Option.bind (fX6_require (0 : Int32)) fun r4 => some (r1)) else (Option.bind (fX6_require (1 : Int32)) fun r6 => some (r1))))
set_option maxHeartbeats 4000000 in
set_option maxRecDepth 100000 in
theorem mX6_nextFreeByRooms (l : Launch) (X : x_T) (sz : Nat) (σ : x_S) (r : Int32) (h : fX6_nextFreeByRooms σ  = some r) : Met l yX6_nextFreeByRooms (x_ws yX6_nextFreeByRooms cX6_nextFreeByRooms 2 (some .int)) rm_X6_nextFreeByRooms (x_Pc X σ sz [.ref (X.2.2 10 32)]) (x_Qi X r σ sz) 0 0 (x_A X sz) := by
  refine Met.ofW (cc := cX6_nextFreeByRooms) (maxL := 2) (ret := (some .int)) (by decide) rfl ?_
  intro p e s m args below meth c s₁ B hml hv
  obtain ⟨F, hI, rfl, rfl⟩ := x_begin B hml hv
  replace F : x_F p s m _ meth c cX6_nextFreeByRooms 2 RX6 (some .int) := F
  have hx := F.1
  have hb := F.2.1
  have hml := F.2.2.1
  have hown := F.2.2.2.1
  have hts := F.2.2.2.2.1
  refine x_entry (vs := [.ref (X.2.2 10 32)]) (n := 2) (Nat.le_of_ble_eq_true rfl) (fun ls hl => ?_)
  replace hl : lv_has ls 2 [(0, .ref (X.2.2 10 32))] := hl
  unfold fX6_nextFreeByRooms at h
  refine lv_aload_n hx hb dX6_nextFreeByRooms_0 rfl (lv_at hl 0 rfl) ?_
  refine xsg_6_0 F hI (x_inO (by decide)) u_fl_X6_12 dX6_nextFreeByRooms_1 ?_
  refine xsg_2_1 F hI (x_inH (show 0 < 10 by decide) (by decide)) u_fl_X6_91 dX6_nextFreeByRooms_4 ?_
  refine lv_aload_n hx hb dX6_nextFreeByRooms_7 rfl (lv_at hl 0 rfl) ?_
  refine xsg_6_0 F hI (x_inO (by decide)) u_fl_X6_12 dX6_nextFreeByRooms_8 ?_
  refine xsg_2_4 F hI (x_inH (show 0 < 10 by decide) (by decide)) u_fl_X6_180 dX6_nextFreeByRooms_11 ?_
  obtain ⟨r1, h2, h⟩ := x_bnd h
  have hI := x_toH 0 hI
  refine x_aci hI (x_runV (rest := []) F hI (mX3_leastTicksUntilFree l X σ 0 (show 0 < 10 by decide) _ (σ 0) (σ 0 0 0) r1 h2) g_X6_214 ⟨rfl, hd_X3_leastTicksUntilFree⟩ ⟨by decide, by decide⟩ ⟨rfl, rfl⟩ (x_inH (show 0 < 10 by decide) (by decide)) rfl rfl rfl rfl hl.1 rfl (Nat.le_of_ble_eq_true rfl) dX6_nextFreeByRooms_14 ⟨Nat.zero_le _, Nat.zero_le _⟩) (fun H locs hI => ?_)
  rw [x_sh_self] at hI
  refine lv_istore_n (lv' := [(1, .int r1), (0, .ref (X.2.2 10 32))]) hx hb dX6_nextFreeByRooms_17 rfl hl (by decide) rfl (fun ls hl => ?_)
  refine lv_iload_n hx hb dX6_nextFreeByRooms_18 rfl (lv_at hl 0 rfl) ?_
  refine lv_if_le (tgt := 26) hx hb dX6_nextFreeByRooms_19 (by decide) (fun c3 => ?_) (fun c3 => ?_)
  · have h := x_ift h c3
    refine lv_iconst (v := 0) hx hb dX6_nextFreeByRooms_26 (by decide) ?_
    obtain ⟨r4, h5, h⟩ := x_bnd h
    refine x_acv hI (x_runS (rest := []) F hI (mX6_require l X σ _ (0 : Int32) r4 h5) g_X6_55 hd_X6_require ⟨by decide, by decide⟩ ⟨rfl, rfl⟩ rfl hl.1 rfl (Nat.le_of_ble_eq_true rfl) dX6_nextFreeByRooms_27 ⟨Nat.zero_le _, Nat.zero_le _⟩) (fun H locs hI => ?_)
    refine lv_iload_n hx hb dX6_nextFreeByRooms_30 rfl (lv_at hl 0 rfl) ?_
    rw [x_some h]
    exact x_iret F hI dX6_nextFreeByRooms_31
  · have h := x_iff h c3
    refine lv_iconst (v := 1) hx hb dX6_nextFreeByRooms_22 (by decide) ?_
    refine lv_goto (tgt := 27) hx hb dX6_nextFreeByRooms_23 (by decide) ?_
    obtain ⟨r6, h7, h⟩ := x_bnd h
    refine x_acv hI (x_runS (rest := []) F hI (mX6_require l X σ _ (1 : Int32) r6 h7) g_X6_55 hd_X6_require ⟨by decide, by decide⟩ ⟨rfl, rfl⟩ rfl hl.1 rfl (Nat.le_of_ble_eq_true rfl) dX6_nextFreeByRooms_27 ⟨Nat.zero_le _, Nat.zero_le _⟩) (fun H locs hI => ?_)
    refine lv_iload_n hx hb dX6_nextFreeByRooms_30 rfl (lv_at hl 0 rfl) ?_
    rw [x_some h]
    exact x_iret F hI dX6_nextFreeByRooms_31
abbrev rx_X6_nextFreeByRooms : Room := { frames := 7, cells := 1, slots := 6, locals := 102 }
def eX6_nextFreeByRooms (σ : x_S) : Option Nat := (Option.bind (fX3_leastTicksUntilFree (σ 0) (σ 0 0 0)) fun r1 => (if r1 ≤ 0 then (x_or (eX6_require (0 : Int32)) (fun q4 => some q4) (Option.bind (fX6_require (0 : Int32)) fun r6 => none)) else (x_or (eX6_require (1 : Int32)) (fun q8 => some q8) (Option.bind (fX6_require (1 : Int32)) fun r10 => none))))
set_option maxHeartbeats 4000000 in
set_option maxRecDepth 100000 in
theorem xX6_nextFreeByRooms (l : Launch) (hl0 : l.stackTraces = false) (X : x_T) (sz : Nat) (σ : x_S) (r : Nat) (h : eX6_nextFreeByRooms σ  = some r) : vx_Met l yX6_nextFreeByRooms (x_ws yX6_nextFreeByRooms cX6_nextFreeByRooms 2 (some .int)) rx_X6_nextFreeByRooms (x_PcT X σ sz [.ref (X.2.2 10 32)]) (xt_Qi X sz) (xt_C X r σ sz) 1 6 (x_A X sz) := by
  refine vx_ofW (cc := cX6_nextFreeByRooms) (maxL := 2) (ret := (some .int)) (by decide) rfl ?_
  intro p e s m args below meth c s₁ B hml hnt hv
  obtain ⟨F, Z, hI, rfl, rfl⟩ := xt_begin hl0 B hml hnt hv
  replace F : x_F p s m _ meth c cX6_nextFreeByRooms 2 RX6 (some .int) := F
  have hx := F.1
  have hb := F.2.1
  have hml := F.2.2.1
  have hown := F.2.2.2.1
  have hts := F.2.2.2.2.1
  refine x_entry (vs := [.ref (X.2.2 10 32)]) (n := 2) (Nat.le_of_ble_eq_true rfl) (fun ls hl => ?_)
  replace hl : lv_has ls 2 [(0, .ref (X.2.2 10 32))] := hl
  unfold eX6_nextFreeByRooms at h
  refine lv_aload_n hx hb dX6_nextFreeByRooms_0 rfl (lv_at hl 0 rfl) ?_
  refine xsg_6_0 F hI (x_inO (by decide)) u_fl_X6_12 dX6_nextFreeByRooms_1 ?_
  refine xsg_2_1 F hI (x_inH (show 0 < 10 by decide) (by decide)) u_fl_X6_91 dX6_nextFreeByRooms_4 ?_
  refine lv_aload_n hx hb dX6_nextFreeByRooms_7 rfl (lv_at hl 0 rfl) ?_
  refine xsg_6_0 F hI (x_inO (by decide)) u_fl_X6_12 dX6_nextFreeByRooms_8 ?_
  refine xsg_2_4 F hI (x_inH (show 0 < 10 by decide) (by decide)) u_fl_X6_180 dX6_nextFreeByRooms_11 ?_
  obtain ⟨r1, h2, h⟩ := x_bnd h
  have hI := x_toH 0 hI
  refine x_aci hI (x_runV (rest := []) F hI (mX3_leastTicksUntilFree l X σ 0 (show 0 < 10 by decide) _ (σ 0) (σ 0 0 0) r1 h2) g_X6_214 ⟨rfl, hd_X3_leastTicksUntilFree⟩ ⟨by decide, by decide⟩ ⟨rfl, rfl⟩ (x_inH (show 0 < 10 by decide) (by decide)) rfl rfl rfl rfl hl.1 rfl (Nat.le_of_ble_eq_true rfl) dX6_nextFreeByRooms_14 ⟨Nat.zero_le _, Nat.zero_le _⟩) (fun H locs hI => ?_)
  rw [x_sh_self] at hI
  refine lv_istore_n (lv' := [(1, .int r1), (0, .ref (X.2.2 10 32))]) hx hb dX6_nextFreeByRooms_17 rfl hl (by decide) rfl (fun ls hl => ?_)
  refine lv_iload_n hx hb dX6_nextFreeByRooms_18 rfl (lv_at hl 0 rfl) ?_
  refine lv_if_le (tgt := 26) hx hb dX6_nextFreeByRooms_19 (by decide) (fun c3 => ?_) (fun c3 => ?_)
  · have h := x_ift h c3
    refine lv_iconst (v := 0) hx hb dX6_nextFreeByRooms_26 (by decide) ?_
    rcases x_or_el h with ⟨q4, h5, h⟩ | ⟨-, h⟩
    · rw [x_some h]
      exact xt_acv F Z hI (xt_runS (rest := []) F Z.2.1 hI (xX6_require l Z.1 X σ _ (0 : Int32) q4 h5) g_X6_55 hd_X6_require ⟨by decide, by decide⟩ ⟨rfl, rfl⟩ rfl hl.1 rfl (Nat.le_of_ble_eq_true rfl) dX6_nextFreeByRooms_27 ⟨by decide, by decide⟩)
    · obtain ⟨r6, h7, h⟩ := x_bnd h
      refine x_acv hI (x_runS (rest := []) F hI (mX6_require l X σ _ (0 : Int32) r6 h7) g_X6_55 hd_X6_require ⟨by decide, by decide⟩ ⟨rfl, rfl⟩ rfl hl.1 rfl (Nat.le_of_ble_eq_true rfl) dX6_nextFreeByRooms_27 ⟨Nat.zero_le _, Nat.zero_le _⟩) (fun H locs hI => ?_)
      cases h
  · have h := x_iff h c3
    refine lv_iconst (v := 1) hx hb dX6_nextFreeByRooms_22 (by decide) ?_
    refine lv_goto (tgt := 27) hx hb dX6_nextFreeByRooms_23 (by decide) ?_
    rcases x_or_el h with ⟨q8, h9, h⟩ | ⟨-, h⟩
    · rw [x_some h]
      exact xt_acv F Z hI (xt_runS (rest := []) F Z.2.1 hI (xX6_require l Z.1 X σ _ (1 : Int32) q8 h9) g_X6_55 hd_X6_require ⟨by decide, by decide⟩ ⟨rfl, rfl⟩ rfl hl.1 rfl (Nat.le_of_ble_eq_true rfl) dX6_nextFreeByRooms_27 ⟨by decide, by decide⟩)
    · obtain ⟨r10, h11, h⟩ := x_bnd h
      refine x_acv hI (x_runS (rest := []) F hI (mX6_require l X σ _ (1 : Int32) r10 h11) g_X6_55 hd_X6_require ⟨by decide, by decide⟩ ⟨rfl, rfl⟩ rfl hl.1 rfl (Nat.le_of_ble_eq_true rfl) dX6_nextFreeByRooms_27 ⟨Nat.zero_le _, Nat.zero_le _⟩) (fun H locs hI => ?_)
      cases h
abbrev rm_X6_nextFreeByTicks : Room := { frames := 4, cells := 0, slots := 0, locals := 89 }
def fX6_nextFreeByTicks (σ : x_S) : Option (Int32 × x_S) := (Option.bind (fX6_tryTicksUntilFree σ ) fun r1 => (if r1.1 ≤ 0 then (Option.bind (fX6_require (0 : Int32)) fun r4 => some (r1.1, r1.2)) else (Option.bind (fX6_require (1 : Int32)) fun r6 => some (r1.1, r1.2))))
set_option maxHeartbeats 4000000 in
set_option maxRecDepth 100000 in
theorem mX6_nextFreeByTicks (l : Launch) (X : x_T) (sz : Nat) (σ : x_S) (r : (Int32 × x_S)) (h : fX6_nextFreeByTicks σ  = some r) : Met l yX6_nextFreeByTicks (x_ws yX6_nextFreeByTicks cX6_nextFreeByTicks 2 (some .int)) rm_X6_nextFreeByTicks (x_Pc X σ sz [.ref (X.2.2 10 32)]) (x_Qi X r.1 r.2 sz) 0 0 (x_A X sz) := by
  refine Met.ofW (cc := cX6_nextFreeByTicks) (maxL := 2) (ret := (some .int)) (by decide) rfl ?_
  intro p e s m args below meth c s₁ B hml hv
  obtain ⟨F, hI, rfl, rfl⟩ := x_begin B hml hv
  replace F : x_F p s m _ meth c cX6_nextFreeByTicks 2 RX6 (some .int) := F
  have hx := F.1
  have hb := F.2.1
  have hml := F.2.2.1
  have hown := F.2.2.2.1
  have hts := F.2.2.2.2.1
  refine x_entry (vs := [.ref (X.2.2 10 32)]) (n := 2) (Nat.le_of_ble_eq_true rfl) (fun ls hl => ?_)
  replace hl : lv_has ls 2 [(0, .ref (X.2.2 10 32))] := hl
  unfold fX6_nextFreeByTicks at h
  refine lv_aload_n hx hb dX6_nextFreeByTicks_0 rfl (lv_at hl 0 rfl) ?_
  obtain ⟨r1, h2, h⟩ := x_bnd h
  refine x_aci hI (x_runV (rest := []) F hI (mX6_tryTicksUntilFree l X _ σ  r1 h2) g_X6_217 ⟨rfl, hd_X6_tryTicksUntilFree⟩ ⟨by decide, by decide⟩ ⟨rfl, rfl⟩ (x_inO (by decide)) rfl rfl rfl rfl hl.1 rfl (Nat.le_of_ble_eq_true rfl) dX6_nextFreeByTicks_1 ⟨Nat.zero_le _, Nat.zero_le _⟩) (fun H locs hI => ?_)
  refine lv_istore_n (lv' := [(1, .int r1.1), (0, .ref (X.2.2 10 32))]) hx hb dX6_nextFreeByTicks_4 rfl hl (by decide) rfl (fun ls hl => ?_)
  refine lv_iload_n hx hb dX6_nextFreeByTicks_5 rfl (lv_at hl 0 rfl) ?_
  refine lv_if_le (tgt := 13) hx hb dX6_nextFreeByTicks_6 (by decide) (fun c3 => ?_) (fun c3 => ?_)
  · have h := x_ift h c3
    refine lv_iconst (v := 0) hx hb dX6_nextFreeByTicks_13 (by decide) ?_
    obtain ⟨r4, h5, h⟩ := x_bnd h
    refine x_acv hI (x_runS (rest := []) F hI (mX6_require l X r1.2 _ (0 : Int32) r4 h5) g_X6_55 hd_X6_require ⟨by decide, by decide⟩ ⟨rfl, rfl⟩ rfl hl.1 rfl (Nat.le_of_ble_eq_true rfl) dX6_nextFreeByTicks_14 ⟨Nat.zero_le _, Nat.zero_le _⟩) (fun H locs hI => ?_)
    refine lv_iload_n hx hb dX6_nextFreeByTicks_17 rfl (lv_at hl 0 rfl) ?_
    rw [x_some h]
    exact x_iret F hI dX6_nextFreeByTicks_18
  · have h := x_iff h c3
    refine lv_iconst (v := 1) hx hb dX6_nextFreeByTicks_9 (by decide) ?_
    refine lv_goto (tgt := 14) hx hb dX6_nextFreeByTicks_10 (by decide) ?_
    obtain ⟨r6, h7, h⟩ := x_bnd h
    refine x_acv hI (x_runS (rest := []) F hI (mX6_require l X r1.2 _ (1 : Int32) r6 h7) g_X6_55 hd_X6_require ⟨by decide, by decide⟩ ⟨rfl, rfl⟩ rfl hl.1 rfl (Nat.le_of_ble_eq_true rfl) dX6_nextFreeByTicks_14 ⟨Nat.zero_le _, Nat.zero_le _⟩) (fun H locs hI => ?_)
    refine lv_iload_n hx hb dX6_nextFreeByTicks_17 rfl (lv_at hl 0 rfl) ?_
    rw [x_some h]
    exact x_iret F hI dX6_nextFreeByTicks_18
abbrev rx_X6_nextFreeByTicks : Room := { frames := 7, cells := 1, slots := 6, locals := 102 }
def eX6_nextFreeByTicks (σ : x_S) : Option (Nat × x_S) := (Option.bind (fX6_tryTicksUntilFree σ ) fun r1 => (if r1.1 ≤ 0 then (x_or (eX6_require (0 : Int32)) (fun q4 => some (q4, r1.2)) (Option.bind (fX6_require (0 : Int32)) fun r6 => none)) else (x_or (eX6_require (1 : Int32)) (fun q8 => some (q8, r1.2)) (Option.bind (fX6_require (1 : Int32)) fun r10 => none))))
set_option maxHeartbeats 4000000 in
set_option maxRecDepth 100000 in
theorem xX6_nextFreeByTicks (l : Launch) (hl0 : l.stackTraces = false) (X : x_T) (sz : Nat) (σ : x_S) (r : (Nat × x_S)) (h : eX6_nextFreeByTicks σ  = some r) : vx_Met l yX6_nextFreeByTicks (x_ws yX6_nextFreeByTicks cX6_nextFreeByTicks 2 (some .int)) rx_X6_nextFreeByTicks (x_PcT X σ sz [.ref (X.2.2 10 32)]) (xt_Qi X sz) (xt_C X r.1 r.2 sz) 1 6 (x_A X sz) := by
  refine vx_ofW (cc := cX6_nextFreeByTicks) (maxL := 2) (ret := (some .int)) (by decide) rfl ?_
  intro p e s m args below meth c s₁ B hml hnt hv
  obtain ⟨F, Z, hI, rfl, rfl⟩ := xt_begin hl0 B hml hnt hv
  replace F : x_F p s m _ meth c cX6_nextFreeByTicks 2 RX6 (some .int) := F
  have hx := F.1
  have hb := F.2.1
  have hml := F.2.2.1
  have hown := F.2.2.2.1
  have hts := F.2.2.2.2.1
  refine x_entry (vs := [.ref (X.2.2 10 32)]) (n := 2) (Nat.le_of_ble_eq_true rfl) (fun ls hl => ?_)
  replace hl : lv_has ls 2 [(0, .ref (X.2.2 10 32))] := hl
  unfold eX6_nextFreeByTicks at h
  refine lv_aload_n hx hb dX6_nextFreeByTicks_0 rfl (lv_at hl 0 rfl) ?_
  obtain ⟨r1, h2, h⟩ := x_bnd h
  refine x_aci hI (x_runV (rest := []) F hI (mX6_tryTicksUntilFree l X _ σ  r1 h2) g_X6_217 ⟨rfl, hd_X6_tryTicksUntilFree⟩ ⟨by decide, by decide⟩ ⟨rfl, rfl⟩ (x_inO (by decide)) rfl rfl rfl rfl hl.1 rfl (Nat.le_of_ble_eq_true rfl) dX6_nextFreeByTicks_1 ⟨Nat.zero_le _, Nat.zero_le _⟩) (fun H locs hI => ?_)
  refine lv_istore_n (lv' := [(1, .int r1.1), (0, .ref (X.2.2 10 32))]) hx hb dX6_nextFreeByTicks_4 rfl hl (by decide) rfl (fun ls hl => ?_)
  refine lv_iload_n hx hb dX6_nextFreeByTicks_5 rfl (lv_at hl 0 rfl) ?_
  refine lv_if_le (tgt := 13) hx hb dX6_nextFreeByTicks_6 (by decide) (fun c3 => ?_) (fun c3 => ?_)
  · have h := x_ift h c3
    refine lv_iconst (v := 0) hx hb dX6_nextFreeByTicks_13 (by decide) ?_
    rcases x_or_el h with ⟨q4, h5, h⟩ | ⟨-, h⟩
    · rw [x_some h]
      exact xt_acv F Z hI (xt_runS (rest := []) F Z.2.1 hI (xX6_require l Z.1 X r1.2 _ (0 : Int32) q4 h5) g_X6_55 hd_X6_require ⟨by decide, by decide⟩ ⟨rfl, rfl⟩ rfl hl.1 rfl (Nat.le_of_ble_eq_true rfl) dX6_nextFreeByTicks_14 ⟨by decide, by decide⟩)
    · obtain ⟨r6, h7, h⟩ := x_bnd h
      refine x_acv hI (x_runS (rest := []) F hI (mX6_require l X r1.2 _ (0 : Int32) r6 h7) g_X6_55 hd_X6_require ⟨by decide, by decide⟩ ⟨rfl, rfl⟩ rfl hl.1 rfl (Nat.le_of_ble_eq_true rfl) dX6_nextFreeByTicks_14 ⟨Nat.zero_le _, Nat.zero_le _⟩) (fun H locs hI => ?_)
      cases h
  · have h := x_iff h c3
    refine lv_iconst (v := 1) hx hb dX6_nextFreeByTicks_9 (by decide) ?_
    refine lv_goto (tgt := 14) hx hb dX6_nextFreeByTicks_10 (by decide) ?_
    rcases x_or_el h with ⟨q8, h9, h⟩ | ⟨-, h⟩
    · rw [x_some h]
      exact xt_acv F Z hI (xt_runS (rest := []) F Z.2.1 hI (xX6_require l Z.1 X r1.2 _ (1 : Int32) q8 h9) g_X6_55 hd_X6_require ⟨by decide, by decide⟩ ⟨rfl, rfl⟩ rfl hl.1 rfl (Nat.le_of_ble_eq_true rfl) dX6_nextFreeByTicks_14 ⟨by decide, by decide⟩)
    · obtain ⟨r10, h11, h⟩ := x_bnd h
      refine x_acv hI (x_runS (rest := []) F hI (mX6_require l X r1.2 _ (1 : Int32) r10 h11) g_X6_55 hd_X6_require ⟨by decide, by decide⟩ ⟨rfl, rfl⟩ rfl hl.1 rfl (Nat.le_of_ble_eq_true rfl) dX6_nextFreeByTicks_14 ⟨Nat.zero_le _, Nat.zero_le _⟩) (fun H locs hI => ?_)
      cases h
abbrev rm_X6_kindAt : Room := { frames := 2, cells := 0, slots := 0, locals := 42 }
def fX6_kindAt (σ : x_S) (a1 : Int32) : Option Int32 := (Option.bind (fX6_requirePlace σ a1) fun r1 => (if x_in a1 60 then some (σ 0 19 (Int32.toNatClampNeg a1)) else none))
set_option maxHeartbeats 4000000 in
set_option maxRecDepth 100000 in
theorem mX6_kindAt (l : Launch) (X : x_T) (sz : Nat) (σ : x_S) (a1 : Int32) (r : Int32) (h : fX6_kindAt σ a1 = some r) : Met l yX6_kindAt (x_ws yX6_kindAt cX6_kindAt 2 (some .int)) rm_X6_kindAt (x_Pc X σ sz [.ref (X.2.2 10 32), .int a1]) (x_Qi X r σ sz) 0 0 (x_A X sz) := by
  refine Met.ofW (cc := cX6_kindAt) (maxL := 2) (ret := (some .int)) (by decide) rfl ?_
  intro p e s m args below meth c s₁ B hml hv
  obtain ⟨F, hI, rfl, rfl⟩ := x_begin B hml hv
  replace F : x_F p s m _ meth c cX6_kindAt 2 RX6 (some .int) := F
  have hx := F.1
  have hb := F.2.1
  have hml := F.2.2.1
  have hown := F.2.2.2.1
  have hts := F.2.2.2.2.1
  refine x_entry (vs := [.ref (X.2.2 10 32), .int a1]) (n := 2) (Nat.le_of_ble_eq_true rfl) (fun ls hl => ?_)
  replace hl : lv_has ls 2 [(0, .ref (X.2.2 10 32)), (1, .int a1)] := hl
  unfold fX6_kindAt at h
  refine lv_aload_n hx hb dX6_kindAt_0 rfl (lv_at hl 0 rfl) ?_
  refine lv_iload_n hx hb dX6_kindAt_1 rfl (lv_at hl 1 rfl) ?_
  obtain ⟨r1, h2, h⟩ := x_bnd h
  refine x_acv hI (x_runV (rest := []) F hI (mX6_requirePlace l X _ σ a1 r1 h2) g_X6_127 ⟨rfl, hd_X6_requirePlace⟩ ⟨by decide, by decide⟩ ⟨rfl, rfl⟩ (x_inO (by decide)) rfl rfl rfl rfl hl.1 rfl (Nat.le_of_ble_eq_true rfl) dX6_kindAt_2 ⟨Nat.zero_le _, Nat.zero_le _⟩) (fun H locs hI => ?_)
  refine lv_aload_n hx hb dX6_kindAt_5 rfl (lv_at hl 0 rfl) ?_
  refine xsg_6_0 F hI (x_inO (by decide)) u_fl_X6_12 dX6_kindAt_6 ?_
  refine xsg_2_2 F hI (x_inH (show 0 < 10 by decide) (by decide)) u_fl_X6_66 dX6_kindAt_9 ?_
  refine xsg_4_0 F hI (x_inH (show 0 < 10 by decide) (by decide)) u_fl_X6_220 dX6_kindAt_12 ?_
  refine lv_iload_n hx hb dX6_kindAt_15 rfl (lv_at hl 1 rfl) ?_
  obtain ⟨g3, h⟩ := x_chk h
  refine x_iald (n := 60) F hI (x_inH (show 0 < 10 by decide) (by decide)) (fun _ => rfl) g3 dX6_kindAt_16 ?_
  rw [x_some h]
  exact x_iret F hI dX6_kindAt_17
abbrev rx_X6_kindAt : Room := { frames := 7, cells := 1, slots := 6, locals := 103 }
def eX6_kindAt (σ : x_S) (a1 : Int32) : Option Nat := (x_or (eX6_requirePlace σ a1) (fun q1 => some q1) (Option.bind (fX6_requirePlace σ a1) fun r3 => none))
set_option maxHeartbeats 4000000 in
set_option maxRecDepth 100000 in
theorem xX6_kindAt (l : Launch) (hl0 : l.stackTraces = false) (X : x_T) (sz : Nat) (σ : x_S) (a1 : Int32) (r : Nat) (h : eX6_kindAt σ a1 = some r) : vx_Met l yX6_kindAt (x_ws yX6_kindAt cX6_kindAt 2 (some .int)) rx_X6_kindAt (x_PcT X σ sz [.ref (X.2.2 10 32), .int a1]) (xt_Qi X sz) (xt_C X r σ sz) 1 6 (x_A X sz) := by
  refine vx_ofW (cc := cX6_kindAt) (maxL := 2) (ret := (some .int)) (by decide) rfl ?_
  intro p e s m args below meth c s₁ B hml hnt hv
  obtain ⟨F, Z, hI, rfl, rfl⟩ := xt_begin hl0 B hml hnt hv
  replace F : x_F p s m _ meth c cX6_kindAt 2 RX6 (some .int) := F
  have hx := F.1
  have hb := F.2.1
  have hml := F.2.2.1
  have hown := F.2.2.2.1
  have hts := F.2.2.2.2.1
  refine x_entry (vs := [.ref (X.2.2 10 32), .int a1]) (n := 2) (Nat.le_of_ble_eq_true rfl) (fun ls hl => ?_)
  replace hl : lv_has ls 2 [(0, .ref (X.2.2 10 32)), (1, .int a1)] := hl
  unfold eX6_kindAt at h
  refine lv_aload_n hx hb dX6_kindAt_0 rfl (lv_at hl 0 rfl) ?_
  refine lv_iload_n hx hb dX6_kindAt_1 rfl (lv_at hl 1 rfl) ?_
  rcases x_or_el h with ⟨q1, h2, h⟩ | ⟨-, h⟩
  · rw [x_some h]
    exact xt_acv F Z hI (xt_runV (rest := []) F Z.2.1 hI (xX6_requirePlace l Z.1 X _ σ a1 q1 h2) g_X6_127 ⟨rfl, hd_X6_requirePlace⟩ ⟨by decide, by decide⟩ ⟨rfl, rfl⟩ (x_inO (by decide)) rfl rfl rfl rfl hl.1 rfl (Nat.le_of_ble_eq_true rfl) dX6_kindAt_2 ⟨by decide, by decide⟩)
  · obtain ⟨r3, h4, h⟩ := x_bnd h
    refine x_acv hI (x_runV (rest := []) F hI (mX6_requirePlace l X _ σ a1 r3 h4) g_X6_127 ⟨rfl, hd_X6_requirePlace⟩ ⟨by decide, by decide⟩ ⟨rfl, rfl⟩ (x_inO (by decide)) rfl rfl rfl rfl hl.1 rfl (Nat.le_of_ble_eq_true rfl) dX6_kindAt_2 ⟨Nat.zero_le _, Nat.zero_le _⟩) (fun H locs hI => ?_)
    cases h
abbrev rm_X6_guestAt : Room := { frames := 2, cells := 0, slots := 0, locals := 42 }
def fX6_guestAt (σ : x_S) (a1 : Int32) : Option Int32 := (Option.bind (fX6_requirePlace σ a1) fun r1 => (if x_in a1 60 then some (σ 0 20 (Int32.toNatClampNeg a1)) else none))
set_option maxHeartbeats 4000000 in
set_option maxRecDepth 100000 in
theorem mX6_guestAt (l : Launch) (X : x_T) (sz : Nat) (σ : x_S) (a1 : Int32) (r : Int32) (h : fX6_guestAt σ a1 = some r) : Met l yX6_guestAt (x_ws yX6_guestAt cX6_guestAt 2 (some .int)) rm_X6_guestAt (x_Pc X σ sz [.ref (X.2.2 10 32), .int a1]) (x_Qi X r σ sz) 0 0 (x_A X sz) := by
  refine Met.ofW (cc := cX6_guestAt) (maxL := 2) (ret := (some .int)) (by decide) rfl ?_
  intro p e s m args below meth c s₁ B hml hv
  obtain ⟨F, hI, rfl, rfl⟩ := x_begin B hml hv
  replace F : x_F p s m _ meth c cX6_guestAt 2 RX6 (some .int) := F
  have hx := F.1
  have hb := F.2.1
  have hml := F.2.2.1
  have hown := F.2.2.2.1
  have hts := F.2.2.2.2.1
  refine x_entry (vs := [.ref (X.2.2 10 32), .int a1]) (n := 2) (Nat.le_of_ble_eq_true rfl) (fun ls hl => ?_)
  replace hl : lv_has ls 2 [(0, .ref (X.2.2 10 32)), (1, .int a1)] := hl
  unfold fX6_guestAt at h
  refine lv_aload_n hx hb dX6_guestAt_0 rfl (lv_at hl 0 rfl) ?_
  refine lv_iload_n hx hb dX6_guestAt_1 rfl (lv_at hl 1 rfl) ?_
  obtain ⟨r1, h2, h⟩ := x_bnd h
  refine x_acv hI (x_runV (rest := []) F hI (mX6_requirePlace l X _ σ a1 r1 h2) g_X6_127 ⟨rfl, hd_X6_requirePlace⟩ ⟨by decide, by decide⟩ ⟨rfl, rfl⟩ (x_inO (by decide)) rfl rfl rfl rfl hl.1 rfl (Nat.le_of_ble_eq_true rfl) dX6_guestAt_2 ⟨Nat.zero_le _, Nat.zero_le _⟩) (fun H locs hI => ?_)
  refine lv_aload_n hx hb dX6_guestAt_5 rfl (lv_at hl 0 rfl) ?_
  refine xsg_6_0 F hI (x_inO (by decide)) u_fl_X6_12 dX6_guestAt_6 ?_
  refine xsg_2_2 F hI (x_inH (show 0 < 10 by decide) (by decide)) u_fl_X6_66 dX6_guestAt_9 ?_
  refine xsg_4_1 F hI (x_inH (show 0 < 10 by decide) (by decide)) u_fl_X6_223 dX6_guestAt_12 ?_
  refine lv_iload_n hx hb dX6_guestAt_15 rfl (lv_at hl 1 rfl) ?_
  obtain ⟨g3, h⟩ := x_chk h
  refine x_iald (n := 60) F hI (x_inH (show 0 < 10 by decide) (by decide)) (fun _ => rfl) g3 dX6_guestAt_16 ?_
  rw [x_some h]
  exact x_iret F hI dX6_guestAt_17
abbrev rx_X6_guestAt : Room := { frames := 7, cells := 1, slots := 6, locals := 103 }
def eX6_guestAt (σ : x_S) (a1 : Int32) : Option Nat := (x_or (eX6_requirePlace σ a1) (fun q1 => some q1) (Option.bind (fX6_requirePlace σ a1) fun r3 => none))
set_option maxHeartbeats 4000000 in
set_option maxRecDepth 100000 in
theorem xX6_guestAt (l : Launch) (hl0 : l.stackTraces = false) (X : x_T) (sz : Nat) (σ : x_S) (a1 : Int32) (r : Nat) (h : eX6_guestAt σ a1 = some r) : vx_Met l yX6_guestAt (x_ws yX6_guestAt cX6_guestAt 2 (some .int)) rx_X6_guestAt (x_PcT X σ sz [.ref (X.2.2 10 32), .int a1]) (xt_Qi X sz) (xt_C X r σ sz) 1 6 (x_A X sz) := by
  refine vx_ofW (cc := cX6_guestAt) (maxL := 2) (ret := (some .int)) (by decide) rfl ?_
  intro p e s m args below meth c s₁ B hml hnt hv
  obtain ⟨F, Z, hI, rfl, rfl⟩ := xt_begin hl0 B hml hnt hv
  replace F : x_F p s m _ meth c cX6_guestAt 2 RX6 (some .int) := F
  have hx := F.1
  have hb := F.2.1
  have hml := F.2.2.1
  have hown := F.2.2.2.1
  have hts := F.2.2.2.2.1
  refine x_entry (vs := [.ref (X.2.2 10 32), .int a1]) (n := 2) (Nat.le_of_ble_eq_true rfl) (fun ls hl => ?_)
  replace hl : lv_has ls 2 [(0, .ref (X.2.2 10 32)), (1, .int a1)] := hl
  unfold eX6_guestAt at h
  refine lv_aload_n hx hb dX6_guestAt_0 rfl (lv_at hl 0 rfl) ?_
  refine lv_iload_n hx hb dX6_guestAt_1 rfl (lv_at hl 1 rfl) ?_
  rcases x_or_el h with ⟨q1, h2, h⟩ | ⟨-, h⟩
  · rw [x_some h]
    exact xt_acv F Z hI (xt_runV (rest := []) F Z.2.1 hI (xX6_requirePlace l Z.1 X _ σ a1 q1 h2) g_X6_127 ⟨rfl, hd_X6_requirePlace⟩ ⟨by decide, by decide⟩ ⟨rfl, rfl⟩ (x_inO (by decide)) rfl rfl rfl rfl hl.1 rfl (Nat.le_of_ble_eq_true rfl) dX6_guestAt_2 ⟨by decide, by decide⟩)
  · obtain ⟨r3, h4, h⟩ := x_bnd h
    refine x_acv hI (x_runV (rest := []) F hI (mX6_requirePlace l X _ σ a1 r3 h4) g_X6_127 ⟨rfl, hd_X6_requirePlace⟩ ⟨by decide, by decide⟩ ⟨rfl, rfl⟩ (x_inO (by decide)) rfl rfl rfl rfl hl.1 rfl (Nat.le_of_ble_eq_true rfl) dX6_guestAt_2 ⟨Nat.zero_le _, Nat.zero_le _⟩) (fun H locs hI => ?_)
    cases h
abbrev rm_X6_roomAt : Room := { frames := 2, cells := 0, slots := 0, locals := 42 }
def fX6_roomAt (σ : x_S) (a1 : Int32) : Option Int32 := (Option.bind (fX6_requirePlace σ a1) fun r1 => (if x_in a1 60 then (if (σ 0 21 (Int32.toNatClampNeg a1)) = (-1 : Int32) then (Option.bind (fX6_require (0 : Int32)) fun r5 => some (σ 0 21 (Int32.toNatClampNeg a1))) else (Option.bind (fX6_require (1 : Int32)) fun r7 => some (σ 0 21 (Int32.toNatClampNeg a1)))) else none))
set_option maxHeartbeats 4000000 in
set_option maxRecDepth 100000 in
theorem mX6_roomAt (l : Launch) (X : x_T) (sz : Nat) (σ : x_S) (a1 : Int32) (r : Int32) (h : fX6_roomAt σ a1 = some r) : Met l yX6_roomAt (x_ws yX6_roomAt cX6_roomAt 2 (some .int)) rm_X6_roomAt (x_Pc X σ sz [.ref (X.2.2 10 32), .int a1]) (x_Qi X r σ sz) 0 0 (x_A X sz) := by
  refine Met.ofW (cc := cX6_roomAt) (maxL := 2) (ret := (some .int)) (by decide) rfl ?_
  intro p e s m args below meth c s₁ B hml hv
  obtain ⟨F, hI, rfl, rfl⟩ := x_begin B hml hv
  replace F : x_F p s m _ meth c cX6_roomAt 2 RX6 (some .int) := F
  have hx := F.1
  have hb := F.2.1
  have hml := F.2.2.1
  have hown := F.2.2.2.1
  have hts := F.2.2.2.2.1
  refine x_entry (vs := [.ref (X.2.2 10 32), .int a1]) (n := 2) (Nat.le_of_ble_eq_true rfl) (fun ls hl => ?_)
  replace hl : lv_has ls 2 [(0, .ref (X.2.2 10 32)), (1, .int a1)] := hl
  unfold fX6_roomAt at h
  refine lv_aload_n hx hb dX6_roomAt_0 rfl (lv_at hl 0 rfl) ?_
  refine lv_iload_n hx hb dX6_roomAt_1 rfl (lv_at hl 1 rfl) ?_
  obtain ⟨r1, h2, h⟩ := x_bnd h
  refine x_acv hI (x_runV (rest := []) F hI (mX6_requirePlace l X _ σ a1 r1 h2) g_X6_127 ⟨rfl, hd_X6_requirePlace⟩ ⟨by decide, by decide⟩ ⟨rfl, rfl⟩ (x_inO (by decide)) rfl rfl rfl rfl hl.1 rfl (Nat.le_of_ble_eq_true rfl) dX6_roomAt_2 ⟨Nat.zero_le _, Nat.zero_le _⟩) (fun H locs hI => ?_)
  refine lv_aload_n hx hb dX6_roomAt_5 rfl (lv_at hl 0 rfl) ?_
  refine xsg_6_0 F hI (x_inO (by decide)) u_fl_X6_12 dX6_roomAt_6 ?_
  refine xsg_2_2 F hI (x_inH (show 0 < 10 by decide) (by decide)) u_fl_X6_66 dX6_roomAt_9 ?_
  refine xsg_4_2 F hI (x_inH (show 0 < 10 by decide) (by decide)) u_fl_X6_224 dX6_roomAt_12 ?_
  refine lv_iload_n hx hb dX6_roomAt_15 rfl (lv_at hl 1 rfl) ?_
  obtain ⟨g3, h⟩ := x_chk h
  refine x_iald (n := 60) F hI (x_inH (show 0 < 10 by decide) (by decide)) (fun _ => rfl) g3 dX6_roomAt_16 ?_
  refine lv_iconst (v := (-1)) hx hb dX6_roomAt_17 (by decide) ?_
  refine lv_icmp_eq (tgt := 25) hx hb dX6_roomAt_18 (by decide) (fun c4 => ?_) (fun c4 => ?_)
  · have h := x_ift h c4
    refine lv_iconst (v := 0) hx hb dX6_roomAt_25 (by decide) ?_
    obtain ⟨r5, h6, h⟩ := x_bnd h
    refine x_acv hI (x_runS (rest := []) F hI (mX6_require l X σ _ (0 : Int32) r5 h6) g_X6_55 hd_X6_require ⟨by decide, by decide⟩ ⟨rfl, rfl⟩ rfl hl.1 rfl (Nat.le_of_ble_eq_true rfl) dX6_roomAt_26 ⟨Nat.zero_le _, Nat.zero_le _⟩) (fun H locs hI => ?_)
    refine lv_aload_n hx hb dX6_roomAt_29 rfl (lv_at hl 0 rfl) ?_
    refine xsg_6_0 F hI (x_inO (by decide)) u_fl_X6_12 dX6_roomAt_30 ?_
    refine xsg_2_2 F hI (x_inH (show 0 < 10 by decide) (by decide)) u_fl_X6_66 dX6_roomAt_33 ?_
    refine xsg_4_2 F hI (x_inH (show 0 < 10 by decide) (by decide)) u_fl_X6_224 dX6_roomAt_36 ?_
    refine lv_iload_n hx hb dX6_roomAt_39 rfl (lv_at hl 1 rfl) ?_
    refine x_iald (n := 60) F hI (x_inH (show 0 < 10 by decide) (by decide)) (fun _ => rfl) g3 dX6_roomAt_40 ?_
    rw [x_some h]
    exact x_iret F hI dX6_roomAt_41
  · have h := x_iff h c4
    refine lv_iconst (v := 1) hx hb dX6_roomAt_21 (by decide) ?_
    refine lv_goto (tgt := 26) hx hb dX6_roomAt_22 (by decide) ?_
    obtain ⟨r7, h8, h⟩ := x_bnd h
    refine x_acv hI (x_runS (rest := []) F hI (mX6_require l X σ _ (1 : Int32) r7 h8) g_X6_55 hd_X6_require ⟨by decide, by decide⟩ ⟨rfl, rfl⟩ rfl hl.1 rfl (Nat.le_of_ble_eq_true rfl) dX6_roomAt_26 ⟨Nat.zero_le _, Nat.zero_le _⟩) (fun H locs hI => ?_)
    refine lv_aload_n hx hb dX6_roomAt_29 rfl (lv_at hl 0 rfl) ?_
    refine xsg_6_0 F hI (x_inO (by decide)) u_fl_X6_12 dX6_roomAt_30 ?_
    refine xsg_2_2 F hI (x_inH (show 0 < 10 by decide) (by decide)) u_fl_X6_66 dX6_roomAt_33 ?_
    refine xsg_4_2 F hI (x_inH (show 0 < 10 by decide) (by decide)) u_fl_X6_224 dX6_roomAt_36 ?_
    refine lv_iload_n hx hb dX6_roomAt_39 rfl (lv_at hl 1 rfl) ?_
    refine x_iald (n := 60) F hI (x_inH (show 0 < 10 by decide) (by decide)) (fun _ => rfl) g3 dX6_roomAt_40 ?_
    rw [x_some h]
    exact x_iret F hI dX6_roomAt_41
abbrev rx_X6_roomAt : Room := { frames := 7, cells := 1, slots := 6, locals := 103 }
def eX6_roomAt (σ : x_S) (a1 : Int32) : Option Nat := (x_or (eX6_requirePlace σ a1) (fun q1 => some q1) (Option.bind (fX6_requirePlace σ a1) fun r3 => (if x_in a1 60 then (if (σ 0 21 (Int32.toNatClampNeg a1)) = (-1 : Int32) then (x_or (eX6_require (0 : Int32)) (fun q7 => some q7) (Option.bind (fX6_require (0 : Int32)) fun r9 => none)) else (x_or (eX6_require (1 : Int32)) (fun q11 => some q11) (Option.bind (fX6_require (1 : Int32)) fun r13 => none))) else none)))
set_option maxHeartbeats 4000000 in
set_option maxRecDepth 100000 in
theorem xX6_roomAt (l : Launch) (hl0 : l.stackTraces = false) (X : x_T) (sz : Nat) (σ : x_S) (a1 : Int32) (r : Nat) (h : eX6_roomAt σ a1 = some r) : vx_Met l yX6_roomAt (x_ws yX6_roomAt cX6_roomAt 2 (some .int)) rx_X6_roomAt (x_PcT X σ sz [.ref (X.2.2 10 32), .int a1]) (xt_Qi X sz) (xt_C X r σ sz) 1 6 (x_A X sz) := by
  refine vx_ofW (cc := cX6_roomAt) (maxL := 2) (ret := (some .int)) (by decide) rfl ?_
  intro p e s m args below meth c s₁ B hml hnt hv
  obtain ⟨F, Z, hI, rfl, rfl⟩ := xt_begin hl0 B hml hnt hv
  replace F : x_F p s m _ meth c cX6_roomAt 2 RX6 (some .int) := F
  have hx := F.1
  have hb := F.2.1
  have hml := F.2.2.1
  have hown := F.2.2.2.1
  have hts := F.2.2.2.2.1
  refine x_entry (vs := [.ref (X.2.2 10 32), .int a1]) (n := 2) (Nat.le_of_ble_eq_true rfl) (fun ls hl => ?_)
  replace hl : lv_has ls 2 [(0, .ref (X.2.2 10 32)), (1, .int a1)] := hl
  unfold eX6_roomAt at h
  refine lv_aload_n hx hb dX6_roomAt_0 rfl (lv_at hl 0 rfl) ?_
  refine lv_iload_n hx hb dX6_roomAt_1 rfl (lv_at hl 1 rfl) ?_
  rcases x_or_el h with ⟨q1, h2, h⟩ | ⟨-, h⟩
  · rw [x_some h]
    exact xt_acv F Z hI (xt_runV (rest := []) F Z.2.1 hI (xX6_requirePlace l Z.1 X _ σ a1 q1 h2) g_X6_127 ⟨rfl, hd_X6_requirePlace⟩ ⟨by decide, by decide⟩ ⟨rfl, rfl⟩ (x_inO (by decide)) rfl rfl rfl rfl hl.1 rfl (Nat.le_of_ble_eq_true rfl) dX6_roomAt_2 ⟨by decide, by decide⟩)
  · obtain ⟨r3, h4, h⟩ := x_bnd h
    refine x_acv hI (x_runV (rest := []) F hI (mX6_requirePlace l X _ σ a1 r3 h4) g_X6_127 ⟨rfl, hd_X6_requirePlace⟩ ⟨by decide, by decide⟩ ⟨rfl, rfl⟩ (x_inO (by decide)) rfl rfl rfl rfl hl.1 rfl (Nat.le_of_ble_eq_true rfl) dX6_roomAt_2 ⟨Nat.zero_le _, Nat.zero_le _⟩) (fun H locs hI => ?_)
    refine lv_aload_n hx hb dX6_roomAt_5 rfl (lv_at hl 0 rfl) ?_
    refine xsg_6_0 F hI (x_inO (by decide)) u_fl_X6_12 dX6_roomAt_6 ?_
    refine xsg_2_2 F hI (x_inH (show 0 < 10 by decide) (by decide)) u_fl_X6_66 dX6_roomAt_9 ?_
    refine xsg_4_2 F hI (x_inH (show 0 < 10 by decide) (by decide)) u_fl_X6_224 dX6_roomAt_12 ?_
    refine lv_iload_n hx hb dX6_roomAt_15 rfl (lv_at hl 1 rfl) ?_
    obtain ⟨g5, h⟩ := x_chk h
    refine x_iald (n := 60) F hI (x_inH (show 0 < 10 by decide) (by decide)) (fun _ => rfl) g5 dX6_roomAt_16 ?_
    refine lv_iconst (v := (-1)) hx hb dX6_roomAt_17 (by decide) ?_
    refine lv_icmp_eq (tgt := 25) hx hb dX6_roomAt_18 (by decide) (fun c6 => ?_) (fun c6 => ?_)
    · have h := x_ift h c6
      refine lv_iconst (v := 0) hx hb dX6_roomAt_25 (by decide) ?_
      rcases x_or_el h with ⟨q7, h8, h⟩ | ⟨-, h⟩
      · rw [x_some h]
        exact xt_acv F Z hI (xt_runS (rest := []) F Z.2.1 hI (xX6_require l Z.1 X σ _ (0 : Int32) q7 h8) g_X6_55 hd_X6_require ⟨by decide, by decide⟩ ⟨rfl, rfl⟩ rfl hl.1 rfl (Nat.le_of_ble_eq_true rfl) dX6_roomAt_26 ⟨by decide, by decide⟩)
      · obtain ⟨r9, h10, h⟩ := x_bnd h
        refine x_acv hI (x_runS (rest := []) F hI (mX6_require l X σ _ (0 : Int32) r9 h10) g_X6_55 hd_X6_require ⟨by decide, by decide⟩ ⟨rfl, rfl⟩ rfl hl.1 rfl (Nat.le_of_ble_eq_true rfl) dX6_roomAt_26 ⟨Nat.zero_le _, Nat.zero_le _⟩) (fun H locs hI => ?_)
        cases h
    · have h := x_iff h c6
      refine lv_iconst (v := 1) hx hb dX6_roomAt_21 (by decide) ?_
      refine lv_goto (tgt := 26) hx hb dX6_roomAt_22 (by decide) ?_
      rcases x_or_el h with ⟨q11, h12, h⟩ | ⟨-, h⟩
      · rw [x_some h]
        exact xt_acv F Z hI (xt_runS (rest := []) F Z.2.1 hI (xX6_require l Z.1 X σ _ (1 : Int32) q11 h12) g_X6_55 hd_X6_require ⟨by decide, by decide⟩ ⟨rfl, rfl⟩ rfl hl.1 rfl (Nat.le_of_ble_eq_true rfl) dX6_roomAt_26 ⟨by decide, by decide⟩)
      · obtain ⟨r13, h14, h⟩ := x_bnd h
        refine x_acv hI (x_runS (rest := []) F hI (mX6_require l X σ _ (1 : Int32) r13 h14) g_X6_55 hd_X6_require ⟨by decide, by decide⟩ ⟨rfl, rfl⟩ rfl hl.1 rfl (Nat.le_of_ble_eq_true rfl) dX6_roomAt_26 ⟨Nat.zero_le _, Nat.zero_le _⟩) (fun H locs hI => ?_)
        cases h
abbrev rm_X6_sent : Room := { frames := 1, cells := 0, slots := 0, locals := 22 }
def fX6_sent (σ : x_S) (a1 : Int32) : Option Int32 := (Option.bind (fX6_requireRange a1 (0 : Int32) (6 : Int32)) fun r1 => (if x_in a1 7 then some (σ 0 4 (Int32.toNatClampNeg a1)) else none))
set_option maxHeartbeats 4000000 in
set_option maxRecDepth 100000 in
theorem mX6_sent (l : Launch) (X : x_T) (sz : Nat) (σ : x_S) (a1 : Int32) (r : Int32) (h : fX6_sent σ a1 = some r) : Met l yX6_sent (x_ws yX6_sent cX6_sent 2 (some .int)) rm_X6_sent (x_Pc X σ sz [.ref (X.2.2 10 32), .int a1]) (x_Qi X r σ sz) 0 0 (x_A X sz) := by
  refine Met.ofW (cc := cX6_sent) (maxL := 2) (ret := (some .int)) (by decide) rfl ?_
  intro p e s m args below meth c s₁ B hml hv
  obtain ⟨F, hI, rfl, rfl⟩ := x_begin B hml hv
  replace F : x_F p s m _ meth c cX6_sent 2 RX6 (some .int) := F
  have hx := F.1
  have hb := F.2.1
  have hml := F.2.2.1
  have hown := F.2.2.2.1
  have hts := F.2.2.2.2.1
  refine x_entry (vs := [.ref (X.2.2 10 32), .int a1]) (n := 2) (Nat.le_of_ble_eq_true rfl) (fun ls hl => ?_)
  replace hl : lv_has ls 2 [(0, .ref (X.2.2 10 32)), (1, .int a1)] := hl
  unfold fX6_sent at h
  refine lv_iload_n hx hb dX6_sent_0 rfl (lv_at hl 1 rfl) ?_
  refine lv_iconst (v := 0) hx hb dX6_sent_1 (by decide) ?_
  refine lv_bipush (v := 6) hx hb dX6_sent_2 (by decide) ?_
  obtain ⟨r1, h2, h⟩ := x_bnd h
  refine x_acv hI (x_runS (rest := []) F hI (mX6_requireRange l X σ _ a1 (0 : Int32) (6 : Int32) r1 h2) g_X6_114 hd_X6_requireRange ⟨by decide, by decide⟩ ⟨rfl, rfl⟩ rfl hl.1 rfl (Nat.le_of_ble_eq_true rfl) dX6_sent_4 ⟨Nat.zero_le _, Nat.zero_le _⟩) (fun H locs hI => ?_)
  refine lv_aload_n hx hb dX6_sent_7 rfl (lv_at hl 0 rfl) ?_
  refine xsg_6_0 F hI (x_inO (by decide)) u_fl_X6_12 dX6_sent_8 ?_
  refine xsg_2_3 F hI (x_inH (show 0 < 10 by decide) (by decide)) u_fl_X6_225 dX6_sent_11 ?_
  refine lv_iload_n hx hb dX6_sent_14 rfl (lv_at hl 1 rfl) ?_
  obtain ⟨g3, h⟩ := x_chk h
  refine x_iald (n := 7) F hI (x_inH (show 0 < 10 by decide) (by decide)) (fun _ => rfl) g3 dX6_sent_15 ?_
  rw [x_some h]
  exact x_iret F hI dX6_sent_16
abbrev rx_X6_sent : Room := { frames := 7, cells := 1, slots := 6, locals := 104 }
def eX6_sent (σ : x_S) (a1 : Int32) : Option Nat := (x_or (eX6_requireRange a1 (0 : Int32) (6 : Int32)) (fun q1 => some q1) (Option.bind (fX6_requireRange a1 (0 : Int32) (6 : Int32)) fun r3 => none))
set_option maxHeartbeats 4000000 in
set_option maxRecDepth 100000 in
theorem xX6_sent (l : Launch) (hl0 : l.stackTraces = false) (X : x_T) (sz : Nat) (σ : x_S) (a1 : Int32) (r : Nat) (h : eX6_sent σ a1 = some r) : vx_Met l yX6_sent (x_ws yX6_sent cX6_sent 2 (some .int)) rx_X6_sent (x_PcT X σ sz [.ref (X.2.2 10 32), .int a1]) (xt_Qi X sz) (xt_C X r σ sz) 1 6 (x_A X sz) := by
  refine vx_ofW (cc := cX6_sent) (maxL := 2) (ret := (some .int)) (by decide) rfl ?_
  intro p e s m args below meth c s₁ B hml hnt hv
  obtain ⟨F, Z, hI, rfl, rfl⟩ := xt_begin hl0 B hml hnt hv
  replace F : x_F p s m _ meth c cX6_sent 2 RX6 (some .int) := F
  have hx := F.1
  have hb := F.2.1
  have hml := F.2.2.1
  have hown := F.2.2.2.1
  have hts := F.2.2.2.2.1
  refine x_entry (vs := [.ref (X.2.2 10 32), .int a1]) (n := 2) (Nat.le_of_ble_eq_true rfl) (fun ls hl => ?_)
  replace hl : lv_has ls 2 [(0, .ref (X.2.2 10 32)), (1, .int a1)] := hl
  unfold eX6_sent at h
  refine lv_iload_n hx hb dX6_sent_0 rfl (lv_at hl 1 rfl) ?_
  refine lv_iconst (v := 0) hx hb dX6_sent_1 (by decide) ?_
  refine lv_bipush (v := 6) hx hb dX6_sent_2 (by decide) ?_
  rcases x_or_el h with ⟨q1, h2, h⟩ | ⟨-, h⟩
  · rw [x_some h]
    exact xt_acv F Z hI (xt_runS (rest := []) F Z.2.1 hI (xX6_requireRange l Z.1 X σ _ a1 (0 : Int32) (6 : Int32) q1 h2) g_X6_114 hd_X6_requireRange ⟨by decide, by decide⟩ ⟨rfl, rfl⟩ rfl hl.1 rfl (Nat.le_of_ble_eq_true rfl) dX6_sent_4 ⟨by decide, by decide⟩)
  · obtain ⟨r3, h4, h⟩ := x_bnd h
    refine x_acv hI (x_runS (rest := []) F hI (mX6_requireRange l X σ _ a1 (0 : Int32) (6 : Int32) r3 h4) g_X6_114 hd_X6_requireRange ⟨by decide, by decide⟩ ⟨rfl, rfl⟩ rfl hl.1 rfl (Nat.le_of_ble_eq_true rfl) dX6_sent_4 ⟨Nat.zero_le _, Nat.zero_le _⟩) (fun H locs hI => ?_)
    cases h
